theorem inA_X0 : ∀ w ∈ u_ws RX0 TX0 4, w ∈ AW := fun w h => mAW ((by decide +kernel : ∀ w ∈ u_ws RX0 TX0 4, w ∈ lw_tbl) w h) ((by decide +kernel : ∀ w ∈ u_ws RX0 TX0 4, goodWord w = true) w h)
theorem inA_X1 : ∀ w ∈ u_ws RX1 TX1 3, w ∈ AW := fun w h => mAW ((by decide +kernel : ∀ w ∈ u_ws RX1 TX1 3, w ∈ lw_tbl) w h) ((by decide +kernel : ∀ w ∈ u_ws RX1 TX1 3, goodWord w = true) w h)
theorem inA_X2 : ∀ w ∈ u_ws RX2 TX2 7, w ∈ AW := fun w h => mAW ((by decide +kernel : ∀ w ∈ u_ws RX2 TX2 7, w ∈ lw_tbl) w h) ((by decide +kernel : ∀ w ∈ u_ws RX2 TX2 7, goodWord w = true) w h)
theorem inA_X3 : ∀ w ∈ u_ws RX3 TX3 10, w ∈ AW := fun w h => mAW ((by decide +kernel : ∀ w ∈ u_ws RX3 TX3 10, w ∈ lw_tbl) w h) ((by decide +kernel : ∀ w ∈ u_ws RX3 TX3 10, goodWord w = true) w h)
theorem inA_X4 : ∀ w ∈ u_ws RX4 TX4 4, w ∈ AW := fun w h => mAW ((by decide +kernel : ∀ w ∈ u_ws RX4 TX4 4, w ∈ lw_tbl) w h) ((by decide +kernel : ∀ w ∈ u_ws RX4 TX4 4, goodWord w = true) w h)
theorem inA_X5 : ∀ w ∈ u_ws RX5 TX5 12, w ∈ AW := fun w h => mAW ((by decide +kernel : ∀ w ∈ u_ws RX5 TX5 12, w ∈ lw_tbl) w h) ((by decide +kernel : ∀ w ∈ u_ws RX5 TX5 12, goodWord w = true) w h)
theorem inA_X6 : ∀ w ∈ u_ws RX6 TX6 35, w ∈ AW := fun w h => mAW ((by decide +kernel : ∀ w ∈ u_ws RX6 TX6 35, w ∈ lw_tbl) w h) ((by decide +kernel : ∀ w ∈ u_ws RX6 TX6 35, goodWord w = true) w h)
def CH (g : GG) (A : Nat → Prop) (lay : Nat → Nat) (σ : CS) (H : Heap) : Prop := va_P g.1 vwCl (cW g lay σ) H ∧ va_D A (cW g lay σ)
section CRO
variable {p : Program} {l : Launch} {e : Env} {R : Room} {s : State} {m : MethodId} {args : Array Value} {below : List Frame} {meth : Method} {c : Code} {Q : State → Prop} {A : Nat → Prop} {nL : Nat} {k n pc : Nat} {lo : List (Nat × Value)} {st : List Value} {cc : ByteArray} {own : String} {g : GG} {lay : Nat → Nat} {σ : CS}
theorem at_F (g : GG) (lay : Nat → Nat) (σ : CS) : (cW g lay σ)[0]? = some (ga g 0, .inr (5, fdFs (ga g) σ)) := by
  rw [cW_get (by omega), cA_lo g lay (by omega)]
  rfl
theorem rv_F : RCV (CH g A) g σ (ga g 0) RX5 := fun lay H s hW hK => va_recv hK hW.1 (ci := 5) (q0 := 0) rfl (at_F g lay σ)
theorem g_F (q : Nat) (C : KX p m c cc nL s args own) (K : KC l g A s) (j : Nat) (hj : j < 12) {index : Nat} {v : Value} (hw : Cond.fieldLink own index (TX5 j).1 (TX5 j).2.1 (TX5 j).2.2.1 ∈ AW) (hv : (fdFs (ga g) σ)[j]? = some v) (hd : decode cc pc = .ok (.getfield index, 3)) (hq : pc + 3 = q) (KK : JJ p l e R s m args below meth c Q A nL (CH g A lay σ) k n q lo (v :: st)) : JJ p l e R s m args below meth c Q A nL (CH g A lay σ) k n pc lo (.ref (ga g 0) :: st) := by
  subst hq
  exact fun H locs ls hW hS hl => va_get C.1 C.2.1 C.2.2.2.2 inA_X5 C.2.2.2.1 K.2.1 hW.1 0 (at_F g lay σ) rfl j hj (C.w hw) (fun _ h => h) hv hd (KK H locs ls hW hS hl)
theorem s_F (g : GG) (lay : Nat → Nat) (σ : CS) (j : Nat) (hj : 5 ≤ j ∧ j < 12) (v : Int32) : (cW g lay σ).set 0 (ga g 0, .inr (5, (fdFs (ga g) σ).set j (.int v))) = cW g lay (pt σ (0 + j) 0 0 v) := by
  rw [← cA_lo g lay (by omega : 0 < 75)]
  refine cE_set g lay σ (by omega) (by omega) (by omega) (by omega) (by omega) (by omega) (by omega) (by omega) (by omega) (by omega) (by omega) (by omega) (by omega) (by omega) ?_
  unfold cE
  have h9 : j = 5 ∨ j = 6 ∨ j = 7 ∨ j = 8 ∨ j = 9 ∨ j = 10 ∨ j = 11 := by omega
  rcases h9 with rfl | rfl | rfl | rfl | rfl | rfl | rfl <;> simp [fdFs, pt]
theorem p_F (q : Nat) (C : KX p m c cc nL s args own) (K : KC l g A s) (j : Nat) (hj : 5 ≤ j ∧ j < 12) {index : Nat} {v : Int32} (hw : Cond.fieldLink own index (TX5 j).1 (TX5 j).2.1 (TX5 j).2.2.1 ∈ AW) (hn : narrow (tyX5 j) (.int v) = .int v) (hfit : fits (tyX5 j) (.int v) = true) (hd : decode cc pc = .ok (.putfield index, 3)) (hq : pc + 3 = q) (KK : ∀ σ1 : CS, σ1 = pt σ (0 + j) 0 0 v → JJ p l e R s m args below meth c Q A nL (CH g A lay σ1) k n q lo (st)) : JJ p l e R s m args below meth c Q A nL (CH g A lay σ) k n pc lo (.int v :: .ref (ga g 0) :: st) := by
  subst hq
  intro H locs ls hW hS hl
  have hfin : (TX5 j).2.2.2 = false := by
    have h9 : j = 5 ∨ j = 6 ∨ j = 7 ∨ j = 8 ∨ j = 9 ∨ j = 10 ∨ j = 11 := by omega
    rcases h9 with rfl | rfl | rfl | rfl | rfl | rfl | rfl <;> rfl
  refine va_put C.1 C.2.1 C.2.2.2.2 inA_X5 tyX5 tyX5_ok nmX5 C.2.2.2.1 K.2.1 hW.1 hW.2 hS 0 (at_F g lay σ) rfl j (by omega) (C.w hw) (fun _ h => h) hfin (tyX5_ok j (by omega)) hn hfit (by simp [fdFs]; omega) hd (fun H1 locs1 hP hD hS1 => ?_)
  rw [s_F g lay σ j hj v] at hP hD
  exact KK _ rfl H1 locs1 ls ⟨hP, hD⟩ hS1 hl
theorem at_R (g : GG) (lay : Nat → Nat) (σ : CS) : (cW g lay σ)[3]? = some (ga g 3, .inr (2, rdFs σ)) := by
  rw [cW_get (by omega), cA_lo g lay (by omega)]
  rfl
theorem rv_R : RCV (CH g A) g σ (ga g 3) RX2 := fun lay H s hW hK => va_recv hK hW.1 (ci := 2) (q0 := 3) rfl (at_R g lay σ)
theorem g_R (q : Nat) (C : KX p m c cc nL s args own) (K : KC l g A s) (j : Nat) (hj : j < 7) {index : Nat} {v : Value} (hw : Cond.fieldLink own index (TX2 j).1 (TX2 j).2.1 (TX2 j).2.2.1 ∈ AW) (hv : (rdFs σ)[j]? = some v) (hd : decode cc pc = .ok (.getfield index, 3)) (hq : pc + 3 = q) (KK : JJ p l e R s m args below meth c Q A nL (CH g A lay σ) k n q lo (v :: st)) : JJ p l e R s m args below meth c Q A nL (CH g A lay σ) k n pc lo (.ref (ga g 3) :: st) := by
  subst hq
  exact fun H locs ls hW hS hl => va_get C.1 C.2.1 C.2.2.2.2 inA_X2 C.2.2.2.1 K.2.1 hW.1 3 (at_R g lay σ) rfl j hj (C.w hw) (fun _ h => h) hv hd (KK H locs ls hW hS hl)
theorem s_R (g : GG) (lay : Nat → Nat) (σ : CS) (j : Nat) (hj : 0 ≤ j ∧ j < 7) (v : Int32) : (cW g lay σ).set 3 (ga g 3, .inr (2, (rdFs σ).set j (.int v))) = cW g lay (pt σ (70 + j) 0 0 v) := by
  rw [← cA_lo g lay (by omega : 3 < 75)]
  refine cE_set g lay σ (by omega) (by omega) (by omega) (by omega) (by omega) (by omega) (by omega) (by omega) (by omega) (by omega) (by omega) (by omega) (by omega) (by omega) ?_
  unfold cE
  have h9 : j = 0 ∨ j = 1 ∨ j = 2 ∨ j = 3 ∨ j = 4 ∨ j = 5 ∨ j = 6 := by omega
  rcases h9 with rfl | rfl | rfl | rfl | rfl | rfl | rfl <;> simp [rdFs, pt]
theorem p_R (q : Nat) (C : KX p m c cc nL s args own) (K : KC l g A s) (j : Nat) (hj : 0 ≤ j ∧ j < 7) {index : Nat} {v : Int32} (hw : Cond.fieldLink own index (TX2 j).1 (TX2 j).2.1 (TX2 j).2.2.1 ∈ AW) (hn : narrow (tyX2 j) (.int v) = .int v) (hfit : fits (tyX2 j) (.int v) = true) (hd : decode cc pc = .ok (.putfield index, 3)) (hq : pc + 3 = q) (KK : ∀ σ1 : CS, σ1 = pt σ (70 + j) 0 0 v → JJ p l e R s m args below meth c Q A nL (CH g A lay σ1) k n q lo (st)) : JJ p l e R s m args below meth c Q A nL (CH g A lay σ) k n pc lo (.int v :: .ref (ga g 3) :: st) := by
  subst hq
  intro H locs ls hW hS hl
  have hfin : (TX2 j).2.2.2 = false := by
    have h9 : j = 0 ∨ j = 1 ∨ j = 2 ∨ j = 3 ∨ j = 4 ∨ j = 5 ∨ j = 6 := by omega
    rcases h9 with rfl | rfl | rfl | rfl | rfl | rfl | rfl <;> rfl
  refine va_put C.1 C.2.1 C.2.2.2.2 inA_X2 tyX2 tyX2_ok nmX2 C.2.2.2.1 K.2.1 hW.1 hW.2 hS 3 (at_R g lay σ) rfl j (by omega) (C.w hw) (fun _ h => h) hfin (tyX2_ok j (by omega)) hn hfit (by simp [rdFs]; omega) hd (fun H1 locs1 hP hD hS1 => ?_)
  rw [s_R g lay σ j hj v] at hP hD
  exact KK _ rfl H1 locs1 ls ⟨hP, hD⟩ hS1 hl
theorem at_N (g : GG) (lay : Nat → Nat) (σ : CS) {i : Nat} (hi : i < 7) : (cW g lay σ)[(5 + i)]? = some (ga g (5 + i), .inr (3, ndFs (ga g) σ i)) := by
  rw [cW_get (by omega), cA_lo g lay (by omega), cE_N g lay σ hi]
theorem rv_N {i : Nat} (hi : i < 7) : RCV (CH g A) g σ (ga g (5 + i)) RX3 := fun lay H s hW hK => va_recv hK hW.1 (ci := 3) (q0 := (5 + i)) rfl (at_N g lay σ hi)
theorem g_N (q : Nat) (C : KX p m c cc nL s args own) (K : KC l g A s) {i : Nat} (hi : i < 7) (j : Nat) (hj : j < 10) {index : Nat} {v : Value} (hw : Cond.fieldLink own index (TX3 j).1 (TX3 j).2.1 (TX3 j).2.2.1 ∈ AW) (hv : (ndFs (ga g) σ i)[j]? = some v) (hd : decode cc pc = .ok (.getfield index, 3)) (hq : pc + 3 = q) (KK : JJ p l e R s m args below meth c Q A nL (CH g A lay σ) k n q lo (v :: st)) : JJ p l e R s m args below meth c Q A nL (CH g A lay σ) k n pc lo (.ref (ga g (5 + i)) :: st) := by
  subst hq
  exact fun H locs ls hW hS hl => va_get C.1 C.2.1 C.2.2.2.2 inA_X3 C.2.2.2.1 K.2.1 hW.1 (5 + i) (at_N g lay σ hi) rfl j hj (C.w hw) (fun _ h => h) hv hd (KK H locs ls hW hS hl)
theorem s_N (g : GG) (lay : Nat → Nat) (σ : CS) {i : Nat} (hi : i < 7) (j : Nat) (hj : 5 ≤ j ∧ j < 10) (v : Int32) : (cW g lay σ).set (5 + i) (ga g (5 + i), .inr (3, (ndFs (ga g) σ i).set j (.int v))) = cW g lay (pt σ (20 + j) i 0 v) := by
  rw [← cA_lo g lay (by omega : (5 + i) < 75)]
  refine cE_set g lay σ (by omega) (by omega) (by omega) (by omega) (by omega) (by omega) (by omega) (by omega) (by omega) (by omega) (by omega) (by omega) (by omega) (by omega) ?_
  rw [cE_N g lay _ hi]
  have h9 : j = 5 ∨ j = 6 ∨ j = 7 ∨ j = 8 ∨ j = 9 := by omega
  rcases h9 with rfl | rfl | rfl | rfl | rfl <;> simp [ndFs, pt]
theorem p_N (q : Nat) (C : KX p m c cc nL s args own) (K : KC l g A s) {i : Nat} (hi : i < 7) (j : Nat) (hj : 5 ≤ j ∧ j < 10) {index : Nat} {v : Int32} (hw : Cond.fieldLink own index (TX3 j).1 (TX3 j).2.1 (TX3 j).2.2.1 ∈ AW) (hn : narrow (tyX3 j) (.int v) = .int v) (hfit : fits (tyX3 j) (.int v) = true) (hd : decode cc pc = .ok (.putfield index, 3)) (hq : pc + 3 = q) (KK : ∀ σ1 : CS, σ1 = pt σ (20 + j) i 0 v → JJ p l e R s m args below meth c Q A nL (CH g A lay σ1) k n q lo (st)) : JJ p l e R s m args below meth c Q A nL (CH g A lay σ) k n pc lo (.int v :: .ref (ga g (5 + i)) :: st) := by
  subst hq
  intro H locs ls hW hS hl
  have hfin : (TX3 j).2.2.2 = false := by
    have h9 : j = 5 ∨ j = 6 ∨ j = 7 ∨ j = 8 ∨ j = 9 := by omega
    rcases h9 with rfl | rfl | rfl | rfl | rfl <;> rfl
  refine va_put C.1 C.2.1 C.2.2.2.2 inA_X3 tyX3 tyX3_ok nmX3 C.2.2.2.1 K.2.1 hW.1 hW.2 hS (5 + i) (at_N g lay σ hi) rfl j (by omega) (C.w hw) (fun _ h => h) hfin (tyX3_ok j (by omega)) hn hfit (by simp [ndFs]; omega) hd (fun H1 locs1 hP hD hS1 => ?_)
  rw [s_N g lay σ hi j hj v] at hP hD
  exact KK _ rfl H1 locs1 ls ⟨hP, hD⟩ hS1 hl
theorem at_W (g : GG) (lay : Nat → Nat) (σ : CS) {i : Nat} (hi : i < 7) : (cW g lay σ)[(12 + i)]? = some (ga g (12 + i), .inr (4, wrFs lay σ i)) := by
  rw [cW_get (by omega), cA_lo g lay (by omega), cE_W g lay σ hi]
theorem rv_W {i : Nat} (hi : i < 7) : RCV (CH g A) g σ (ga g (12 + i)) RX4 := fun lay H s hW hK => va_recv hK hW.1 (ci := 4) (q0 := (12 + i)) rfl (at_W g lay σ hi)
theorem g_W (q : Nat) (C : KX p m c cc nL s args own) (K : KC l g A s) {i : Nat} (hi : i < 7) (j : Nat) (hj : j < 4) {index : Nat} {v : Value} (hw : Cond.fieldLink own index (TX4 j).1 (TX4 j).2.1 (TX4 j).2.2.1 ∈ AW) (hv : (wrFs lay σ i)[j]? = some v) (hd : decode cc pc = .ok (.getfield index, 3)) (hq : pc + 3 = q) (KK : JJ p l e R s m args below meth c Q A nL (CH g A lay σ) k n q lo (v :: st)) : JJ p l e R s m args below meth c Q A nL (CH g A lay σ) k n pc lo (.ref (ga g (12 + i)) :: st) := by
  subst hq
  exact fun H locs ls hW hS hl => va_get C.1 C.2.1 C.2.2.2.2 inA_X4 C.2.2.2.1 K.2.1 hW.1 (12 + i) (at_W g lay σ hi) rfl j hj (C.w hw) (fun _ h => h) hv hd (KK H locs ls hW hS hl)
theorem s_W (g : GG) (lay : Nat → Nat) (σ : CS) {i : Nat} (hi : i < 7) (j : Nat) (hj : 3 ≤ j ∧ j < 4) (v : Int32) : (cW g lay σ).set (12 + i) (ga g (12 + i), .inr (4, (wrFs lay σ i).set j (.int v))) = cW g lay (pt σ (80 + j) i 0 v) := by
  rw [← cA_lo g lay (by omega : (12 + i) < 75)]
  refine cE_set g lay σ (by omega) (by omega) (by omega) (by omega) (by omega) (by omega) (by omega) (by omega) (by omega) (by omega) (by omega) (by omega) (by omega) (by omega) ?_
  rw [cE_W g lay _ hi]
  have h9 : j = 3 := by omega
  rcases h9 with rfl <;> simp [wrFs, pt]
theorem p_W (q : Nat) (C : KX p m c cc nL s args own) (K : KC l g A s) {i : Nat} (hi : i < 7) (j : Nat) (hj : 3 ≤ j ∧ j < 4) {index : Nat} {v : Int32} (hw : Cond.fieldLink own index (TX4 j).1 (TX4 j).2.1 (TX4 j).2.2.1 ∈ AW) (hn : narrow (tyX4 j) (.int v) = .int v) (hfit : fits (tyX4 j) (.int v) = true) (hd : decode cc pc = .ok (.putfield index, 3)) (hq : pc + 3 = q) (KK : ∀ σ1 : CS, σ1 = pt σ (80 + j) i 0 v → JJ p l e R s m args below meth c Q A nL (CH g A lay σ1) k n q lo (st)) : JJ p l e R s m args below meth c Q A nL (CH g A lay σ) k n pc lo (.int v :: .ref (ga g (12 + i)) :: st) := by
  subst hq
  intro H locs ls hW hS hl
  have hfin : (TX4 j).2.2.2 = false := by
    have h9 : j = 3 := by omega
    rcases h9 with rfl <;> rfl
  refine va_put C.1 C.2.1 C.2.2.2.2 inA_X4 tyX4 tyX4_ok nmX4 C.2.2.2.1 K.2.1 hW.1 hW.2 hS (12 + i) (at_W g lay σ hi) rfl j (by omega) (C.w hw) (fun _ h => h) hfin (tyX4_ok j (by omega)) hn hfit (by simp [wrFs]; omega) hd (fun H1 locs1 hP hD hS1 => ?_)
  rw [s_W g lay σ hi j hj v] at hP hD
  exact KK _ rfl H1 locs1 ls ⟨hP, hD⟩ hS1 hl
theorem at_D (g : GG) (lay : Nat → Nat) (σ : CS) {i : Nat} (hi : i < 15) : (cW g lay σ)[(26 + i)]? = some (ga g (26 + i), .inr (1, dkFs (ga g) σ i)) := by
  rw [cW_get (by omega), cA_lo g lay (by omega), cE_D g lay σ hi]
theorem rv_D {i : Nat} (hi : i < 15) : RCV (CH g A) g σ (ga g (26 + i)) RX1 := fun lay H s hW hK => va_recv hK hW.1 (ci := 1) (q0 := (26 + i)) rfl (at_D g lay σ hi)
theorem g_D (q : Nat) (C : KX p m c cc nL s args own) (K : KC l g A s) {i : Nat} (hi : i < 15) (j : Nat) (hj : j < 3) {index : Nat} {v : Value} (hw : Cond.fieldLink own index (TX1 j).1 (TX1 j).2.1 (TX1 j).2.2.1 ∈ AW) (hv : (dkFs (ga g) σ i)[j]? = some v) (hd : decode cc pc = .ok (.getfield index, 3)) (hq : pc + 3 = q) (KK : JJ p l e R s m args below meth c Q A nL (CH g A lay σ) k n q lo (v :: st)) : JJ p l e R s m args below meth c Q A nL (CH g A lay σ) k n pc lo (.ref (ga g (26 + i)) :: st) := by
  subst hq
  exact fun H locs ls hW hS hl => va_get C.1 C.2.1 C.2.2.2.2 inA_X1 C.2.2.2.1 K.2.1 hW.1 (26 + i) (at_D g lay σ hi) rfl j hj (C.w hw) (fun _ h => h) hv hd (KK H locs ls hW hS hl)
theorem s_D (g : GG) (lay : Nat → Nat) (σ : CS) {i : Nat} (hi : i < 15) (j : Nat) (hj : 0 ≤ j ∧ j < 1) (v : Int32) : (cW g lay σ).set (26 + i) (ga g (26 + i), .inr (1, (dkFs (ga g) σ i).set j (.int v))) = cW g lay (pt σ (60 + j) i 0 v) := by
  rw [← cA_lo g lay (by omega : (26 + i) < 75)]
  refine cE_set g lay σ (by omega) (by omega) (by omega) (by omega) (by omega) (by omega) (by omega) (by omega) (by omega) (by omega) (by omega) (by omega) (by omega) (by omega) ?_
  rw [cE_D g lay _ hi]
  have h9 : j = 0 := by omega
  rcases h9 with rfl <;> simp [dkFs, pt]
theorem p_D (q : Nat) (C : KX p m c cc nL s args own) (K : KC l g A s) {i : Nat} (hi : i < 15) (j : Nat) (hj : 0 ≤ j ∧ j < 1) {index : Nat} {v : Int32} (hw : Cond.fieldLink own index (TX1 j).1 (TX1 j).2.1 (TX1 j).2.2.1 ∈ AW) (hn : narrow (tyX1 j) (.int v) = .int v) (hfit : fits (tyX1 j) (.int v) = true) (hd : decode cc pc = .ok (.putfield index, 3)) (hq : pc + 3 = q) (KK : ∀ σ1 : CS, σ1 = pt σ (60 + j) i 0 v → JJ p l e R s m args below meth c Q A nL (CH g A lay σ1) k n q lo (st)) : JJ p l e R s m args below meth c Q A nL (CH g A lay σ) k n pc lo (.int v :: .ref (ga g (26 + i)) :: st) := by
  subst hq
  intro H locs ls hW hS hl
  have hfin : (TX1 j).2.2.2 = false := by
    have h9 : j = 0 := by omega
    rcases h9 with rfl <;> rfl
  refine va_put C.1 C.2.1 C.2.2.2.2 inA_X1 tyX1 tyX1_ok nmX1 C.2.2.2.1 K.2.1 hW.1 hW.2 hS (26 + i) (at_D g lay σ hi) rfl j (by omega) (C.w hw) (fun _ h => h) hfin (tyX1_ok j (by omega)) hn hfit (by simp [dkFs]; omega) hd (fun H1 locs1 hP hD hS1 => ?_)
  rw [s_D g lay σ hi j hj v] at hP hD
  exact KK _ rfl H1 locs1 ls ⟨hP, hD⟩ hS1 hl
theorem at_C (g : GG) (lay : Nat → Nat) (σ : CS) {i : Nat} (hi : i < 4) : (cW g lay σ)[(71 + i)]? = some (ga g (71 + i), .inr (0, dcFs σ i)) := by
  rw [cW_get (by omega), cA_lo g lay (by omega), cE_C g lay σ hi]
theorem rv_C {i : Nat} (hi : i < 4) : RCV (CH g A) g σ (ga g (71 + i)) RX0 := fun lay H s hW hK => va_recv hK hW.1 (ci := 0) (q0 := (71 + i)) rfl (at_C g lay σ hi)
theorem g_C (q : Nat) (C : KX p m c cc nL s args own) (K : KC l g A s) {i : Nat} (hi : i < 4) (j : Nat) (hj : j < 4) {index : Nat} {v : Value} (hw : Cond.fieldLink own index (TX0 j).1 (TX0 j).2.1 (TX0 j).2.2.1 ∈ AW) (hv : (dcFs σ i)[j]? = some v) (hd : decode cc pc = .ok (.getfield index, 3)) (hq : pc + 3 = q) (KK : JJ p l e R s m args below meth c Q A nL (CH g A lay σ) k n q lo (v :: st)) : JJ p l e R s m args below meth c Q A nL (CH g A lay σ) k n pc lo (.ref (ga g (71 + i)) :: st) := by
  subst hq
  exact fun H locs ls hW hS hl => va_get C.1 C.2.1 C.2.2.2.2 inA_X0 C.2.2.2.1 K.2.1 hW.1 (71 + i) (at_C g lay σ hi) rfl j hj (C.w hw) (fun _ h => h) hv hd (KK H locs ls hW hS hl)
theorem s_C (g : GG) (lay : Nat → Nat) (σ : CS) {i : Nat} (hi : i < 4) (j : Nat) (hj : 0 ≤ j ∧ j < 4) (v : Int32) : (cW g lay σ).set (71 + i) (ga g (71 + i), .inr (0, (dcFs σ i).set j (.int v))) = cW g lay (pt σ (50 + j) i 0 v) := by
  rw [← cA_lo g lay (by omega : (71 + i) < 75)]
  refine cE_set g lay σ (by omega) (by omega) (by omega) (by omega) (by omega) (by omega) (by omega) (by omega) (by omega) (by omega) (by omega) (by omega) (by omega) (by omega) ?_
  rw [cE_C g lay _ hi]
  have h9 : j = 0 ∨ j = 1 ∨ j = 2 ∨ j = 3 := by omega
  rcases h9 with rfl | rfl | rfl | rfl <;> simp [dcFs, pt]
theorem p_C (q : Nat) (C : KX p m c cc nL s args own) (K : KC l g A s) {i : Nat} (hi : i < 4) (j : Nat) (hj : 0 ≤ j ∧ j < 4) {index : Nat} {v : Int32} (hw : Cond.fieldLink own index (TX0 j).1 (TX0 j).2.1 (TX0 j).2.2.1 ∈ AW) (hn : narrow (tyX0 j) (.int v) = .int v) (hfit : fits (tyX0 j) (.int v) = true) (hd : decode cc pc = .ok (.putfield index, 3)) (hq : pc + 3 = q) (KK : ∀ σ1 : CS, σ1 = pt σ (50 + j) i 0 v → JJ p l e R s m args below meth c Q A nL (CH g A lay σ1) k n q lo (st)) : JJ p l e R s m args below meth c Q A nL (CH g A lay σ) k n pc lo (.int v :: .ref (ga g (71 + i)) :: st) := by
  subst hq
  intro H locs ls hW hS hl
  have hfin : (TX0 j).2.2.2 = false := by
    have h9 : j = 0 ∨ j = 1 ∨ j = 2 ∨ j = 3 := by omega
    rcases h9 with rfl | rfl | rfl | rfl <;> rfl
  refine va_put C.1 C.2.1 C.2.2.2.2 inA_X0 tyX0 tyX0_ok nmX0 C.2.2.2.1 K.2.1 hW.1 hW.2 hS (71 + i) (at_C g lay σ hi) rfl j (by omega) (C.w hw) (fun _ h => h) hfin (tyX0_ok j (by omega)) hn hfit (by simp [dcFs]; omega) hd (fun H1 locs1 hP hD hS1 => ?_)
  rw [s_C g lay σ hi j hj v] at hP hD
  exact KK _ rfl H1 locs1 ls ⟨hP, hD⟩ hS1 hl
/-- a row of ints of the world: row (f, i), its place t, its length -/
def ARR (σ : CS) (f i t len : Nat) : Prop := t < 96 ∧ (∀ (g : GG) (lay : Nat → Nat), cE g lay σ t = .inl (gI g, (len, .inl (σ f i)))) ∧ ∀ (g : GG) (lay : Nat → Nat) (σ1 : CS), (∀ f' i' : Nat, (f' = f → i' = i → False) → σ1 f' i' = σ f' i') → (cW g lay σ).set t (cA g lay t, .inl (gI g, (len, .inl (σ1 f i)))) = cW g lay σ1
theorem ar_I (σ : CS) : ARR σ 40 0 4 60 := by
  refine ⟨by omega, fun g lay => rfl, fun g lay σ1 R => cE_set1 g lay σ σ1 R (by omega) (by omega) (by omega) (by omega) (by omega) (by omega) (by omega) (by omega) (by omega) (by omega) (by omega) (by omega) (by omega) (by omega) ?_⟩
  rfl
theorem ca_I (g : GG) (lay : Nat → Nat) : cA g lay 4 = ga g 4 := cA_lo g lay (by omega)
theorem ar_V (σ : CS) {i : Nat} (hi : i < 7) : ARR σ 41 i (19 + i) 4 := by
  refine ⟨by omega, fun g lay => cE_V g lay σ hi, fun g lay σ1 R => cE_set1 g lay σ σ1 R (by omega) (by omega) (by omega) (by omega) (by omega) (by omega) (by omega) (by omega) (by omega) (by omega) (by omega) (by omega) (by omega) (by omega) ?_⟩
  rw [cE_V g lay _ hi]
theorem ca_V (g : GG) (lay : Nat → Nat) {i : Nat} (hi : i < 7) : cA g lay (19 + i) = ga g (19 + i) := cA_lo g lay (by omega)
theorem ar_B (σ : CS) {i : Nat} (hi : i < 15) : ARR σ 42 i (41 + i) 4 := by
  refine ⟨by omega, fun g lay => cE_B g lay σ hi, fun g lay σ1 R => cE_set1 g lay σ σ1 R (by omega) (by omega) (by omega) (by omega) (by omega) (by omega) (by omega) (by omega) (by omega) (by omega) (by omega) (by omega) (by omega) (by omega) ?_⟩
  rw [cE_B g lay _ hi]
theorem ca_B (g : GG) (lay : Nat → Nat) {i : Nat} (hi : i < 15) : cA g lay (41 + i) = ga g (41 + i) := cA_lo g lay (by omega)
theorem ar_U (σ : CS) {i : Nat} (hi : i < 15) : ARR σ 43 i (56 + i) 4 := by
  refine ⟨by omega, fun g lay => cE_U g lay σ hi, fun g lay σ1 R => cE_set1 g lay σ σ1 R (by omega) (by omega) (by omega) (by omega) (by omega) (by omega) (by omega) (by omega) (by omega) (by omega) (by omega) (by omega) (by omega) (by omega) ?_⟩
  rw [cE_U g lay _ hi]
theorem ca_U (g : GG) (lay : Nat → Nat) {i : Nat} (hi : i < 15) : cA g lay (56 + i) = ga g (56 + i) := cA_lo g lay (by omega)
theorem ar_1 (σ : CS) {i : Nat} (hi : i < 7) : ARR σ 44 i (75 + i) (tn (σ 47 i 0)) := by
  refine ⟨by omega, fun g lay => cE_1 g lay σ hi, fun g lay σ1 R => cE_set1 g lay σ σ1 R (by omega) (by omega) (by omega) (by omega) (by omega) (by omega) (by omega) (by omega) (by omega) (by omega) (by omega) (by omega) (by omega) (by omega) ?_⟩
  rw [cE_1 g lay _ hi, R 47 i (by omega)]
theorem ca_1 (g : GG) (lay : Nat → Nat) {i : Nat} (hi : i < 7) : cA g lay (75 + i) = lay i := cA_hi g lay i
theorem ar_2 (σ : CS) {i : Nat} (hi : i < 7) : ARR σ 45 i (82 + i) (tn (σ 48 i 0)) := by
  refine ⟨by omega, fun g lay => cE_2 g lay σ hi, fun g lay σ1 R => cE_set1 g lay σ σ1 R (by omega) (by omega) (by omega) (by omega) (by omega) (by omega) (by omega) (by omega) (by omega) (by omega) (by omega) (by omega) (by omega) (by omega) ?_⟩
  rw [cE_2 g lay _ hi, R 48 i (by omega)]
theorem ca_2 (g : GG) (lay : Nat → Nat) {i : Nat} (hi : i < 7) : cA g lay (82 + i) = lay (7 + i) := by rw [show 82 + i = 75 + (7 + i) by omega]; exact cA_hi g lay _
theorem ar_3 (σ : CS) {i : Nat} (hi : i < 7) : ARR σ 46 i (89 + i) (tn (σ 49 i 0)) := by
  refine ⟨by omega, fun g lay => cE_3 g lay σ hi, fun g lay σ1 R => cE_set1 g lay σ σ1 R (by omega) (by omega) (by omega) (by omega) (by omega) (by omega) (by omega) (by omega) (by omega) (by omega) (by omega) (by omega) (by omega) (by omega) ?_⟩
  rw [cE_3 g lay _ hi, R 49 i (by omega)]
theorem ca_3 (g : GG) (lay : Nat → Nat) {i : Nat} (hi : i < 7) : cA g lay (89 + i) = lay (14 + i) := by rw [show 89 + i = 75 + (14 + i) by omega]; exact cA_hi g lay _
theorem r_ild (q : Nat) (C : KX p m c cc nL s args own) (K : KC l g A s) {f i t len a : Nat} (hr : ARR σ f i t len) (ha : cA g lay t = a) {x : Int32} (hin : inb x len = true) (hd : decode cc pc = .ok (.iaload, 1)) (hq : pc + 1 = q) (KK : JJ p l e R s m args below meth c Q A nL (CH g A lay σ) k n q lo (.int (σ f i (tn x)) :: st)) : JJ p l e R s m args below meth c Q A nL (CH g A lay σ) k n pc lo (.int x :: .ref a :: st) := by
  subst hq
  subst ha
  exact fun H locs ls hW hS hl => va_iald C.1 C.2.1 K.2.1 hW.1 t 0 ((cW_get hr.1).trans (by rw [hr.2.1 g lay])) rfl (inb_in hin) hd (KK H locs ls hW hS hl)
theorem r_ist (q : Nat) (C : KX p m c cc nL s args own) (K : KC l g A s) {f i t len a : Nat} (hr : ARR σ f i t len) (ha : cA g lay t = a) {x v : Int32} (hin : inb x len = true) (hd : decode cc pc = .ok (.iastore, 1)) (hq : pc + 1 = q) (KK : ∀ σ1 : CS, σ1 = pt σ f i (tn x) v → JJ p l e R s m args below meth c Q A nL (CH g A lay σ1) k n q lo (st)) : JJ p l e R s m args below meth c Q A nL (CH g A lay σ) k n pc lo (.int v :: .int x :: .ref a :: st) := by
  subst hq
  subst ha
  intro H locs ls hW hS hl
  refine va_iast C.1 C.2.1 K.2.1 hW.1 hW.2 hS t 0 ((cW_get hr.1).trans (by rw [hr.2.1 g lay])) rfl (inb_in hin) hd (fun H1 locs1 hP hD hS1 => ?_)
  rw [← pt_upd, hr.2.2 g lay _ pt_row] at hP hD
  exact KK _ rfl H1 locs1 ls ⟨hP, hD⟩ hS1 hl
theorem r_len (q : Nat) (C : KX p m c cc nL s args own) (K : KC l g A s) {f i t len a : Nat} (hr : ARR σ f i t len) (ha : cA g lay t = a) (hd : decode cc pc = .ok (.arraylength, 1)) (hq : pc + 1 = q) (KK : JJ p l e R s m args below meth c Q A nL (CH g A lay σ) k n q lo (.int (nI len) :: st)) : JJ p l e R s m args below meth c Q A nL (CH g A lay σ) k n pc lo (.ref a :: st) := by
  subst hq
  subst ha
  exact fun H locs ls hW hS hl => va_alen (x := (len, .inl (σ f i))) (ty := .int) C.1 C.2.1 K.2.1 hW.1 t 0 ((cW_get hr.1).trans (by rw [hr.2.1 g lay])) rfl rfl hd (KK H locs ls hW hS hl)
theorem r_nodes (q : Nat) (C : KX p m c cc nL s args own) (K : KC l g A s) {x : Int32} (hin : inb x 7 = true) (hd : decode cc pc = .ok (.aaload, 1)) (hq : pc + 1 = q) (KK : JJ p l e R s m args below meth c Q A nL (CH g A lay σ) k n q lo (.ref (ga g (5 + tn x)) :: st)) : JJ p l e R s m args below meth c Q A nL (CH g A lay σ) k n pc lo (.int x :: .ref (ga g 1) :: st) := by
  subst hq
  exact fun H locs ls hW hS hl => va_aldq (C := RX3) (f := fun i => some (ga g (5 + i))) C.1 C.2.1 K.2.1 hW.1 1 2 ((cW_get (by omega)).trans rfl) rfl (inb_in hin) hd (KK H locs ls hW hS hl)
theorem r_decs (q : Nat) (C : KX p m c cc nL s args own) (K : KC l g A s) {x : Int32} (hin : inb x 4 = true) (hd : decode cc pc = .ok (.aaload, 1)) (hq : pc + 1 = q) (KK : JJ p l e R s m args below meth c Q A nL (CH g A lay σ) k n q lo (.ref (ga g (71 + tn x)) :: st)) : JJ p l e R s m args below meth c Q A nL (CH g A lay σ) k n pc lo (.int x :: .ref (ga g 2) :: st) := by
  subst hq
  exact fun H locs ls hW hS hl => va_aldq (C := RX0) (f := fun i => some (ga g (71 + i))) C.1 C.2.1 K.2.1 hW.1 2 3 ((cW_get (by omega)).trans rfl) rfl (inb_in hin) hd (KK H locs ls hW hS hl)
end CRO
