/-! ===== Writes.grow: three rows made anew, twice as long ===== -/
def CX (g : GG) (A : Nat → Prop) (lay : Nat → Nat) (σ : CS) (x : Nat × va_E) (H : Heap) : Prop := va_P g.1 vwCl (cW g lay σ ++ [x]) H ∧ va_D A (cW g lay σ ++ [x])
theorem cW_len {g : GG} {lay : Nat → Nat} {σ : CS} : (cW g lay σ).length = 96 := by simp [cW]
theorem cX_lo {g : GG} {lay : Nat → Nat} {σ : CS} {x : Nat × va_E} {k : Nat} (hk : k < 96) : (cW g lay σ ++ [x])[k]? = some (cA g lay k, cE g lay σ k) := by
  rw [List.getElem?_append_left (by rw [cW_len]; exact hk)]
  exact cW_get hk
theorem cX_hi {g : GG} {lay : Nat → Nat} {σ : CS} {x : Nat × va_E} : (cW g lay σ ++ [x])[96]? = some x := by
  rw [List.getElem?_append_right (by rw [cW_len]; omega), cW_len]
  rfl
theorem cX_set {g : GG} {lay : Nat → Nat} {σ : CS} {x y : Nat × va_E} : (cW g lay σ ++ [x]).set 96 y = cW g lay σ ++ [y] := by
  rw [List.set_append_right _ _ (by rw [cW_len]; omega), cW_len]
  rfl
theorem imin_len {a b : Nat} (h : a ≤ b) (hb : b < 2 ^ 31) : imin (nI a) (nI b) = nI a := if_neg (nI_nlt h hb)
theorem cp_copyOf : CPs yJ7_copyOf_59c91 cJ7_copyOf_59c91 3 (some (.array .int)) 2 := ⟨mw_717, mw_100, mw_718, by decide, by decide, by decide +kernel⟩
def MCo (l : Launch) (g : GG) (A : Nat → Prop) (lay : Nat → Nat) (σ : CS) (f i len a : Nat) : Prop := Met l yJ7_copyOf_59c91 (WY yJ7_copyOf_59c91 cJ7_copyOf_59c91 3 (some (.array .int))) (rmk 1 30 1 (len * 2)) (va_Pc [.ref a, .int (nI (len * 2))] (PC (CH g A) g A lay σ)) (va_Qr (fun _ : Unit => True) (fun _ q t => CX g A lay σ (q, .inl (gI g, (len * 2, .inl (va_cpy (σ f i) (fun _ => 0) 0 0 len)))) t.heap) A) 1 (len * 2) A
set_option maxHeartbeats 4000000 in
set_option maxRecDepth 100000 in
theorem c_copyOf {l : Launch} (hst : l.stackTraces = false) (g : GG) (A : Nat → Prop) (lay : Nat → Nat) {σ : CS} {f i t len a : Nat} (hr : ARR σ f i t len) (ha : cA g lay t = a) (h0 : 0 < len) (h1 : len ≤ 256) : MCo l g A lay σ f i len a := by
  refine Met_of2 (cc := cJ7_copyOf_59c91) (maxL := 3) (ret := some (.array .int)) (plainFor_of_name (by decide)) rfl ?_
  intro p e s m args below meth c s₁ B hml hv
  obtain ⟨rfl, hA, hW, hK, hX⟩ := hv
  have hown : s.vm.findClass RJ7 = some m.cls := findClass_of_methodNamed B.named
  have C : KX p m c cJ7_copyOf_59c91 3 s ([.ref a, .int (nI (len * 2))] : List Value).toArray RJ7 := ⟨B.exec, B.bytes, hml, hown, fun w hw => atoms_spec (ws := WY yJ7_copyOf_59c91 cJ7_copyOf_59c91 3 (some (.array .int))) B.pre w (List.mem_cons_of_mem _ hw)⟩
  have K : KC l g A s := ⟨hA, hK, hX, hst⟩
  have hrt := B.returns
  have hlk := B.notSynchronized
  have hl := lv_entry ([.ref a, .int (nI (len * 2))]) (n := 3) (Nat.le_of_ble_eq_true rfl)
  rw [lg_entry_eq]
  suffices J : JJ p l e (rmk 1 30 1 (len * 2)) s m ([.ref a, .int (nI (len * 2))] : List Value).toArray below meth c (MQ below (va_Qr (fun _ : Unit => True) (fun _ q t => CX g A lay σ (q, .inl (gI g, (len * 2, .inl (va_cpy (σ f i) (fun _ => 0) 0 0 len)))) t.heap) A) ([.ref a, .int (nI (len * 2))] : List Value).toArray s 1 (len * 2) A) A 3 (CH g A lay σ) 0 0 0 [(0, .ref a), (1, .int (nI (len * 2)))] [] from J s.heap [] _ hW va_S.rf hl
  have key : ∀ qa : Nat, JJ p l e (rmk 1 30 1 (len * 2)) s m ([.ref a, .int (nI (len * 2))] : List Value).toArray below meth c (MQ below (va_Qr (fun _ : Unit => True) (fun _ q t => CX g A lay σ (q, .inl (gI g, (len * 2, .inl (va_cpy (σ f i) (fun _ => 0) 0 0 len)))) t.heap) A) ([.ref a, .int (nI (len * 2))] : List Value).toArray s 1 (len * 2) A) A 3 (CX g A lay σ (qa, .inl (gI g, (len * 2, .inl (fun _ => 0))))) 1 (len * 2) 17 [(0, .ref a), (1, .int (nI (len * 2)))] [.ref qa] := by
    intro qa
    refine j_astore_n 18 C dJ7_copyOf_59c91_17 (lo' := [(2, .ref qa), (0, .ref a), (1, .int (nI (len * 2)))]) (by decide) rfl rfl ?_
    refine j_aload_n 19 C dJ7_copyOf_59c91_18 1 rfl rfl ?_
    refine j_iconst 20 C dJ7_copyOf_59c91_19 ic_0 rfl ?_
    refine j_aload_n 21 C dJ7_copyOf_59c91_20 0 rfl rfl ?_
    refine j_iconst 22 C dJ7_copyOf_59c91_21 ic_0 rfl ?_
    refine j_aload_n 23 C dJ7_copyOf_59c91_22 1 rfl rfl ?_
    intro H locs ls hW hS hl
    refine va_alen (x := (len, .inl (σ f i))) (ty := .int) (v := nI len) C.1 C.2.1 K.2.1 hW.1 t 0 ((cX_lo hr.1).trans (by rw [hr.2.1 g lay, ha])) rfl rfl dJ7_copyOf_59c91_23 ?_
    refine lv_iload_n C.1 C.2.1 dJ7_copyOf_59c91_24 rfl (lv_at hl 2 rfl) ?_
    refine va_mmin C.1 C.2.1 (C.2.2.1.trans hl.1.symm) C.2.2.2.1 (C.w mw_726) (C.w mmin_s) (C.w mm_i) (C.w mmin_c) (Nat.le_of_ble_eq_true rfl) (Nat.le_of_ble_eq_true rfl) (Nat.le_refl _) (Nat.le_refl _) dJ7_copyOf_59c91_25 ?_
    rw [show (if nI (len * 2) < nI len then nI (len * 2) else nI len) = nI len from imin_len (by omega) (by omega)]
    have e0 : (nI len).toNatClampNeg = len := nI_clamp (by omega)
    refine va_copyi (ty := .int) C.1 C.2.1 (C.2.2.1.trans hl.1.symm) C.2.2.2.1 (C.w mw_729) (C.w ac_n) (C.w ac_s) (C.w ac_i) K.2.1 hW.1 hW.2 hS t 96 0 0 ((cX_lo hr.1).trans (by rw [hr.2.1 g lay, ha])) cX_hi rfl rfl rfl (by decide) (by decide) (nI_pos (by omega)) (by rw [e0, sb_cl0]; omega) (by rw [e0, sb_cl0]; omega) (fun _ _ => rfl) (Nat.le_of_ble_eq_true rfl) (Nat.le_of_ble_eq_true rfl) dJ7_copyOf_59c91_28 (fun H1 locs1 hP hD hS1 => ?_)
    rw [cX_set, e0, sb_cl0] at hP hD
    refine lv_aload_n C.1 C.2.1 dJ7_copyOf_59c91_31 rfl (lv_at hl 0 rfl) ?_
    exact W.aret C.1 C.2.1 hrt (Or.inr ⟨_, rfl⟩) (Or.inr ⟨_, rfl⟩) (fun t ht _ => ⟨⟨(), qa, rfl, trivial, by show CX g A lay σ _ t.heap; rw [ht]; exact ⟨hP, hD⟩⟩, hS1.F ht⟩) hS1.2.2 dJ7_copyOf_59c91_32 hlk
  refine j_iload_n 1 C dJ7_copyOf_59c91_0 1 rfl rfl ?_
  refine j_aload_n 2 C dJ7_copyOf_59c91_1 0 rfl rfl ?_
  refine r_len 3 C K hr ha dJ7_copyOf_59c91_2 rfl ?_
  refine j_icmp_ne 6 14 C dJ7_copyOf_59c91_3 (by decide) rfl (fun _ => ?_) (fun hc => ?_)
  · refine j_iload_n 15 C dJ7_copyOf_59c91_14 1 rfl rfl ?_
    intro H locs ls hW hS hl
    refine va_newa (atype := .int) (a0 := (len * 2, .inl (fun _ => 0))) C.1 C.2.1 (C.w mw_152) rfl K.2.1 hW.1 hW.2 hS K.1 (fun _ => rfl) (nI_pos (by omega)) (nI_clamp (by omega)) (by show len * 2 * 4 ≤ _; omega) (Nat.le_of_ble_eq_true rfl) (by simp only [rmk]; omega) dJ7_copyOf_59c91_15 (fun qa cA H1 hK1 hP hD hS1 => ?_)
    have h5 : cA = gI g := by
      have a1 := (hK1.2 5 (cA, .int) rfl).2
      have a2 := (K.2.1.2 0 (gI g, .int) rfl).2
      exact Option.some.inj (a1.symm.trans a2)
    subst h5
    have J := key qa H1 locs ls ⟨hP, hD⟩ hS1 hl
    rw [show 0 + len * 2 = len * 2 from Nat.zero_add _]
    exact J
  · have := (nI_eq (a := len * 2) (b := len) (by omega) (by omega)).mp hc
    omega

theorem pgr_row {σ : CS} {f h o : Nat} : ∀ f' i' : Nat, (f' = f → i' = o → False) → (f' = h → i' = o → False) → pgr σ f h o f' i' = σ f' i' := fun f' i' h1 h2 => by
  funext j
  simp only [pgr]
  rw [if_neg (fun q => h2 q.1 q.2.1), if_neg (fun q => h1 q.1 q.2.1)]
theorem pgr_len {σ : CS} {f h o : Nat} : pgr σ f h o h o 0 = nI (tn (σ h o 0) * 2) := by simp [pgr]
theorem pgr_get {σ : CS} {f h o : Nat} (hne : f ≠ h) : pgr σ f h o f o = va_cpy (σ f o) (fun _ => 0) 0 0 (tn (σ h o 0)) := by
  funext j
  by_cases hj : j < tn (σ h o 0)
  · have h2 : ¬ tn (σ h o 0) ≤ j := by omega
    simp [pgr, va_cpy, hne, hj, h2]
  · have h2 : tn (σ h o 0) ≤ j := by omega
    simp [pgr, va_cpy, hne, hj, h2]
abbrev grX (g : GG) (σ : CS) (f h o qa : Nat) : Nat × va_E := (qa, .inl (gI g, (tn (σ h o 0) * 2, .inl (va_cpy (σ f o) (fun _ => 0) 0 0 (tn (σ h o 0))))))
theorem grE_0 (g : GG) (lay : Nat → Nat) (σ : CS) {o qa : Nat} (ho : o < 7) {k : Nat} (hk : k < 96) (h1 : k ≠ 12 + o) (h2 : k ≠ 75 + o) : cE g (va_up lay o qa) (pgr σ 44 47 o) k = cE g lay σ k := by
  have R : ∀ f' i' : Nat, ((f' = 44 ∨ f' = 47) → i' = o → False) → pgr σ 44 47 o f' i' = σ f' i' := fun f' i' hh => pgr_row f' i' (fun a b => hh (Or.inl a) b) (fun a b => hh (Or.inr a) b)
  unfold cE
  repeat' (refine ite_congr rfl (fun _ => ?_) (fun _ => ?_))
  · simp only [fdFs]
    rw [R 5 0 (by omega), R 6 0 (by omega), R 7 0 (by omega), R 8 0 (by omega), R 9 0 (by omega), R 10 0 (by omega), R 11 0 (by omega)]
  · rfl
  · rfl
  · simp only [rdFs]
    rw [R 70 0 (by omega), R 71 0 (by omega), R 72 0 (by omega), R 73 0 (by omega), R 74 0 (by omega), R 75 0 (by omega), R 76 0 (by omega)]
  · rw [R 40 0 (by omega)]
  · simp only [ndFs]
    rw [R 25 (k - 5) (by omega), R 26 (k - 5) (by omega), R 27 (k - 5) (by omega), R 28 (k - 5) (by omega), R 29 (k - 5) (by omega)]
  · simp only [wrFs]
    rw [R 83 (k - 12) (by omega), va_up_ne _ _ (by omega), va_up_ne _ _ (by omega), va_up_ne _ _ (by omega)]
  · rw [R 41 (k - 19) (by omega)]
  · simp only [dkFs]
    rw [R 60 (k - 26) (by omega)]
  · rw [R 42 (k - 41) (by omega)]
  · rw [R 43 (k - 56) (by omega)]
  · simp only [dcFs]
    rw [R 50 (k - 71) (by omega), R 51 (k - 71) (by omega), R 52 (k - 71) (by omega), R 53 (k - 71) (by omega)]
  · rw [R 47 (k - 75) (by omega), R 44 (k - 75) (by omega)]
  · rw [R 48 (k - 82) (by omega), R 45 (k - 82) (by omega)]
  · rw [R 49 (k - 89) (by omega), R 46 (k - 89) (by omega)]
set_option maxHeartbeats 1000000 in
theorem grW_0 (g : GG) (A : Nat → Prop) (lay : Nat → Nat) (σ : CS) {o qa : Nat} {H : Heap} (ho : o < 7) (hlen : tn (σ 47 o 0) ≤ 256)
    (hP : va_P g.1 vwCl ((cW g lay σ ++ [grX g σ 44 47 o qa]).set (12 + o) (ga g (12 + o), .inr (4, (wrFs lay σ o).set 0 (.ref qa)))) H)
    (hD : va_D A ((cW g lay σ ++ [grX g σ 44 47 o qa]).set (12 + o) (ga g (12 + o), .inr (4, (wrFs lay σ o).set 0 (.ref qa))))) :
    CH g A (va_up lay o qa) (pgr σ 44 47 o) H := by
  have at' : ∀ (k : Nat), k < 96 → ((cW g lay σ ++ [grX g σ 44 47 o qa]).set (12 + o) (ga g (12 + o), .inr (4, (wrFs lay σ o).set 0 (.ref qa))))[if k = 75 + o then 96 else k]? = some (cA g (va_up lay o qa) k, cE g (va_up lay o qa) (pgr σ 44 47 o) k) := by
    intro k hk
    rw [List.getElem?_set]
    by_cases e1 : k = 75 + o
    · subst e1
      rw [if_pos rfl, if_neg (by omega), cX_hi, ca_1 g _ ho, cE_1 g _ _ ho, pgr_get (by decide), pgr_len, va_up_self, show tn (nI (tn (σ 47 o 0) * 2)) = tn (σ 47 o 0) * 2 from nI_clamp (by omega)]
    · rw [if_neg e1]
      by_cases e2 : 12 + o = k
      · subst e2
        rw [if_pos rfl, if_pos (by rw [List.length_append, cW_len]; show 12 + o < 96 + 1; omega), cA_lo g _ (by omega), cE_W g _ _ ho]
        simp only [wrFs, List.set]
        rw [pgr_row 83 o (by omega) (by omega), va_up_self, va_up_ne _ _ (show 7 + o ≠ o by omega), va_up_ne _ _ (show 14 + o ≠ o by omega)]
      · rw [if_neg e2, cX_lo hk, grE_0 g lay σ ho hk (fun q => e2 q.symm) e1]
        by_cases e3 : k < 75
        · rw [cA_lo g _ e3, cA_lo g _ e3]
        · rw [show k = 75 + (k - 75) by omega, cA_hi, cA_hi, va_up_ne _ _ (by omega)]
  refine ⟨fun k q hk => ?_, fun i j p q hi hj e => ?_, fun k q hk => ?_⟩
  · have hk9 : k < 96 := by
      have := (List.getElem?_eq_some_iff.mp hk).1
      rw [cW_len] at this
      exact this
    rw [cW_get hk9] at hk
    cases hk
    exact hP _ _ (at' k hk9)
  · have hi9 : i < 96 := by
      have := (List.getElem?_eq_some_iff.mp hi).1
      rw [cW_len] at this
      exact this
    have hj9 : j < 96 := by
      have := (List.getElem?_eq_some_iff.mp hj).1
      rw [cW_len] at this
      exact this
    rw [cW_get hi9] at hi
    rw [cW_get hj9] at hj
    cases hi
    cases hj
    have h9 := hD.1 _ _ _ _ (at' i hi9) (at' j hj9) e
    by_cases a1 : i = 75 + o <;> by_cases a2 : j = 75 + o
    · omega
    · rw [if_pos a1, if_neg a2] at h9; omega
    · rw [if_neg a1, if_pos a2] at h9; omega
    · rw [if_neg a1, if_neg a2] at h9; exact h9
  · have hk9 : k < 96 := by
      have := (List.getElem?_eq_some_iff.mp hk).1
      rw [cW_len] at this
      exact this
    rw [cW_get hk9] at hk
    cases hk
    exact hD.2 _ _ (at' k hk9)
set_option maxHeartbeats 1000000 in
theorem grow_0 {p : Program} {l : Launch} {e : Env} {R : Room} {s : State} {m : MethodId} {args : Array Value} {below : List Frame} {meth : Method} {c : Code} {Q : State → Prop} {A : Nat → Prop} {nL : Nat} {k n pc : Nat} {lo : List (Nat × Value)} {cc : ByteArray} {g : GG} {lay : Nat → Nat} {σ : CS} {o : Nat} (q : Nat) (C : KX p m c cc nL s args RX4) (K : KC l g A s) (ho : o < 7) (h0 : 0 < tn (σ 47 o 0)) (h1 : tn (σ 47 o 0) ≤ 256) {ix : Nat} (hw : Cond.methodLink RX4 28 yJ7_copyOf_59c91 ∈ AW) (hf : Cond.fieldLink RX4 ix (TX4 0).1 (TX4 0).2.1 (TX4 0).2.2.1 ∈ AW) (d0 : decode cc pc = .ok (.invokestatic 28, 3)) (d1 : decode cc (pc + 3) = .ok (.putfield ix, 3)) (hR : 2 ≤ R.frames ∧ 52 ≤ R.locals) (hc : k + 1 ≤ R.cells ∧ n + tn (σ 47 o 0) * 2 ≤ R.slots) (hq : pc + 6 = q)
    (KK : ∀ lay' : Nat → Nat, JJ p l e R s m args below meth c Q A nL (CH g A lay' (pgr σ 44 47 o)) (k + 1) (n + tn (σ 47 o 0) * 2) q lo []) : JJ p l e R s m args below meth c Q A nL (CH g A lay σ) k n pc lo [.int (nI (tn (σ 47 o 0) * 2)), .ref (lay o), .ref (ga g (12 + o))] := by
  subst hq
  intro H locs ls hW hS hl
  obtain ⟨p1, p3, p4, p6, p7, p8⟩ := cp_copyOf
  have cb := callB_of (R := R) (rm := rmk 1 30 1 (tn (σ 47 o 0) * 2)) 2 C.2.2.2.2 (goodAW p4) rfl rfl rfl (C.w p3) (C.w hw) ⟨p6, p7, p8⟩ ⟨hR.1, hR.2⟩
  refine va_callr (va_runS (As := [.ref (lay o), .int (nI (tn (σ 47 o 0) * 2))]) (rest := [.ref (ga g (12 + o))]) C (c_copyOf K.2.2.2 g A lay (ar_1 σ ho) (ca_1 g lay ho) h0 h1) ⟨cb, C.w p1⟩ ⟨PC.blind, fun U hU hWm => ⟨rfl, fun q hq => K.1 q (Nat.le_trans hS.1 (by rw [← hU]; exact hq)), by rw [hU]; exact hW, va_K.moved hWm.alike K.2.1, by rw [hU]; exact XS.warm hWm (K.2.2.1.kept hS.2.1)⟩⟩ rfl rfl hl.1 rfl (lv_room (Nat.le_of_ble_eq_true rfl)) d0 hc) hS (fun q _ h => h) (fun q h => h) (fun u qa t H1 locs1 ht hvm hp hB hz hk hS1 => ?_)
  rw [ht] at hB
  refine va_put (D := g.1) (ty := .array .int) C.1 C.2.1 C.2.2.2.2 inA_X4 tyX4 tyX4_ok nmX4 C.2.2.2.1 K.2.1 hB.1 hB.2 hS1 (12 + o) ((cX_lo (by omega)).trans (by rw [cA_lo g lay (by omega), cE_W g lay σ ho])) rfl 0 (by decide) (C.w hf) (fun _ h => h) rfl (tyX4_ok 0 (by decide)) rfl rfl (Nat.le_of_ble_eq_true rfl) d1 (fun H2 locs2 hP hD hS2 => ?_)
  exact KK _ H2 locs2 ls (grW_0 g A lay σ ho h1 hP hD) hS2 hl
theorem grE_1 (g : GG) (lay : Nat → Nat) (σ : CS) {o qa : Nat} (ho : o < 7) {k : Nat} (hk : k < 96) (h1 : k ≠ 12 + o) (h2 : k ≠ 82 + o) : cE g (va_up lay (7 + o) qa) (pgr σ 45 48 o) k = cE g lay σ k := by
  have R : ∀ f' i' : Nat, ((f' = 45 ∨ f' = 48) → i' = o → False) → pgr σ 45 48 o f' i' = σ f' i' := fun f' i' hh => pgr_row f' i' (fun a b => hh (Or.inl a) b) (fun a b => hh (Or.inr a) b)
  unfold cE
  repeat' (refine ite_congr rfl (fun _ => ?_) (fun _ => ?_))
  · simp only [fdFs]
    rw [R 5 0 (by omega), R 6 0 (by omega), R 7 0 (by omega), R 8 0 (by omega), R 9 0 (by omega), R 10 0 (by omega), R 11 0 (by omega)]
  · rfl
  · rfl
  · simp only [rdFs]
    rw [R 70 0 (by omega), R 71 0 (by omega), R 72 0 (by omega), R 73 0 (by omega), R 74 0 (by omega), R 75 0 (by omega), R 76 0 (by omega)]
  · rw [R 40 0 (by omega)]
  · simp only [ndFs]
    rw [R 25 (k - 5) (by omega), R 26 (k - 5) (by omega), R 27 (k - 5) (by omega), R 28 (k - 5) (by omega), R 29 (k - 5) (by omega)]
  · simp only [wrFs]
    rw [R 83 (k - 12) (by omega), va_up_ne _ _ (by omega), va_up_ne _ _ (by omega), va_up_ne _ _ (by omega)]
  · rw [R 41 (k - 19) (by omega)]
  · simp only [dkFs]
    rw [R 60 (k - 26) (by omega)]
  · rw [R 42 (k - 41) (by omega)]
  · rw [R 43 (k - 56) (by omega)]
  · simp only [dcFs]
    rw [R 50 (k - 71) (by omega), R 51 (k - 71) (by omega), R 52 (k - 71) (by omega), R 53 (k - 71) (by omega)]
  · rw [R 47 (k - 75) (by omega), R 44 (k - 75) (by omega)]
  · rw [R 48 (k - 82) (by omega), R 45 (k - 82) (by omega)]
  · rw [R 49 (k - 89) (by omega), R 46 (k - 89) (by omega)]
set_option maxHeartbeats 1000000 in
theorem grW_1 (g : GG) (A : Nat → Prop) (lay : Nat → Nat) (σ : CS) {o qa : Nat} {H : Heap} (ho : o < 7) (hlen : tn (σ 48 o 0) ≤ 256)
    (hP : va_P g.1 vwCl ((cW g lay σ ++ [grX g σ 45 48 o qa]).set (12 + o) (ga g (12 + o), .inr (4, (wrFs lay σ o).set 1 (.ref qa)))) H)
    (hD : va_D A ((cW g lay σ ++ [grX g σ 45 48 o qa]).set (12 + o) (ga g (12 + o), .inr (4, (wrFs lay σ o).set 1 (.ref qa))))) :
    CH g A (va_up lay (7 + o) qa) (pgr σ 45 48 o) H := by
  have at' : ∀ (k : Nat), k < 96 → ((cW g lay σ ++ [grX g σ 45 48 o qa]).set (12 + o) (ga g (12 + o), .inr (4, (wrFs lay σ o).set 1 (.ref qa))))[if k = 82 + o then 96 else k]? = some (cA g (va_up lay (7 + o) qa) k, cE g (va_up lay (7 + o) qa) (pgr σ 45 48 o) k) := by
    intro k hk
    rw [List.getElem?_set]
    by_cases e1 : k = 82 + o
    · subst e1
      rw [if_pos rfl, if_neg (by omega), cX_hi, ca_2 g _ ho, cE_2 g _ _ ho, pgr_get (by decide), pgr_len, va_up_self, show tn (nI (tn (σ 48 o 0) * 2)) = tn (σ 48 o 0) * 2 from nI_clamp (by omega)]
    · rw [if_neg e1]
      by_cases e2 : 12 + o = k
      · subst e2
        rw [if_pos rfl, if_pos (by rw [List.length_append, cW_len]; show 12 + o < 96 + 1; omega), cA_lo g _ (by omega), cE_W g _ _ ho]
        simp only [wrFs, List.set]
        rw [pgr_row 83 o (by omega) (by omega), va_up_self, va_up_ne _ _ (show o ≠ 7 + o by omega), va_up_ne _ _ (show 14 + o ≠ 7 + o by omega)]
      · rw [if_neg e2, cX_lo hk, grE_1 g lay σ ho hk (fun q => e2 q.symm) e1]
        by_cases e3 : k < 75
        · rw [cA_lo g _ e3, cA_lo g _ e3]
        · rw [show k = 75 + (k - 75) by omega, cA_hi, cA_hi, va_up_ne _ _ (by omega)]
  refine ⟨fun k q hk => ?_, fun i j p q hi hj e => ?_, fun k q hk => ?_⟩
  · have hk9 : k < 96 := by
      have := (List.getElem?_eq_some_iff.mp hk).1
      rw [cW_len] at this
      exact this
    rw [cW_get hk9] at hk
    cases hk
    exact hP _ _ (at' k hk9)
  · have hi9 : i < 96 := by
      have := (List.getElem?_eq_some_iff.mp hi).1
      rw [cW_len] at this
      exact this
    have hj9 : j < 96 := by
      have := (List.getElem?_eq_some_iff.mp hj).1
      rw [cW_len] at this
      exact this
    rw [cW_get hi9] at hi
    rw [cW_get hj9] at hj
    cases hi
    cases hj
    have h9 := hD.1 _ _ _ _ (at' i hi9) (at' j hj9) e
    by_cases a1 : i = 82 + o <;> by_cases a2 : j = 82 + o
    · omega
    · rw [if_pos a1, if_neg a2] at h9; omega
    · rw [if_neg a1, if_pos a2] at h9; omega
    · rw [if_neg a1, if_neg a2] at h9; exact h9
  · have hk9 : k < 96 := by
      have := (List.getElem?_eq_some_iff.mp hk).1
      rw [cW_len] at this
      exact this
    rw [cW_get hk9] at hk
    cases hk
    exact hD.2 _ _ (at' k hk9)
set_option maxHeartbeats 1000000 in
theorem grow_1 {p : Program} {l : Launch} {e : Env} {R : Room} {s : State} {m : MethodId} {args : Array Value} {below : List Frame} {meth : Method} {c : Code} {Q : State → Prop} {A : Nat → Prop} {nL : Nat} {k n pc : Nat} {lo : List (Nat × Value)} {cc : ByteArray} {g : GG} {lay : Nat → Nat} {σ : CS} {o : Nat} (q : Nat) (C : KX p m c cc nL s args RX4) (K : KC l g A s) (ho : o < 7) (h0 : 0 < tn (σ 48 o 0)) (h1 : tn (σ 48 o 0) ≤ 256) {ix : Nat} (hw : Cond.methodLink RX4 28 yJ7_copyOf_59c91 ∈ AW) (hf : Cond.fieldLink RX4 ix (TX4 1).1 (TX4 1).2.1 (TX4 1).2.2.1 ∈ AW) (d0 : decode cc pc = .ok (.invokestatic 28, 3)) (d1 : decode cc (pc + 3) = .ok (.putfield ix, 3)) (hR : 2 ≤ R.frames ∧ 52 ≤ R.locals) (hc : k + 1 ≤ R.cells ∧ n + tn (σ 48 o 0) * 2 ≤ R.slots) (hq : pc + 6 = q)
    (KK : ∀ lay' : Nat → Nat, JJ p l e R s m args below meth c Q A nL (CH g A lay' (pgr σ 45 48 o)) (k + 1) (n + tn (σ 48 o 0) * 2) q lo []) : JJ p l e R s m args below meth c Q A nL (CH g A lay σ) k n pc lo [.int (nI (tn (σ 48 o 0) * 2)), .ref (lay (7 + o)), .ref (ga g (12 + o))] := by
  subst hq
  intro H locs ls hW hS hl
  obtain ⟨p1, p3, p4, p6, p7, p8⟩ := cp_copyOf
  have cb := callB_of (R := R) (rm := rmk 1 30 1 (tn (σ 48 o 0) * 2)) 2 C.2.2.2.2 (goodAW p4) rfl rfl rfl (C.w p3) (C.w hw) ⟨p6, p7, p8⟩ ⟨hR.1, hR.2⟩
  refine va_callr (va_runS (As := [.ref (lay (7 + o)), .int (nI (tn (σ 48 o 0) * 2))]) (rest := [.ref (ga g (12 + o))]) C (c_copyOf K.2.2.2 g A lay (ar_2 σ ho) (ca_2 g lay ho) h0 h1) ⟨cb, C.w p1⟩ ⟨PC.blind, fun U hU hWm => ⟨rfl, fun q hq => K.1 q (Nat.le_trans hS.1 (by rw [← hU]; exact hq)), by rw [hU]; exact hW, va_K.moved hWm.alike K.2.1, by rw [hU]; exact XS.warm hWm (K.2.2.1.kept hS.2.1)⟩⟩ rfl rfl hl.1 rfl (lv_room (Nat.le_of_ble_eq_true rfl)) d0 hc) hS (fun q _ h => h) (fun q h => h) (fun u qa t H1 locs1 ht hvm hp hB hz hk hS1 => ?_)
  rw [ht] at hB
  refine va_put (D := g.1) (ty := .array .int) C.1 C.2.1 C.2.2.2.2 inA_X4 tyX4 tyX4_ok nmX4 C.2.2.2.1 K.2.1 hB.1 hB.2 hS1 (12 + o) ((cX_lo (by omega)).trans (by rw [cA_lo g lay (by omega), cE_W g lay σ ho])) rfl 1 (by decide) (C.w hf) (fun _ h => h) rfl (tyX4_ok 1 (by decide)) rfl rfl (Nat.le_of_ble_eq_true rfl) d1 (fun H2 locs2 hP hD hS2 => ?_)
  exact KK _ H2 locs2 ls (grW_1 g A lay σ ho h1 hP hD) hS2 hl
theorem grE_2 (g : GG) (lay : Nat → Nat) (σ : CS) {o qa : Nat} (ho : o < 7) {k : Nat} (hk : k < 96) (h1 : k ≠ 12 + o) (h2 : k ≠ 89 + o) : cE g (va_up lay (14 + o) qa) (pgr σ 46 49 o) k = cE g lay σ k := by
  have R : ∀ f' i' : Nat, ((f' = 46 ∨ f' = 49) → i' = o → False) → pgr σ 46 49 o f' i' = σ f' i' := fun f' i' hh => pgr_row f' i' (fun a b => hh (Or.inl a) b) (fun a b => hh (Or.inr a) b)
  unfold cE
  repeat' (refine ite_congr rfl (fun _ => ?_) (fun _ => ?_))
  · simp only [fdFs]
    rw [R 5 0 (by omega), R 6 0 (by omega), R 7 0 (by omega), R 8 0 (by omega), R 9 0 (by omega), R 10 0 (by omega), R 11 0 (by omega)]
  · rfl
  · rfl
  · simp only [rdFs]
    rw [R 70 0 (by omega), R 71 0 (by omega), R 72 0 (by omega), R 73 0 (by omega), R 74 0 (by omega), R 75 0 (by omega), R 76 0 (by omega)]
  · rw [R 40 0 (by omega)]
  · simp only [ndFs]
    rw [R 25 (k - 5) (by omega), R 26 (k - 5) (by omega), R 27 (k - 5) (by omega), R 28 (k - 5) (by omega), R 29 (k - 5) (by omega)]
  · simp only [wrFs]
    rw [R 83 (k - 12) (by omega), va_up_ne _ _ (by omega), va_up_ne _ _ (by omega), va_up_ne _ _ (by omega)]
  · rw [R 41 (k - 19) (by omega)]
  · simp only [dkFs]
    rw [R 60 (k - 26) (by omega)]
  · rw [R 42 (k - 41) (by omega)]
  · rw [R 43 (k - 56) (by omega)]
  · simp only [dcFs]
    rw [R 50 (k - 71) (by omega), R 51 (k - 71) (by omega), R 52 (k - 71) (by omega), R 53 (k - 71) (by omega)]
  · rw [R 47 (k - 75) (by omega), R 44 (k - 75) (by omega)]
  · rw [R 48 (k - 82) (by omega), R 45 (k - 82) (by omega)]
  · rw [R 49 (k - 89) (by omega), R 46 (k - 89) (by omega)]
set_option maxHeartbeats 1000000 in
theorem grW_2 (g : GG) (A : Nat → Prop) (lay : Nat → Nat) (σ : CS) {o qa : Nat} {H : Heap} (ho : o < 7) (hlen : tn (σ 49 o 0) ≤ 256)
    (hP : va_P g.1 vwCl ((cW g lay σ ++ [grX g σ 46 49 o qa]).set (12 + o) (ga g (12 + o), .inr (4, (wrFs lay σ o).set 2 (.ref qa)))) H)
    (hD : va_D A ((cW g lay σ ++ [grX g σ 46 49 o qa]).set (12 + o) (ga g (12 + o), .inr (4, (wrFs lay σ o).set 2 (.ref qa))))) :
    CH g A (va_up lay (14 + o) qa) (pgr σ 46 49 o) H := by
  have at' : ∀ (k : Nat), k < 96 → ((cW g lay σ ++ [grX g σ 46 49 o qa]).set (12 + o) (ga g (12 + o), .inr (4, (wrFs lay σ o).set 2 (.ref qa))))[if k = 89 + o then 96 else k]? = some (cA g (va_up lay (14 + o) qa) k, cE g (va_up lay (14 + o) qa) (pgr σ 46 49 o) k) := by
    intro k hk
    rw [List.getElem?_set]
    by_cases e1 : k = 89 + o
    · subst e1
      rw [if_pos rfl, if_neg (by omega), cX_hi, ca_3 g _ ho, cE_3 g _ _ ho, pgr_get (by decide), pgr_len, va_up_self, show tn (nI (tn (σ 49 o 0) * 2)) = tn (σ 49 o 0) * 2 from nI_clamp (by omega)]
    · rw [if_neg e1]
      by_cases e2 : 12 + o = k
      · subst e2
        rw [if_pos rfl, if_pos (by rw [List.length_append, cW_len]; show 12 + o < 96 + 1; omega), cA_lo g _ (by omega), cE_W g _ _ ho]
        simp only [wrFs, List.set]
        rw [pgr_row 83 o (by omega) (by omega), va_up_self, va_up_ne _ _ (show o ≠ 14 + o by omega), va_up_ne _ _ (show 7 + o ≠ 14 + o by omega)]
      · rw [if_neg e2, cX_lo hk, grE_2 g lay σ ho hk (fun q => e2 q.symm) e1]
        by_cases e3 : k < 75
        · rw [cA_lo g _ e3, cA_lo g _ e3]
        · rw [show k = 75 + (k - 75) by omega, cA_hi, cA_hi, va_up_ne _ _ (by omega)]
  refine ⟨fun k q hk => ?_, fun i j p q hi hj e => ?_, fun k q hk => ?_⟩
  · have hk9 : k < 96 := by
      have := (List.getElem?_eq_some_iff.mp hk).1
      rw [cW_len] at this
      exact this
    rw [cW_get hk9] at hk
    cases hk
    exact hP _ _ (at' k hk9)
  · have hi9 : i < 96 := by
      have := (List.getElem?_eq_some_iff.mp hi).1
      rw [cW_len] at this
      exact this
    have hj9 : j < 96 := by
      have := (List.getElem?_eq_some_iff.mp hj).1
      rw [cW_len] at this
      exact this
    rw [cW_get hi9] at hi
    rw [cW_get hj9] at hj
    cases hi
    cases hj
    have h9 := hD.1 _ _ _ _ (at' i hi9) (at' j hj9) e
    by_cases a1 : i = 89 + o <;> by_cases a2 : j = 89 + o
    · omega
    · rw [if_pos a1, if_neg a2] at h9; omega
    · rw [if_neg a1, if_pos a2] at h9; omega
    · rw [if_neg a1, if_neg a2] at h9; exact h9
  · have hk9 : k < 96 := by
      have := (List.getElem?_eq_some_iff.mp hk).1
      rw [cW_len] at this
      exact this
    rw [cW_get hk9] at hk
    cases hk
    exact hD.2 _ _ (at' k hk9)
set_option maxHeartbeats 1000000 in
theorem grow_2 {p : Program} {l : Launch} {e : Env} {R : Room} {s : State} {m : MethodId} {args : Array Value} {below : List Frame} {meth : Method} {c : Code} {Q : State → Prop} {A : Nat → Prop} {nL : Nat} {k n pc : Nat} {lo : List (Nat × Value)} {cc : ByteArray} {g : GG} {lay : Nat → Nat} {σ : CS} {o : Nat} (q : Nat) (C : KX p m c cc nL s args RX4) (K : KC l g A s) (ho : o < 7) (h0 : 0 < tn (σ 49 o 0)) (h1 : tn (σ 49 o 0) ≤ 256) {ix : Nat} (hw : Cond.methodLink RX4 28 yJ7_copyOf_59c91 ∈ AW) (hf : Cond.fieldLink RX4 ix (TX4 2).1 (TX4 2).2.1 (TX4 2).2.2.1 ∈ AW) (d0 : decode cc pc = .ok (.invokestatic 28, 3)) (d1 : decode cc (pc + 3) = .ok (.putfield ix, 3)) (hR : 2 ≤ R.frames ∧ 52 ≤ R.locals) (hc : k + 1 ≤ R.cells ∧ n + tn (σ 49 o 0) * 2 ≤ R.slots) (hq : pc + 6 = q)
    (KK : ∀ lay' : Nat → Nat, JJ p l e R s m args below meth c Q A nL (CH g A lay' (pgr σ 46 49 o)) (k + 1) (n + tn (σ 49 o 0) * 2) q lo []) : JJ p l e R s m args below meth c Q A nL (CH g A lay σ) k n pc lo [.int (nI (tn (σ 49 o 0) * 2)), .ref (lay (14 + o)), .ref (ga g (12 + o))] := by
  subst hq
  intro H locs ls hW hS hl
  obtain ⟨p1, p3, p4, p6, p7, p8⟩ := cp_copyOf
  have cb := callB_of (R := R) (rm := rmk 1 30 1 (tn (σ 49 o 0) * 2)) 2 C.2.2.2.2 (goodAW p4) rfl rfl rfl (C.w p3) (C.w hw) ⟨p6, p7, p8⟩ ⟨hR.1, hR.2⟩
  refine va_callr (va_runS (As := [.ref (lay (14 + o)), .int (nI (tn (σ 49 o 0) * 2))]) (rest := [.ref (ga g (12 + o))]) C (c_copyOf K.2.2.2 g A lay (ar_3 σ ho) (ca_3 g lay ho) h0 h1) ⟨cb, C.w p1⟩ ⟨PC.blind, fun U hU hWm => ⟨rfl, fun q hq => K.1 q (Nat.le_trans hS.1 (by rw [← hU]; exact hq)), by rw [hU]; exact hW, va_K.moved hWm.alike K.2.1, by rw [hU]; exact XS.warm hWm (K.2.2.1.kept hS.2.1)⟩⟩ rfl rfl hl.1 rfl (lv_room (Nat.le_of_ble_eq_true rfl)) d0 hc) hS (fun q _ h => h) (fun q h => h) (fun u qa t H1 locs1 ht hvm hp hB hz hk hS1 => ?_)
  rw [ht] at hB
  refine va_put (D := g.1) (ty := .array .int) C.1 C.2.1 C.2.2.2.2 inA_X4 tyX4 tyX4_ok nmX4 C.2.2.2.1 K.2.1 hB.1 hB.2 hS1 (12 + o) ((cX_lo (by omega)).trans (by rw [cA_lo g lay (by omega), cE_W g lay σ ho])) rfl 2 (by decide) (C.w hf) (fun _ h => h) rfl (tyX4_ok 2 (by decide)) rfl rfl (Nat.le_of_ble_eq_true rfl) d1 (fun H2 locs2 hP hD hS2 => ?_)
  exact KK _ H2 locs2 ls (grW_2 g A lay σ ho h1 hP hD) hS2 hl
theorem cp_X4_grow : CPv yX4_grow cX4_grow 2 none RX4 0 := ⟨mw_714, mw_32, mw_103, mw_715, rfl, by decide, by decide, by decide +kernel⟩
set_option maxHeartbeats 4000000 in
set_option maxRecDepth 100000 in
theorem c_X4_grow {l : Launch} (hst : l.stackTraces = false) (g : GG) (A : Nat → Prop) (lay : Nat → Nat) {σ : CS} {σ' : CS} {r : Unit} {o0 : Nat} (ho0 : o0 < 7) (h : F_X4_grow σ o0 = some (σ', r)) : MV l yX4_grow cX4_grow 2 2 60 3 1536 [.ref (ga g (12 + o0))] (CH g A) g A lay σ σ' := by
  obtain ⟨hz, h⟩ := gd_e h
  obtain ⟨h1, h2, h3, h4⟩ := of_decide_eq_true hz
  cases h
  have e48 : pgr σ 44 47 o0 48 o0 0 = σ 48 o0 0 := by rw [pgr_row 48 o0 (by omega) (by omega)]
  have e49 : pgr (pgr σ 44 47 o0) 45 48 o0 49 o0 0 = σ 49 o0 0 := by rw [pgr_row 49 o0 (by omega) (by omega), pgr_row 49 o0 (by omega) (by omega)]
  refine e_v (own := RX4) (lo := [(0, .ref (ga g (12 + o0)))]) hst (plainFor_of_name (by decide)) rfl rfl (Nat.le_of_ble_eq_true rfl) ?_
  intro p e s m args below meth c C K M
  refine j_aload_n 1 C dX4_grow_0 0 rfl rfl ?_
  refine g_W 4 C K ho0 0 (by decide) mw_200 rfl dX4_grow_1 rfl ?_
  refine r_len 5 C K (ar_1 _ ho0) (ca_1 _ _ ho0) dX4_grow_4 rfl ?_
  refine j_iconst 6 C dX4_grow_5 ic_2 rfl ?_
  refine j_imul 7 C dX4_grow_6 rfl ?_
  rw [show nI (tn (σ 47 o0 0)) * 2 = nI (tn (σ 47 o0 0) * 2) from pk_mul _ 2]
  refine j_istore_n 8 C dX4_grow_7 (lo' := [(1, .int (nI (tn (σ 47 o0 0) * 2))), (0, .ref (ga g (12 + o0)))]) (by decide) rfl rfl ?_
  refine j_aload_n 9 C dX4_grow_8 1 rfl rfl ?_
  refine j_aload_n 10 C dX4_grow_9 1 rfl rfl ?_
  refine g_W 13 C K ho0 0 (by decide) mw_200 rfl dX4_grow_10 rfl ?_
  refine j_iload_n 14 C dX4_grow_13 0 rfl rfl ?_
  refine grow_0 20 C K ho0 h4 h1 mw_716 mw_200 dX4_grow_14 dX4_grow_17 ⟨Nat.le_of_ble_eq_true rfl, Nat.le_of_ble_eq_true rfl⟩ ⟨by simp only [rmk]; omega, by simp only [rmk]; omega⟩ rfl (fun lay => ?_)
  refine j_aload_n 21 C dX4_grow_20 1 rfl rfl ?_
  refine j_aload_n 22 C dX4_grow_21 1 rfl rfl ?_
  refine g_W 25 C K ho0 1 (by decide) mw_202 rfl dX4_grow_22 rfl ?_
  refine j_iload_n 26 C dX4_grow_25 0 rfl rfl ?_
  rw [← h2, ← e48]
  refine grow_1 32 C K ho0 (by rw [e48, h2]; exact h4) (by rw [e48, h2]; exact h1) mw_716 mw_202 dX4_grow_26 dX4_grow_29 ⟨Nat.le_of_ble_eq_true rfl, Nat.le_of_ble_eq_true rfl⟩ ⟨by simp only [rmk]; omega, by simp only [rmk]; rw [e48, h2]; omega⟩ rfl (fun lay => ?_)
  refine j_aload_n 33 C dX4_grow_32 1 rfl rfl ?_
  refine j_aload_n 34 C dX4_grow_33 1 rfl rfl ?_
  refine g_W 37 C K ho0 2 (by decide) mw_204 rfl dX4_grow_34 rfl ?_
  refine j_iload_n 38 C dX4_grow_37 0 rfl rfl ?_
  rw [show tn (pgr σ 44 47 o0 48 o0 0) = tn (pgr (pgr σ 44 47 o0) 45 48 o0 49 o0 0) by rw [e48, e49, h2, h3]]
  refine grow_2 44 C K ho0 (by rw [e49, h3]; exact h4) (by rw [e49, h3]; exact h1) mw_716 mw_204 dX4_grow_38 dX4_grow_41 ⟨Nat.le_of_ble_eq_true rfl, Nat.le_of_ble_eq_true rfl⟩ ⟨by simp only [rmk]; omega, by simp only [rmk]; rw [e49, h3]; omega⟩ rfl (fun lay => ?_)
  refine j_widen (k' := 3) (n' := 1536) (by omega) (by rw [e49, h3]; omega) ?_
  exact x_v C M dX4_grow_44
