/-! ===== the law's start ===== -/
theorem l_newj {p : Program} {l : Launch} {e : Env} {R : Room} {s : State} {m : MethodId} {args : Array Value} {below : List Frame} {meth : Method} {c : Code} {Q : State → Prop} {A : Nat → Prop} {nL : Nat} {k n pc : Nat} {lo : List (Nat × Value)} {st : List Value} {cc : ByteArray} {own : String} {g : GG} {lay : Nat → Nat} {ws : va_W} (q : Nat) (C : KX p m c cc nL s args own) (K : KC l g A s) (hd : decode cc pc = .ok (.newarray .long, 2)) (hc : k + 1 ≤ R.cells ∧ n + 1 ≤ R.slots) (hq : pc + 2 = q) (KK : ∀ qa : Nat, JJ p l e R s m args below meth c Q A nL (LW g A lay (ws ++ [outc g qa 0])) (k + 1) (n + 1) q lo (.ref qa :: st)) : JJ p l e R s m args below meth c Q A nL (LW g A lay ws) k n pc lo (.int (1 : Int32) :: st) := by
  subst hq
  intro H locs ls hW hS hl
  refine va_newa (atype := .long) (N' := 1) (a0 := (1, .inr (.inl (fun _ => 0)))) C.1 C.2.1 (C.w mw_1407) rfl K.2.1 hW.1 hW.2 hS K.1 (fun _ => rfl) (by decide) (by decide) (by decide) hc.1 hc.2 hd (fun qa cA H1 hK1 hP hD hS1 => ?_)
  have h5 : cA = gJ g := by
    have a1 := (hK1.2 5 (cA, .long) rfl).2
    have a2 := (K.2.1.2 4 (gJ g, .long) rfl).2
    exact Option.some.inj (a1.symm.trans a2)
  subst h5
  exact KK qa H1 locs ls ⟨hP, hD⟩ hS1 hl
theorem st_ex : ∀ q ∈ xsS, Cond.exactly (.string RX5 q.1) "java/lang/String" ∈ flatC (Jvm.Cond.and given_1 narrow_1) := by decide +kernel
theorem st_sr : ∀ q ∈ xsS, Cond.stringRef RX5 q.1 q.2 ∈ lw_tbl := by decide +kernel
theorem st_n1 : Cond.not (.castable "java/lang/IllegalArgumentException" "java/lang/IndexOutOfBoundsException") ∈ flatC (Jvm.Cond.and given_1 narrow_1) := by decide +kernel
theorem st_n2 : Cond.not (.castable "java/lang/IllegalStateException" "java/lang/IndexOutOfBoundsException") ∈ flatC (Jvm.Cond.and given_1 narrow_1) := by decide +kernel
theorem st_n3 : Cond.not (.castable "java/lang/IllegalStateException" "java/lang/IllegalArgumentException") ∈ flatC (Jvm.Cond.and given_1 narrow_1) := by decide +kernel
theorem st_s1 : Cond.isRef (.static Bundle.tN "UNASSIGNED_STACK" Bundle.steD) ∈ flatC (Jvm.Cond.and given_1 narrow_1) := by decide +kernel
theorem st_s2 : Cond.isRef (.static Bundle.tN "SUPPRESSED_SENTINEL" Bundle.listD) ∈ flatC (Jvm.Cond.and given_1 narrow_1) := by decide +kernel
theorem st_XS {s : State} {args : Array Value} (hts : ∀ w ∈ lw_tbl, w.before args s = true) (hgv : (Jvm.Cond.and given_1 narrow_1).before args s = true) : XS (fun q => s.heap.size ≤ q) s s.heap := by
  have hg := flat_of_before _ hgv
  have hA : ∀ a : Nat, a < s.heap.size → ¬ (fun q => s.heap.size ≤ q) a := fun a h => Nat.not_le.mpr h
  refine ⟨vx_Zqof (hts _ mt_459) (hts _ mt_106) (hg _ st_s1) hA, vx_Zqof (hts _ mt_461) (hts _ mt_106) (hg _ st_s2) hA, ?_, ?_, ?_, va_AO.of (hts _ mt_126), va_AO.of (hts _ mt_128), va_Nc.of (hg _ st_n1), va_Nc.of (hg _ st_n2), va_Nc.of (hg _ st_n3)⟩
  · intro w hw
    have h1 := hts w (xsM_in w hw)
    simp only [xsM, List.mem_cons, List.not_mem_nil, or_false] at hw
    rcases hw with rfl | rfl | rfl | rfl <;> exact va_Nw.of rfl h1
  · intro w hw
    have h1 := hts w (xsC_in w hw)
    simp only [xsC, List.mem_cons, List.not_mem_nil, or_false] at hw
    rcases hw with rfl | rfl | rfl | rfl | rfl | rfl <;> exact va_Nw.of rfl h1
  · intro q hq
    obtain ⟨a, c, cell, k, h1, -⟩ := Cond.exactly_spec (hg _ (st_ex q hq))
    exact ⟨a, vk_R.of (hts _ (st_sr q hq)) h1⟩
theorem st_arr {s : State} {args : Array Value} {ty : FieldType} (hp : ∀ C : String, ty ≠ .object C) (h : (Cond.arrayClass ty).before args s = true) : ∃ cA : ClassId, ArrOfT s cA ty ∧ va_RA s cA ty := by
  obtain ⟨cA, kA, comp, h1, h2, h3⟩ := Cond.arrayClass_spec h
  refine ⟨cA, fun n z => ⟨fun k h => (by cases h), kA, h2, comp, h3⟩, ?_⟩
  cases ty <;> first | exact h1 | exact absurd rfl (hp _)
theorem st_arq {s : State} {args : Array Value} {C : String} (h : (Cond.arrayOver (.object C)).before args s = true) : ∃ cA : ClassId, ArrOfT s cA (.object C) ∧ va_RA s cA (.object C) := by
  obtain ⟨comp, c, k, h1, h2, h3, h4, h5⟩ := Cond.arrayOver_spec h
  exact ⟨c, fun n z => ⟨fun k h => (by cases h), k, h3, comp, h4⟩, k, comp, h3, h4, h1, h5⟩
set_option maxHeartbeats 8000000 in
set_option maxRecDepth 100000 in
theorem law_start {Inv : Nat → CS → RS → Prop} (SI : Sims Inv) {ρ1 : RS} {u : Unit} (hF : F_X6_fresh ri0 3 1 = some (ρ1, u)) (h0 : Inv 0 sg0 ρ1) {p : Program} {e : Env} {s : State} {m : MethodId} {below : List Frame} {meth : Method} {c : Code} (l : Launch) (hflags : l.flags = flags0) {b L : Nat} {xs : Nat → Int32} (hL : L ≤ 2560) (C0 : lw_At p s m meth c b L xs) : W p l e room_1 s m #[Value.ref b] below meth c s.heap [] 0 0 (lw_Z below #[Value.ref b] s) (entryFrame m ([Value.ref b] : List Value).toArray 9) := by
  obtain ⟨hx, hb, hr, hml, hown, hts, hX, hbl, hlocks, hgv⟩ := C0
  have hst : l.stackTraces = false := by
    unfold Launch.stackTraces
    rw [hflags]
    decide
  have C : KX p m c cL_law 9 s #[Value.ref b] RL := ⟨hx, hb, hml, hown, fun w hw => hts w (AW_sub hw)⟩
  have hX0 := st_XS hts hgv
  obtain ⟨c0, iS0, hKn0⟩ := u_known (C := RX0) (T := TX0) (N := 4) (n := 4) C.2.2.2.2 inA_X0 (C.w mw_258)
  obtain ⟨c1, iS1, hKn1⟩ := u_known (C := RX1) (T := TX1) (N := 3) (n := 3) C.2.2.2.2 inA_X1 (C.w mw_130)
  obtain ⟨c2, iS2, hKn2⟩ := u_known (C := RX2) (T := TX2) (N := 7) (n := 7) C.2.2.2.2 inA_X2 (C.w mw_154)
  obtain ⟨c3, iS3, hKn3⟩ := u_known (C := RX3) (T := TX3) (N := 10) (n := 10) C.2.2.2.2 inA_X3 (C.w mw_187)
  obtain ⟨c4, iS4, hKn4⟩ := u_known (C := RX4) (T := TX4) (N := 4) (n := 4) C.2.2.2.2 inA_X4 (C.w mw_195)
  obtain ⟨c5, iS5, hKn5⟩ := u_known (C := RX5) (T := TX5) (N := 12) (n := 12) C.2.2.2.2 inA_X5 (C.w mw_118)
  obtain ⟨c6, iS6, hKn6⟩ := u_known (C := RX6) (T := TX6) (N := 35) (n := 35) C.2.2.2.2 inA_X6 (C.w mw_943)
  obtain ⟨aI, hI1, hI2⟩ := st_arr (ty := .int) (fun C h => by cases h) (C.w mw_152)
  obtain ⟨aZ, hZ1, hZ2⟩ := st_arr (ty := .boolean) (fun C h => by cases h) (C.w mw_1069)
  obtain ⟨aJ, hJ1, hJ2⟩ := st_arr (ty := .long) (fun C h => by cases h) (C.w mw_1407)
  obtain ⟨aN, hN1, hN2⟩ := st_arq (C := RX3) (hts _ mt_126)
  obtain ⟨aE, hE1, hE2⟩ := st_arq (C := RX0) (hts _ mt_128)
  obtain ⟨dC, dI, hKc⟩ : ∃ (dC : Nat → ClassId) (dI : Nat → Nat → Nat), ∀ (k : Nat) (q : vw_C), vwCl[k]? = some q → u_Kn s q.1 q.2.1 q.2.2 (dC k) (dI k) := by
    refine ⟨fun k => if k = 0 then c0 else if k = 1 then c1 else if k = 2 then c2 else if k = 3 then c3 else if k = 4 then c4 else if k = 5 then c5 else c6, fun k => if k = 0 then iS0 else if k = 1 then iS1 else if k = 2 then iS2 else if k = 3 then iS3 else if k = 4 then iS4 else if k = 5 then iS5 else iS6, ?_⟩
    intro k q hq
    match k, hq with
    | 0, hq => cases hq; exact hKn0
    | 1, hq => cases hq; exact hKn1
    | 2, hq => cases hq; exact hKn2
    | 3, hq => cases hq; exact hKn3
    | 4, hq => cases hq; exact hKn4
    | 5, hq => cases hq; exact hKn5
    | 6, hq => cases hq; exact hKn6
    | k + 7, hq => simp [vwCl] at hq
  obtain ⟨g, hg1, hg2⟩ : ∃ g : GG, g.1 = (dC, dI) ∧ g.2.1 = (aI, aZ, aN, aE, aJ) := ⟨((dC, dI), (aI, aZ, aN, aE, aJ), (fun _ => 0), (fun _ => 0)), rfl, rfl⟩
  have hK : va_K g.1 vwCl (gtys g) s := by
    refine ⟨by rw [hg1]; exact hKc, ?_⟩
    intro k q hq
    simp only [gtys, gI, gZ, gN, gE, gJ, hg2] at hq
    match k, hq with
    | 0, hq => cases hq; exact ⟨hI1, hI2⟩
    | 1, hq => cases hq; exact ⟨hZ1, hZ2⟩
    | 2, hq => cases hq; exact ⟨hN1, hN2⟩
    | 3, hq => cases hq; exact ⟨hE1, hE2⟩
    | 4, hq => cases hq; exact ⟨hJ1, hJ2⟩
    | k + 5, hq => simp at hq
  have K : KC l g (fun q => s.heap.size ≤ q) s := ⟨fun q h => h, hK, hX0, hst⟩
  have hl := lv_entry [.ref b] (n := 9) (Nat.le_of_ble_eq_true rfl)
  rw [lg_entry_eq]
  have J : JJ p l e room_1 s m #[Value.ref b] below meth c (lw_Z below #[Value.ref b] s) (fun q => s.heap.size ≤ q) 9 (LW g (fun q => s.heap.size ≤ q) (fun _ => 0) ([] : va_W)) 0 0 0 [(0, .ref b)] [] := ?_
  · exact J s.heap [] _ ⟨fun k q h => by simp at h, fun i j p q h => by simp at h, fun k q h => by simp at h⟩ va_S.rf hl
  refine l_new 3 C K 5 rfl inA_X5 tyX5 tyX5_ok mw_117 mw_118 mw_98 [.null, .null, .null, .null, .null, .int 0, .int 0, .int 0, .int 0, .int 0, .int 0, .int 0] (fun j hj => by match j, hj with | 0, _ => rfl | 1, _ => rfl | 2, _ => rfl | 3, _ => rfl | 4, _ => rfl | 5, _ => rfl | 6, _ => rfl | 7, _ => rfl | 8, _ => rfl | 9, _ => rfl | 10, _ => rfl | 11, _ => rfl) dL_law_0 ⟨by exact Nat.le_of_ble_eq_true rfl, by exact Nat.le_of_ble_eq_true rfl⟩ rfl (fun h => ?_)
  refine j_dup 4 C dL_law_3 rfl rfl ?_
  refine l_callI (w0 := []) (wc := [fdo h .null .null .null .null .null 0 0 0]) (As := []) (st := [.ref h]) 7 C K (fun A1 => ci_X5 hst g A1 (fun _ => 0) h) cpi_X5_init mw_119 dL_law_4 rfl rfl (Nat.le_of_ble_eq_true rfl) ⟨by exact Nat.le_of_ble_eq_true rfl, by exact Nat.le_of_ble_eq_true rfl⟩ ⟨by exact Nat.le_of_ble_eq_true rfl, by exact Nat.le_of_ble_eq_true rfl⟩ rfl (fun w1 hw1 => ?_)
  obtain ⟨an, ae, s0, s1, s2, rd, inp, at', de, rfl⟩ := hw1
  refine j_astore_n 8 C dL_law_7 (lo' := [(1, .ref h), (0, .ref b)]) (by decide) rfl rfl ?_
  refine l_new 11 C K 6 rfl inA_X6 tyX6 tyX6_ok mw_942 mw_943 mw_105 [.int 0, .int 0, .int 0, .int 0, .null, .null, .null, .null, .null, .null, .null, .null, .null, .null, .null, .null, .null, .null, .null, .null, .null, .null, .null, .null, .int 0, .int 0, .int 0, .int 0, .null, .null, .int 0, .int 0, .null, .int 0, .long 0] (fun j hj => by match j, hj with | 0, _ => rfl | 1, _ => rfl | 2, _ => rfl | 3, _ => rfl | 4, _ => rfl | 5, _ => rfl | 6, _ => rfl | 7, _ => rfl | 8, _ => rfl | 9, _ => rfl | 10, _ => rfl | 11, _ => rfl | 12, _ => rfl | 13, _ => rfl | 14, _ => rfl | 15, _ => rfl | 16, _ => rfl | 17, _ => rfl | 18, _ => rfl | 19, _ => rfl | 20, _ => rfl | 21, _ => rfl | 22, _ => rfl | 23, _ => rfl | 24, _ => rfl | 25, _ => rfl | 26, _ => rfl | 27, _ => rfl | 28, _ => rfl | 29, _ => rfl | 30, _ => rfl | 31, _ => rfl | 32, _ => rfl | 33, _ => rfl | 34, _ => rfl | j + 35, hj => exact absurd hj (by omega)) dL_law_8 ⟨by exact Nat.le_of_ble_eq_true rfl, by exact Nat.le_of_ble_eq_true rfl⟩ rfl (fun h2 => ?_)
  refine j_dup 12 C dL_law_11 rfl rfl ?_
  refine l_callI (w0 := [] ++ fdZ g h an ae s0 s1 s2 rd inp at' de) (wc := [rmo0 h2]) (As := []) (st := [.ref h2]) 15 C K (fun A1 => ci_X6 hst g A1 (fun _ => 0) h2 hF) cpi_X6_init mw_944 dL_law_12 rfl rfl (Nat.le_of_ble_eq_true rfl) ⟨by exact Nat.le_of_ble_eq_true rfl, by exact Nat.le_of_ble_eq_true rfl⟩ ⟨by exact Nat.le_of_ble_eq_true rfl, by exact Nat.le_of_ble_eq_true rfl⟩ rfl (fun w1 hw1 => ?_)
  obtain ⟨gmx, rfl, rfl⟩ := hw1
  refine j_astore_n 16 C dL_law_15 (lo' := [(2, .ref (gmx 0)), (1, .ref h), (0, .ref b)]) (by decide) rfl rfl ?_
  refine j_iconst 17 C dL_law_16 ic_1 rfl ?_
  refine l_newj 19 C K dL_law_17 ⟨by exact Nat.le_of_ble_eq_true rfl, by exact Nat.le_of_ble_eq_true rfl⟩ rfl (fun qo => ?_)
  refine j_astore_n 20 C dL_law_19 (lo' := [(3, .ref qo), (2, .ref (gmx 0)), (1, .ref h), (0, .ref b)]) (by decide) rfl rfl ?_
  refine j_iconst 21 C dL_law_20 ic_0 rfl ?_
  refine j_istore 23 C dL_law_21 (lo' := [(4, .int (nI (5 * 0))), (3, .ref qo), (2, .ref (gmx 0)), (1, .ref h), (0, .ref b)]) (by decide) rfl rfl ?_
  have J2 := law_loop SI (ly := fun _ => 0) (g := fdG g h an ae s0 s1 s2 rd inp at' de gmx) (qo := qo) (e := e) (below := below) C K hr hlocks hX hbl hL 513 0 sg0 ρ1 0 (fdLay at') (0 + 1 + 95 + 1 + 23 + 1) (0 + 12 + 553 + 35 + 43434 + 1) rfl (Nat.zero_le _) h0 (by decide) (by decide)
  refine j_sub [4, 3, 2, 1, 0] rfl ?_
  intro H locs ls hW hS hl
  have hW1 : LW g (fun q => s.heap.size ≤ q) (fun _ => 0) ((rW (g.1, g.2.1, ga g, gmx) ρ1 ++ [outc g qo 0]) ++ fdZ g h an ae s0 s1 s2 rd inp at' de) H := by
    have h1 := hW
    rw [List.nil_append, List.append_assoc] at h1
    exact LW_comm h1
  have hw1 := fd_world gmx (A := va_A (fdZ g h an ae s0 s1 s2 rd inp at' de) H.size) (lay := fun _ => 0) (LW_sub (lay := fun _ => 0) hW1)
  have hj := LW_join hW1.1 hW1.2 (fun q _ _ => rfl) (lk_F K hW1 hS) hw1.1 hw1.2
  exact J2 H locs ls (LW_assoc.mpr hj) hS hl
