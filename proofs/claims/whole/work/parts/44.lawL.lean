/-! ===== the loop of the law, over what the two states keep together ===== -/
def ln (σ : CS) : Nat := tn (σ 5 0 0)
section SIM
variable (Inv : Nat → CS → RS → Prop)
def SW (n : Nat) (σ : CS) (up : Nat) (hs : List (Nat × Int32)) (fc : Option (CS × (Int32 ⊕ Nat))) (fr : Option (RS × Int32)) : Prop :=
  (∃ σ' ρ' r, fc = some (σ', .inl r) ∧ fr = some (ρ', r) ∧ ρ'.1 0 0 = 0 ∧ Inv (n + 1) σ' ρ' ∧ ln σ' ≤ ln σ + up) ∨
  (∃ σ' ρ' r ex cd, fc = some (σ', .inr ex) ∧ fr = some (ρ', r) ∧ ρ'.1 0 0 = cd ∧ (ex, cd) ∈ hs ∧ Inv (n + 1) σ' ρ' ∧ ln σ' ≤ ln σ)
def SL (n : Nat) (σ : CS) (hs : List (Nat × Int32)) (fc : Option (CS × (Int32 ⊕ Nat))) (fr : Option (RS × Int32)) : Prop :=
  (∃ σ' ρ' r, fc = some (σ', .inl r) ∧ fr = some (ρ', r) ∧ ρ'.1 0 0 = 0 ∧ Inv (n + 1) σ' ρ' ∧ ln σ' = 0) ∨
  (∃ σ' ρ' r ex cd, fc = some (σ', .inr ex) ∧ fr = some (ρ', r) ∧ ρ'.1 0 0 = cd ∧ (ex, cd) ∈ hs ∧ Inv (n + 1) σ' ρ' ∧ ln σ' ≤ ln σ)
def SD {T : Type} (n : Nat) (σ : CS) (fc : Option (CS × T)) (fr : Option (RS × T)) : Prop := ∃ σ' ρ' r, fc = some (σ', r) ∧ fr = some (ρ', r) ∧ Inv (n + 1) σ' ρ' ∧ ln σ' ≤ ln σ
def SDx (n : Nat) (σ : CS) (fc : Option (CS × (Int64 ⊕ Nat))) (fr : Option (RS × Int64)) : Prop := ∃ σ' ρ' r, fc = some (σ', .inl r) ∧ fr = some (ρ', r) ∧ Inv (n + 1) σ' ρ' ∧ ln σ' ≤ ln σ
def Sm_begin : Prop := ∀ (n : Nat) (σ : CS) (ρ : RS), n < 512 → Inv n σ ρ → ∀ (x1 x2 : Int32) , SW Inv n σ 0 [(2, 1)] (F_X5_begin σ x1 x2) (F_X6_begin ρ x1 x2)
def Sm_setBarriers : Prop := ∀ (n : Nat) (σ : CS) (ρ : RS), n < 512 → Inv n σ ρ → ∀ (x1 : Int32) , isb x1 = true → SD Inv n σ (F_X5_setBarriers σ x1) (F_X6_setBarriers ρ x1)
def Sm_prepare : Prop := ∀ (n : Nat) (σ : CS) (ρ : RS), n < 512 → Inv n σ ρ → ∀ (x1 x2 : Int32) , SW Inv n σ 0 [(1, 1), (2, 2), (3, 3)] (F_X5_prepare σ x1 x2) (F_X6_prepare ρ x1 x2)
def Sm_accept : Prop := ∀ (n : Nat) (σ : CS) (ρ : RS), n < 512 → Inv n σ ρ → ∀ (x1 x2 x3 x4 : Int32) , SW Inv n σ 0 [(1, 1), (2, 2), (3, 3)] (F_X5_accept σ x1 x2 x3 x4) (F_X6_accept ρ x1 x2 x3 x4)
def Sm_barrier : Prop := ∀ (n : Nat) (σ : CS) (ρ : RS), n < 512 → Inv n σ ρ → ∀ (x1 : Int32) , SW Inv n σ 0 [(1, 1), (3, 2)] (F_X5_barrier σ x1) (F_X6_barrier ρ x1)
def Sm_crash : Prop := ∀ (n : Nat) (σ : CS) (ρ : RS), n < 512 → Inv n σ ρ → ∀ (x1 x2 : Int32) , SW Inv n σ 0 [(1, 1), (2, 2), (3, 3)] (F_X5_crash σ x1 x2) (F_X6_crash ρ x1 x2)
def Sm_wipe : Prop := ∀ (n : Nat) (σ : CS) (ρ : RS), n < 512 → Inv n σ ρ → ∀ (x1 : Int32) , SW Inv n σ 0 [(1, 1), (3, 2)] (F_X5_wipe σ x1) (F_X6_wipe ρ x1)
def Sm_restart : Prop := ∀ (n : Nat) (σ : CS) (ρ : RS), n < 512 → Inv n σ ρ → ∀ (x1 : Int32) , SW Inv n σ 0 [(1, 1), (3, 2)] (F_X5_restart σ x1) (F_X6_restart ρ x1)
def Sm_rejoin : Prop := ∀ (n : Nat) (σ : CS) (ρ : RS), n < 512 → Inv n σ ρ → ∀ (x1 x2 : Int32) , SW Inv n σ 0 [(1, 1), (2, 2), (3, 3)] (F_X5_rejoin σ x1 x2) (F_X6_rejoin ρ x1 x2)
def Sm_append : Prop := ∀ (n : Nat) (σ : CS) (ρ : RS), n < 512 → Inv n σ ρ → ∀ (x1 : Int32) , SW Inv n σ 1 [(2, 1), (3, 2)] (F_X5_append σ x1) (F_X6_append ρ x1)
def Sm_clearInput : Prop := ∀ (n : Nat) (σ : CS) (ρ : RS), n < 512 → Inv n σ ρ → SD Inv n σ (F_X5_clearInput σ) (F_X6_clearInput ρ)
def Sm_firstError : Prop := ∀ (n : Nat) (σ : CS) (ρ : RS), n < 512 → Inv n σ ρ → SD Inv n σ (F_X5_firstError σ) (F_X6_firstError ρ)
def Sm_load : Prop := ∀ (n : Nat) (σ : CS) (ρ : RS), n < 512 → Inv n σ ρ → SL Inv n σ [(2, 1)] (F_X5_load σ (ln σ + 1)) (F_X6_load ρ)
def Sm_count : Prop := ∀ (n : Nat) (σ : CS) (ρ : RS), n < 512 → Inv n σ ρ → ∀ (x1 : Int32) , SW Inv n σ 0 [(2, 1)] (F_X5_count σ x1) (F_X6_count ρ x1)
def Sm_node : Prop := ∀ (n : Nat) (σ : CS) (ρ : RS), n < 512 → Inv n σ ρ → ∀ (x1 x2 : Int32) , SW Inv n σ 0 [(1, 1), (2, 2)] (F_X5_node σ x1 x2) (F_X6_node ρ x1 x2)
def Sm_accepted : Prop := ∀ (n : Nat) (σ : CS) (ρ : RS), n < 512 → Inv n σ ρ → ∀ (x1 x2 x3 : Int32) , SW Inv n σ 0 [(1, 1), (2, 2)] (F_X5_accepted σ x1 x2 x3) (F_X6_accepted ρ x1 x2 x3)
def Sm_waiting : Prop := ∀ (n : Nat) (σ : CS) (ρ : RS), n < 512 → Inv n σ ρ → ∀ (x1 x2 x3 : Int32) , SW Inv n σ 0 [(1, 1), (2, 2)] (F_X5_waiting σ x1 x2 x3) (F_X6_waiting ρ x1 x2 x3)
def Sm_slot : Prop := ∀ (n : Nat) (σ : CS) (ρ : RS), n < 512 → Inv n σ ρ → ∀ (x1 x2 : Int32) , SW Inv n σ 0 [(1, 1), (2, 2)] (F_X5_slot σ x1 x2) (F_X6_slot ρ x1 x2)
def Sm_roundValue : Prop := ∀ (n : Nat) (σ : CS) (ρ : RS), n < 512 → Inv n σ ρ → ∀ (x1 x2 : Int32) , SW Inv n σ 0 [(1, 1), (3, 2)] (F_X5_roundValue σ x1 x2) (F_X6_roundValue ρ x1 x2)
def Sm_ifCrashed : Prop := ∀ (n : Nat) (σ : CS) (ρ : RS), n < 512 → Inv n σ ρ → ∀ (x1 x2 x3 : Int32) , SW Inv n σ 0 [(1, 1), (2, 2)] (F_X5_ifCrashed σ x1 x2 x3) (F_X6_ifCrashed ρ x1 x2 x3)
def Sm_harmless : Prop := ∀ (n : Nat) (σ : CS) (ρ : RS), n < 512 → Inv n σ ρ → ∀ (x1 : Int32) , SW Inv n σ 0 [(1, 1)] (F_X5_harmless σ x1) (F_X6_harmless ρ x1)
def Sm_leastLosses : Prop := ∀ (n : Nat) (σ : CS) (ρ : RS), n < 512 → Inv n σ ρ → ∀ (x1 : Int32) , SW Inv n σ 0 [(1, 1), (3, 2)] (F_X5_leastLosses σ x1) (F_X6_leastLosses ρ x1)
def Sm_answered : Prop := ∀ (n : Nat) (σ : CS) (ρ : RS), n < 512 → Inv n σ ρ → SD Inv n σ (F_X5_answered σ) (F_X6_answered ρ)
def Sm_onDisks : Prop := ∀ (n : Nat) (σ : CS) (ρ : RS), n < 512 → Inv n σ ρ → SD Inv n σ (F_X5_onDisks σ) (F_X6_onDisks ρ)
def Sm_digest : Prop := ∀ (n : Nat) (σ : CS) (ρ : RS), n < 512 → Inv n σ ρ → SDx Inv n σ (F_X5_digest σ) (F_X6_digest ρ)
def Sims : Prop := (∀ (n : Nat) (σ : CS) (ρ : RS), Inv n σ ρ → Inv (n + 1) σ ρ) ∧ Sm_begin Inv ∧ Sm_setBarriers Inv ∧ Sm_prepare Inv ∧ Sm_accept Inv ∧ Sm_barrier Inv ∧ Sm_crash Inv ∧ Sm_wipe Inv ∧ Sm_restart Inv ∧ Sm_rejoin Inv ∧ Sm_append Inv ∧ Sm_clearInput Inv ∧ Sm_firstError Inv ∧ Sm_load Inv ∧ Sm_count Inv ∧ Sm_node Inv ∧ Sm_accepted Inv ∧ Sm_waiting Inv ∧ Sm_slot Inv ∧ Sm_roundValue Inv ∧ Sm_ifCrashed Inv ∧ Sm_harmless Inv ∧ Sm_leastLosses Inv ∧ Sm_answered Inv ∧ Sm_onDisks Inv ∧ Sm_digest Inv
end SIM
set_option maxRecDepth 100000 in
set_option maxHeartbeats 4000000 in
theorem law_loop {Inv : Nat → CS → RS → Prop} (SI : Sims Inv) {p : Program} {l : Launch} {e : Env} {s : State} {m : MethodId} {below : List Frame} {meth : Method} {c : Code} {g : GG} {ly : Nat → Nat} {b L qo : Nat} {xs : Nat → Int32} (C : KX p m c cL_law 9 s #[Value.ref b] RL) (K : KC l g (fun q => s.heap.size ≤ q) s) (hr : meth.sig.returnType = ret) (hlocks : meth.locks = false) (hX : va_X b L xs s s.heap) (hbl : b < s.heap.size) (hL : L ≤ 2560) :
    ∀ (d N : Nat) (σ : CS) (ρ : RS) (v : Int64) (lay : Nat → Nat) (k n : Nat), N + d = 513 → 5 * N ≤ L → Inv N σ ρ → k + 24 * ln σ ≤ 130 + 25 * N → n + 12288 * ln σ ≤ 44100 + 12294 * N → JJ p l e room_1 s m #[Value.ref b] below meth c (lw_Z below #[Value.ref b] s) (fun q => s.heap.size ≤ q) 9 (LW g (fun q => s.heap.size ≤ q) ly (rW g ρ ++ ([outc g qo v] ++ cW g lay σ))) k n 23 [(0, .ref b), (1, .ref (ga g 0)), (2, .ref (gm g 0)), (3, .ref qo), (4, .int (nI (5 * N)))] [] := by
  have hbA : ¬ (fun q : Nat => s.heap.size ≤ q) b := Nat.not_le.mpr hbl
  obtain ⟨SI_mono, SI_begin, SI_setBarriers, SI_prepare, SI_accept, SI_barrier, SI_crash, SI_wipe, SI_restart, SI_rejoin, SI_append, SI_clearInput, SI_firstError, SI_load, SI_count, SI_node, SI_accepted, SI_waiting, SI_slot, SI_roundValue, SI_ifCrashed, SI_harmless, SI_leastLosses, SI_answered, SI_onDisks, SI_digest⟩ := SI
  intro d
  induction d with
  | zero =>
    intro N σ ρ v lay k n hd hN
    omega
  | succ d ih =>
    intro N σ ρ v lay k n hd hN hI hk hn
    refine j_iload 25 C dL_law_23 4 rfl rfl ?_
    refine j_aload_n 26 C dL_law_25 0 rfl rfl ?_
    have K1 : JJ p l e room_1 s m #[Value.ref b] below meth c (lw_Z below #[Value.ref b] s) (fun q => s.heap.size ≤ q) 9 (LW g (fun q => s.heap.size ≤ q) ly (rW g ρ ++ ([outc g qo v] ++ cW g lay σ))) k n 27 [(0, .ref b), (1, .ref (ga g 0)), (2, .ref (gm g 0)), (3, .ref qo), (4, .int (nI (5 * N)))] [.int (nI L), .int (nI (5 * N))] := ?_
    · intro H locs ls hW hS hl
      exact va_slen C.1 C.2.1 hX hbl hbA hS dL_law_26 (K1 H locs ls hW hS hl)
    refine j_iconst 28 C dL_law_27 (show Int32.ofInt 5 = nI 5 by decide) rfl ?_
    refine j_isub 29 C dL_law_28 rfl ?_
    refine j_icmp_gt 32 1537 C dL_law_29 (by decide) rfl (fun _ => ?_) (fun hlt => ?_)
    · refine j_iconst 1538 C dL_law_1537 ic_1 rfl ?_
      intro H locs ls hW hS hl
      refine va_forget (fun q hq => hS.2.2 q hq) ?_
      refine W.widen (k := 601024) (n := 7293034) (by omega) (by omega) ?_
      exact W.base (lw_ret (Drawn.sameBut.refl s.drawn lw_cs) C.1 C.2.1 hr hlocks dL_law_1538)
    · have hi : 5 * N + 5 ≤ L := by
        rcases Nat.lt_or_ge L 5 with h | h
        · exact absurd (show nI L - nI 5 < nI (5 * N) by
            rw [Int32.lt_iff_toInt_lt, pk_sub_toInt (by omega) (by omega), nI_toInt (by omega)]; omega) hlt
        · rcases Nat.lt_or_ge L (5 * N + 5) with h2 | h2
          · exact absurd (show nI L - nI 5 < nI (5 * N) by
              rw [Int32.lt_iff_toInt_lt, pk_sub_toInt (by omega) (by omega), nI_toInt (by omega)]; omega) hlt
          · exact h2
      have hN5 : N < 512 := by omega
      have NX : ∀ (σ' : CS) (ρ' : RS) (v' : Int64) (lay' : Nat → Nat) (k' n' : Nat), Inv (N + 1) σ' ρ' → k' + 24 * ln σ' ≤ 130 + 25 * (N + 1) → n' + 12288 * ln σ' ≤ 44100 + 12294 * (N + 1) → JJ p l e room_1 s m #[Value.ref b] below meth c (lw_Z below #[Value.ref b] s) (fun q => s.heap.size ≤ q) 9 (LW g (fun q => s.heap.size ≤ q) ly (rW g ρ' ++ ([outc g qo v'] ++ cW g lay' σ'))) k' n' 1531 [(0, .ref b), (1, .ref (ga g 0)), (2, .ref (gm g 0)), (3, .ref qo), (4, .int (nI (5 * N)))] [] := by
        intro σ' ρ' v' lay' k' n' hI' hk' hn'
        have J := ih (N + 1) σ' ρ' v' lay' k' n' (by omega) (by omega) hI' hk' hn'
        have J2 := j_sub (lo := [(4, .int (nI (5 * (N + 1)))), (0, .ref b), (1, .ref (ga g 0)), (2, .ref (gm g 0)), (3, .ref qo)]) [1, 2, 3, 4, 0] rfl J
        have J3 := j_goto 23 C (pc := 1534) dL_law_1534 (by decide) J2
        exact j_iinc 1534 C dL_law_1531 4 rfl (v := nI (5 * (N + 1))) (by rw [show Int32.ofInt 5 = nI 5 by decide, nI_add]; rfl) (by decide) rfl rfl J3
      refine ls_rd0 36 C hX hbl hbA hL 0 4 dL_law_32 dL_law_33 dL_law_35 (by omega) rfl rfl rfl ?_
      refine j_bipush 38 C dL_law_36 (show (Int8.ofInt 31).toInt32 = 31 by decide) rfl ?_
      refine j_iand 39 C dL_law_38 rfl ?_
      obtain ⟨t, ht, et⟩ := pk_andE (xs (5 * N)) (m := 31) 5 (by decide)
      rw [et]
      have hcases : t = 0 ∨ t = 1 ∨ t = 2 ∨ t = 3 ∨ t = 4 ∨ t = 5 ∨ t = 6 ∨ t = 7 ∨ t = 8 ∨ t = 9 ∨ t = 10 ∨ t = 11 ∨ t = 12 ∨ t = 13 ∨ t = 14 ∨ t = 15 ∨ t = 16 ∨ t = 17 ∨ t = 18 ∨ t = 19 ∨ t = 20 ∨ t = 21 ∨ t = 22 ∨ t = 23 ∨ t = 24 ∨ 25 ≤ t := by omega
      rcases hcases with rfl | rfl | rfl | rfl | rfl | rfl | rfl | rfl | rfl | rfl | rfl | rfl | rfl | rfl | rfl | rfl | rfl | rfl | rfl | rfl | rfl | rfl | rfl | rfl | rfl | h25
      · refine j_tin 152 C dL_law_39 (x := nI 0) (by decide) (by decide) (show _ = some (113 : Int) by decide) (by decide) ?_
        rcases SI_begin N σ ρ hN5 hI (xs (5 * N + 1)) (xs (5 * N + 2)) with ⟨σ', ρ', r, h1, h2, h3, h4, h5⟩ | ⟨σ', ρ', r, ex, cd, h1, h2, h3, hm, h4, h5⟩
        · exact lq_begin C K hX hbl hbA hi hL h1 h2 h3 ⟨by omega, by omega⟩ (fun lay => NX σ' ρ' _ lay _ _ h4 (by omega) (by omega))
        · simp only [List.mem_cons, List.not_mem_nil, or_false, Prod.mk.injEq] at hm
          rcases hm with ⟨rfl, rfl⟩
          · exact lq_begin_2 C K hX hbl hbA hi hL h1 h2 h3 ⟨by omega, by omega⟩ (fun lay => NX σ' ρ' _ lay _ _ h4 (by omega) (by omega))
      · refine j_tin 220 C dL_law_39 (x := nI 1) (by decide) (by decide) (show _ = some (181 : Int) by decide) (by decide) ?_
        by_cases hb : xs (5 * N + 1) = 0
        · obtain ⟨σ', ρ', r, h1, h2, h4, h5⟩ := SI_setBarriers N σ ρ hN5 hI 0 rfl
          exact lq_setBarriers_0 C K hX hbl hbA hi hL hb h1 h2 ⟨by omega, by omega⟩ (fun lay => NX σ' ρ' _ lay _ _ h4 (by omega) (by omega))
        · obtain ⟨σ', ρ', r, h1, h2, h4, h5⟩ := SI_setBarriers N σ ρ hN5 hI 1 rfl
          exact lq_setBarriers_1 C K hX hbl hbA hi hL hb h1 h2 ⟨by omega, by omega⟩ (fun lay => NX σ' ρ' _ lay _ _ h4 (by omega) (by omega))
      · refine j_tin 261 C dL_law_39 (x := nI 2) (by decide) (by decide) (show _ = some (222 : Int) by decide) (by decide) ?_
        rcases SI_prepare N σ ρ hN5 hI (xs (5 * N + 1)) (xs (5 * N + 2)) with ⟨σ', ρ', r, h1, h2, h3, h4, h5⟩ | ⟨σ', ρ', r, ex, cd, h1, h2, h3, hm, h4, h5⟩
        · exact lq_prepare C K hX hbl hbA hi hL h1 h2 h3 ⟨by omega, by omega⟩ (fun lay => NX σ' ρ' _ lay _ _ h4 (by omega) (by omega))
        · simp only [List.mem_cons, List.not_mem_nil, or_false, Prod.mk.injEq] at hm
          rcases hm with ⟨rfl, rfl⟩ | ⟨rfl, rfl⟩ | ⟨rfl, rfl⟩
          · exact lq_prepare_1 C K hX hbl hbA hi hL h1 h2 h3 ⟨by omega, by omega⟩ (fun lay => NX σ' ρ' _ lay _ _ h4 (by omega) (by omega))
          · exact lq_prepare_2 C K hX hbl hbA hi hL h1 h2 h3 ⟨by omega, by omega⟩ (fun lay => NX σ' ρ' _ lay _ _ h4 (by omega) (by omega))
          · exact lq_prepare_3 C K hX hbl hbA hi hL h1 h2 h3 ⟨by omega, by omega⟩ (fun lay => NX σ' ρ' _ lay _ _ h4 (by omega) (by omega))
      · refine j_tin 329 C dL_law_39 (x := nI 3) (by decide) (by decide) (show _ = some (290 : Int) by decide) (by decide) ?_
        rcases SI_accept N σ ρ hN5 hI (xs (5 * N + 1)) (xs (5 * N + 2)) (xs (5 * N + 3)) (xs (5 * N + 4)) with ⟨σ', ρ', r, h1, h2, h3, h4, h5⟩ | ⟨σ', ρ', r, ex, cd, h1, h2, h3, hm, h4, h5⟩
        · exact lq_accept C K hX hbl hbA hi hL h1 h2 h3 ⟨by omega, by omega⟩ (fun lay => NX σ' ρ' _ lay _ _ h4 (by omega) (by omega))
        · simp only [List.mem_cons, List.not_mem_nil, or_false, Prod.mk.injEq] at hm
          rcases hm with ⟨rfl, rfl⟩ | ⟨rfl, rfl⟩ | ⟨rfl, rfl⟩
          · exact lq_accept_1 C K hX hbl hbA hi hL h1 h2 h3 ⟨by omega, by omega⟩ (fun lay => NX σ' ρ' _ lay _ _ h4 (by omega) (by omega))
          · exact lq_accept_2 C K hX hbl hbA hi hL h1 h2 h3 ⟨by omega, by omega⟩ (fun lay => NX σ' ρ' _ lay _ _ h4 (by omega) (by omega))
          · exact lq_accept_3 C K hX hbl hbA hi hL h1 h2 h3 ⟨by omega, by omega⟩ (fun lay => NX σ' ρ' _ lay _ _ h4 (by omega) (by omega))
      · refine j_tin 421 C dL_law_39 (x := nI 4) (by decide) (by decide) (show _ = some (382 : Int) by decide) (by decide) ?_
        rcases SI_barrier N σ ρ hN5 hI (xs (5 * N + 1)) with ⟨σ', ρ', r, h1, h2, h3, h4, h5⟩ | ⟨σ', ρ', r, ex, cd, h1, h2, h3, hm, h4, h5⟩
        · exact lq_barrier C K hX hbl hbA hi hL h1 h2 h3 ⟨by omega, by omega⟩ (fun lay => NX σ' ρ' _ lay _ _ h4 (by omega) (by omega))
        · simp only [List.mem_cons, List.not_mem_nil, or_false, Prod.mk.injEq] at hm
          rcases hm with ⟨rfl, rfl⟩ | ⟨rfl, rfl⟩
          · exact lq_barrier_1 C K hX hbl hbA hi hL h1 h2 h3 ⟨by omega, by omega⟩ (fun lay => NX σ' ρ' _ lay _ _ h4 (by omega) (by omega))
          · exact lq_barrier_3 C K hX hbl hbA hi hL h1 h2 h3 ⟨by omega, by omega⟩ (fun lay => NX σ' ρ' _ lay _ _ h4 (by omega) (by omega))
      · refine j_tin 477 C dL_law_39 (x := nI 5) (by decide) (by decide) (show _ = some (438 : Int) by decide) (by decide) ?_
        rcases SI_crash N σ ρ hN5 hI (xs (5 * N + 1)) (xs (5 * N + 2)) with ⟨σ', ρ', r, h1, h2, h3, h4, h5⟩ | ⟨σ', ρ', r, ex, cd, h1, h2, h3, hm, h4, h5⟩
        · exact lq_crash C K hX hbl hbA hi hL h1 h2 h3 ⟨by omega, by omega⟩ (fun lay => NX σ' ρ' _ lay _ _ h4 (by omega) (by omega))
        · simp only [List.mem_cons, List.not_mem_nil, or_false, Prod.mk.injEq] at hm
          rcases hm with ⟨rfl, rfl⟩ | ⟨rfl, rfl⟩ | ⟨rfl, rfl⟩
          · exact lq_crash_1 C K hX hbl hbA hi hL h1 h2 h3 ⟨by omega, by omega⟩ (fun lay => NX σ' ρ' _ lay _ _ h4 (by omega) (by omega))
          · exact lq_crash_2 C K hX hbl hbA hi hL h1 h2 h3 ⟨by omega, by omega⟩ (fun lay => NX σ' ρ' _ lay _ _ h4 (by omega) (by omega))
          · exact lq_crash_3 C K hX hbl hbA hi hL h1 h2 h3 ⟨by omega, by omega⟩ (fun lay => NX σ' ρ' _ lay _ _ h4 (by omega) (by omega))
      · refine j_tin 545 C dL_law_39 (x := nI 6) (by decide) (by decide) (show _ = some (506 : Int) by decide) (by decide) ?_
        rcases SI_wipe N σ ρ hN5 hI (xs (5 * N + 1)) with ⟨σ', ρ', r, h1, h2, h3, h4, h5⟩ | ⟨σ', ρ', r, ex, cd, h1, h2, h3, hm, h4, h5⟩
        · exact lq_wipe C K hX hbl hbA hi hL h1 h2 h3 ⟨by omega, by omega⟩ (fun lay => NX σ' ρ' _ lay _ _ h4 (by omega) (by omega))
        · simp only [List.mem_cons, List.not_mem_nil, or_false, Prod.mk.injEq] at hm
          rcases hm with ⟨rfl, rfl⟩ | ⟨rfl, rfl⟩
          · exact lq_wipe_1 C K hX hbl hbA hi hL h1 h2 h3 ⟨by omega, by omega⟩ (fun lay => NX σ' ρ' _ lay _ _ h4 (by omega) (by omega))
          · exact lq_wipe_3 C K hX hbl hbA hi hL h1 h2 h3 ⟨by omega, by omega⟩ (fun lay => NX σ' ρ' _ lay _ _ h4 (by omega) (by omega))
      · refine j_tin 601 C dL_law_39 (x := nI 7) (by decide) (by decide) (show _ = some (562 : Int) by decide) (by decide) ?_
        rcases SI_restart N σ ρ hN5 hI (xs (5 * N + 1)) with ⟨σ', ρ', r, h1, h2, h3, h4, h5⟩ | ⟨σ', ρ', r, ex, cd, h1, h2, h3, hm, h4, h5⟩
        · exact lq_restart C K hX hbl hbA hi hL h1 h2 h3 ⟨by omega, by omega⟩ (fun lay => NX σ' ρ' _ lay _ _ h4 (by omega) (by omega))
        · simp only [List.mem_cons, List.not_mem_nil, or_false, Prod.mk.injEq] at hm
          rcases hm with ⟨rfl, rfl⟩ | ⟨rfl, rfl⟩
          · exact lq_restart_1 C K hX hbl hbA hi hL h1 h2 h3 ⟨by omega, by omega⟩ (fun lay => NX σ' ρ' _ lay _ _ h4 (by omega) (by omega))
          · exact lq_restart_3 C K hX hbl hbA hi hL h1 h2 h3 ⟨by omega, by omega⟩ (fun lay => NX σ' ρ' _ lay _ _ h4 (by omega) (by omega))
      · refine j_tin 657 C dL_law_39 (x := nI 8) (by decide) (by decide) (show _ = some (618 : Int) by decide) (by decide) ?_
        rcases SI_rejoin N σ ρ hN5 hI (xs (5 * N + 1)) (xs (5 * N + 2)) with ⟨σ', ρ', r, h1, h2, h3, h4, h5⟩ | ⟨σ', ρ', r, ex, cd, h1, h2, h3, hm, h4, h5⟩
        · exact lq_rejoin C K hX hbl hbA hi hL h1 h2 h3 ⟨by omega, by omega⟩ (fun lay => NX σ' ρ' _ lay _ _ h4 (by omega) (by omega))
        · simp only [List.mem_cons, List.not_mem_nil, or_false, Prod.mk.injEq] at hm
          rcases hm with ⟨rfl, rfl⟩ | ⟨rfl, rfl⟩ | ⟨rfl, rfl⟩
          · exact lq_rejoin_1 C K hX hbl hbA hi hL h1 h2 h3 ⟨by omega, by omega⟩ (fun lay => NX σ' ρ' _ lay _ _ h4 (by omega) (by omega))
          · exact lq_rejoin_2 C K hX hbl hbA hi hL h1 h2 h3 ⟨by omega, by omega⟩ (fun lay => NX σ' ρ' _ lay _ _ h4 (by omega) (by omega))
          · exact lq_rejoin_3 C K hX hbl hbA hi hL h1 h2 h3 ⟨by omega, by omega⟩ (fun lay => NX σ' ρ' _ lay _ _ h4 (by omega) (by omega))
      · refine j_tin 725 C dL_law_39 (x := nI 9) (by decide) (by decide) (show _ = some (686 : Int) by decide) (by decide) ?_
        rcases SI_append N σ ρ hN5 hI (xs (5 * N + 1)) with ⟨σ', ρ', r, h1, h2, h3, h4, h5⟩ | ⟨σ', ρ', r, ex, cd, h1, h2, h3, hm, h4, h5⟩
        · exact lq_append C K hX hbl hbA hi hL h1 h2 h3 ⟨by omega, by omega⟩ (fun lay => NX σ' ρ' _ lay _ _ h4 (by omega) (by omega))
        · simp only [List.mem_cons, List.not_mem_nil, or_false, Prod.mk.injEq] at hm
          rcases hm with ⟨rfl, rfl⟩ | ⟨rfl, rfl⟩
          · exact lq_append_2 C K hX hbl hbA hi hL h1 h2 h3 ⟨by omega, by omega⟩ (fun lay => NX σ' ρ' _ lay _ _ h4 (by omega) (by omega))
          · exact lq_append_3 C K hX hbl hbA hi hL h1 h2 h3 ⟨by omega, by omega⟩ (fun lay => NX σ' ρ' _ lay _ _ h4 (by omega) (by omega))
      · refine j_tin 781 C dL_law_39 (x := nI 10) (by decide) (by decide) (show _ = some (742 : Int) by decide) (by decide) ?_
        obtain ⟨σ', ρ', r, h1, h2, h4, h5⟩ := SI_clearInput N σ ρ hN5 hI
        exact lq_clearInput C K hX hbl hbA hi hL h1 h2 ⟨by omega, by omega⟩ (fun lay => NX σ' ρ' _ lay _ _ h4 (by omega) (by omega))
      · refine j_tin 794 C dL_law_39 (x := nI 11) (by decide) (by decide) (show _ = some (755 : Int) by decide) (by decide) ?_
        obtain ⟨σ', ρ', r, h1, h2, h4, h5⟩ := SI_firstError N σ ρ hN5 hI
        exact lq_firstError C K hX hbl hbA hi hL h1 h2 ⟨by omega, by omega⟩ (fun lay => NX σ' ρ' _ lay _ _ h4 (by omega) (by omega))
      · refine j_tin 807 C dL_law_39 (x := nI 12) (by decide) (by decide) (show _ = some (768 : Int) by decide) (by decide) ?_
        rcases SI_load N σ ρ hN5 hI  with ⟨σ', ρ', r, h1, h2, h3, h4, h5⟩ | ⟨σ', ρ', r, ex, cd, h1, h2, h3, hm, h4, h5⟩
        · exact lq_load C K hX hbl hbA hi hL h1 h2 h3 ⟨by omega, by omega⟩ (fun lay => NX σ' ρ' _ lay _ _ h4 (by omega) (by omega))
        · simp only [List.mem_cons, List.not_mem_nil, or_false, Prod.mk.injEq] at hm
          rcases hm with ⟨rfl, rfl⟩
          · exact lq_load_2 C K hX hbl hbA hi hL h1 h2 h3 ⟨by omega, by omega⟩ (fun lay => NX σ' ρ' _ lay _ _ h4 (by omega) (by omega))
      · refine j_tin 851 C dL_law_39 (x := nI 13) (by decide) (by decide) (show _ = some (812 : Int) by decide) (by decide) ?_
        rcases SI_count N σ ρ hN5 hI (xs (5 * N + 1)) with ⟨σ', ρ', r, h1, h2, h3, h4, h5⟩ | ⟨σ', ρ', r, ex, cd, h1, h2, h3, hm, h4, h5⟩
        · exact lq_count C K hX hbl hbA hi hL h1 h2 h3 ⟨by omega, by omega⟩ (fun lay => NX σ' ρ' _ lay _ _ h4 (by omega) (by omega))
        · simp only [List.mem_cons, List.not_mem_nil, or_false, Prod.mk.injEq] at hm
          rcases hm with ⟨rfl, rfl⟩
          · exact lq_count_2 C K hX hbl hbA hi hL h1 h2 h3 ⟨by omega, by omega⟩ (fun lay => NX σ' ρ' _ lay _ _ h4 (by omega) (by omega))
      · refine j_tin 907 C dL_law_39 (x := nI 14) (by decide) (by decide) (show _ = some (868 : Int) by decide) (by decide) ?_
        rcases SI_node N σ ρ hN5 hI (xs (5 * N + 1)) (xs (5 * N + 2)) with ⟨σ', ρ', r, h1, h2, h3, h4, h5⟩ | ⟨σ', ρ', r, ex, cd, h1, h2, h3, hm, h4, h5⟩
        · exact lq_node C K hX hbl hbA hi hL h1 h2 h3 ⟨by omega, by omega⟩ (fun lay => NX σ' ρ' _ lay _ _ h4 (by omega) (by omega))
        · simp only [List.mem_cons, List.not_mem_nil, or_false, Prod.mk.injEq] at hm
          rcases hm with ⟨rfl, rfl⟩ | ⟨rfl, rfl⟩
          · exact lq_node_1 C K hX hbl hbA hi hL h1 h2 h3 ⟨by omega, by omega⟩ (fun lay => NX σ' ρ' _ lay _ _ h4 (by omega) (by omega))
          · exact lq_node_2 C K hX hbl hbA hi hL h1 h2 h3 ⟨by omega, by omega⟩ (fun lay => NX σ' ρ' _ lay _ _ h4 (by omega) (by omega))
      · refine j_tin 975 C dL_law_39 (x := nI 15) (by decide) (by decide) (show _ = some (936 : Int) by decide) (by decide) ?_
        rcases SI_accepted N σ ρ hN5 hI (xs (5 * N + 1)) (xs (5 * N + 2)) (xs (5 * N + 3)) with ⟨σ', ρ', r, h1, h2, h3, h4, h5⟩ | ⟨σ', ρ', r, ex, cd, h1, h2, h3, hm, h4, h5⟩
        · exact lq_accepted C K hX hbl hbA hi hL h1 h2 h3 ⟨by omega, by omega⟩ (fun lay => NX σ' ρ' _ lay _ _ h4 (by omega) (by omega))
        · simp only [List.mem_cons, List.not_mem_nil, or_false, Prod.mk.injEq] at hm
          rcases hm with ⟨rfl, rfl⟩ | ⟨rfl, rfl⟩
          · exact lq_accepted_1 C K hX hbl hbA hi hL h1 h2 h3 ⟨by omega, by omega⟩ (fun lay => NX σ' ρ' _ lay _ _ h4 (by omega) (by omega))
          · exact lq_accepted_2 C K hX hbl hbA hi hL h1 h2 h3 ⟨by omega, by omega⟩ (fun lay => NX σ' ρ' _ lay _ _ h4 (by omega) (by omega))
      · refine j_tin 1055 C dL_law_39 (x := nI 16) (by decide) (by decide) (show _ = some (1016 : Int) by decide) (by decide) ?_
        rcases SI_waiting N σ ρ hN5 hI (xs (5 * N + 1)) (xs (5 * N + 2)) (xs (5 * N + 3)) with ⟨σ', ρ', r, h1, h2, h3, h4, h5⟩ | ⟨σ', ρ', r, ex, cd, h1, h2, h3, hm, h4, h5⟩
        · exact lq_waiting C K hX hbl hbA hi hL h1 h2 h3 ⟨by omega, by omega⟩ (fun lay => NX σ' ρ' _ lay _ _ h4 (by omega) (by omega))
        · simp only [List.mem_cons, List.not_mem_nil, or_false, Prod.mk.injEq] at hm
          rcases hm with ⟨rfl, rfl⟩ | ⟨rfl, rfl⟩
          · exact lq_waiting_1 C K hX hbl hbA hi hL h1 h2 h3 ⟨by omega, by omega⟩ (fun lay => NX σ' ρ' _ lay _ _ h4 (by omega) (by omega))
          · exact lq_waiting_2 C K hX hbl hbA hi hL h1 h2 h3 ⟨by omega, by omega⟩ (fun lay => NX σ' ρ' _ lay _ _ h4 (by omega) (by omega))
      · refine j_tin 1135 C dL_law_39 (x := nI 17) (by decide) (by decide) (show _ = some (1096 : Int) by decide) (by decide) ?_
        rcases SI_slot N σ ρ hN5 hI (xs (5 * N + 1)) (xs (5 * N + 2)) with ⟨σ', ρ', r, h1, h2, h3, h4, h5⟩ | ⟨σ', ρ', r, ex, cd, h1, h2, h3, hm, h4, h5⟩
        · exact lq_slot C K hX hbl hbA hi hL h1 h2 h3 ⟨by omega, by omega⟩ (fun lay => NX σ' ρ' _ lay _ _ h4 (by omega) (by omega))
        · simp only [List.mem_cons, List.not_mem_nil, or_false, Prod.mk.injEq] at hm
          rcases hm with ⟨rfl, rfl⟩ | ⟨rfl, rfl⟩
          · exact lq_slot_1 C K hX hbl hbA hi hL h1 h2 h3 ⟨by omega, by omega⟩ (fun lay => NX σ' ρ' _ lay _ _ h4 (by omega) (by omega))
          · exact lq_slot_2 C K hX hbl hbA hi hL h1 h2 h3 ⟨by omega, by omega⟩ (fun lay => NX σ' ρ' _ lay _ _ h4 (by omega) (by omega))
      · refine j_tin 1203 C dL_law_39 (x := nI 18) (by decide) (by decide) (show _ = some (1164 : Int) by decide) (by decide) ?_
        rcases SI_roundValue N σ ρ hN5 hI (xs (5 * N + 1)) (xs (5 * N + 2)) with ⟨σ', ρ', r, h1, h2, h3, h4, h5⟩ | ⟨σ', ρ', r, ex, cd, h1, h2, h3, hm, h4, h5⟩
        · exact lq_roundValue C K hX hbl hbA hi hL h1 h2 h3 ⟨by omega, by omega⟩ (fun lay => NX σ' ρ' _ lay _ _ h4 (by omega) (by omega))
        · simp only [List.mem_cons, List.not_mem_nil, or_false, Prod.mk.injEq] at hm
          rcases hm with ⟨rfl, rfl⟩ | ⟨rfl, rfl⟩
          · exact lq_roundValue_1 C K hX hbl hbA hi hL h1 h2 h3 ⟨by omega, by omega⟩ (fun lay => NX σ' ρ' _ lay _ _ h4 (by omega) (by omega))
          · exact lq_roundValue_3 C K hX hbl hbA hi hL h1 h2 h3 ⟨by omega, by omega⟩ (fun lay => NX σ' ρ' _ lay _ _ h4 (by omega) (by omega))
      · refine j_tin 1271 C dL_law_39 (x := nI 19) (by decide) (by decide) (show _ = some (1232 : Int) by decide) (by decide) ?_
        rcases SI_ifCrashed N σ ρ hN5 hI (xs (5 * N + 1)) (xs (5 * N + 2)) (xs (5 * N + 3)) with ⟨σ', ρ', r, h1, h2, h3, h4, h5⟩ | ⟨σ', ρ', r, ex, cd, h1, h2, h3, hm, h4, h5⟩
        · exact lq_ifCrashed C K hX hbl hbA hi hL h1 h2 h3 ⟨by omega, by omega⟩ (fun lay => NX σ' ρ' _ lay _ _ h4 (by omega) (by omega))
        · simp only [List.mem_cons, List.not_mem_nil, or_false, Prod.mk.injEq] at hm
          rcases hm with ⟨rfl, rfl⟩ | ⟨rfl, rfl⟩
          · exact lq_ifCrashed_1 C K hX hbl hbA hi hL h1 h2 h3 ⟨by omega, by omega⟩ (fun lay => NX σ' ρ' _ lay _ _ h4 (by omega) (by omega))
          · exact lq_ifCrashed_2 C K hX hbl hbA hi hL h1 h2 h3 ⟨by omega, by omega⟩ (fun lay => NX σ' ρ' _ lay _ _ h4 (by omega) (by omega))
      · refine j_tin 1351 C dL_law_39 (x := nI 20) (by decide) (by decide) (show _ = some (1312 : Int) by decide) (by decide) ?_
        rcases SI_harmless N σ ρ hN5 hI (xs (5 * N + 1)) with ⟨σ', ρ', r, h1, h2, h3, h4, h5⟩ | ⟨σ', ρ', r, ex, cd, h1, h2, h3, hm, h4, h5⟩
        · exact lq_harmless C K hX hbl hbA hi hL h1 h2 h3 ⟨by omega, by omega⟩ (fun lay => NX σ' ρ' _ lay _ _ h4 (by omega) (by omega))
        · simp only [List.mem_cons, List.not_mem_nil, or_false, Prod.mk.injEq] at hm
          rcases hm with ⟨rfl, rfl⟩
          · exact lq_harmless_1 C K hX hbl hbA hi hL h1 h2 h3 ⟨by omega, by omega⟩ (fun lay => NX σ' ρ' _ lay _ _ h4 (by omega) (by omega))
      · refine j_tin 1407 C dL_law_39 (x := nI 21) (by decide) (by decide) (show _ = some (1368 : Int) by decide) (by decide) ?_
        rcases SI_leastLosses N σ ρ hN5 hI (xs (5 * N + 1)) with ⟨σ', ρ', r, h1, h2, h3, h4, h5⟩ | ⟨σ', ρ', r, ex, cd, h1, h2, h3, hm, h4, h5⟩
        · exact lq_leastLosses C K hX hbl hbA hi hL h1 h2 h3 ⟨by omega, by omega⟩ (fun lay => NX σ' ρ' _ lay _ _ h4 (by omega) (by omega))
        · simp only [List.mem_cons, List.not_mem_nil, or_false, Prod.mk.injEq] at hm
          rcases hm with ⟨rfl, rfl⟩ | ⟨rfl, rfl⟩
          · exact lq_leastLosses_1 C K hX hbl hbA hi hL h1 h2 h3 ⟨by omega, by omega⟩ (fun lay => NX σ' ρ' _ lay _ _ h4 (by omega) (by omega))
          · exact lq_leastLosses_3 C K hX hbl hbA hi hL h1 h2 h3 ⟨by omega, by omega⟩ (fun lay => NX σ' ρ' _ lay _ _ h4 (by omega) (by omega))
      · refine j_tin 1463 C dL_law_39 (x := nI 22) (by decide) (by decide) (show _ = some (1424 : Int) by decide) (by decide) ?_
        obtain ⟨σ', ρ', r, h1, h2, h4, h5⟩ := SI_answered N σ ρ hN5 hI
        exact lq_answered C K hX hbl hbA hi hL h1 h2 ⟨by omega, by omega⟩ (fun lay => NX σ' ρ' _ lay _ _ h4 (by omega) (by omega))
      · refine j_tin 1476 C dL_law_39 (x := nI 23) (by decide) (by decide) (show _ = some (1437 : Int) by decide) (by decide) ?_
        obtain ⟨σ', ρ', r, h1, h2, h4, h5⟩ := SI_onDisks N σ ρ hN5 hI
        exact lq_onDisks C K hX hbl hbA hi hL h1 h2 ⟨by omega, by omega⟩ (fun lay => NX σ' ρ' _ lay _ _ h4 (by omega) (by omega))
      · refine j_tin 1517 C dL_law_39 (x := nI 24) (by decide) (by decide) (show _ = some (1478 : Int) by decide) (by decide) ?_
        obtain ⟨σ', ρ', r, h1, h2, h4, h5⟩ := SI_digest N σ ρ hN5 hI
        exact lq_digest C K hX hbl hbA hi hL h1 h2 ⟨by omega, by omega⟩ (fun lay => NX σ' ρ' _ lay _ _ h4 (by omega) (by omega))
      · refine j_tout 1531 C dL_law_39 (Or.inr (by rw [nI_toInt (by omega)]; omega)) (by decide) ?_
        exact NX σ ρ v lay k n (SI_mono N σ ρ hI) (by omega) (by omega)
