def qa (σ : CS) (k s w : Nat) : Int32 := if w = 0 then σ 42 (7 + k) s else if w = 1 then σ 43 (7 + k) s else if w = 2 then σ 42 k s else σ 43 k s
theorem acp_c {c N M L k s w : Nat} {σ : CS} {ρ : RS} (hJ : Jc c N M L σ ρ) (hk : k < N) (hs : s < M) (hw : w < 4) : F_X5_accepted σ (nI k) (nI s) (nI w) = some (σ, .inl (qa σ k s w)) := by
  have hG := hJ.1
  have hk7 : k < 7 := by have := hG.1.2.2.2; omega
  have hs4 : s < 4 := by have := hG.2.1.2.2.2; omega
  unfold F_X5_accepted
  rw [(nd_c hG.1.1 hG.1.2.2.2).1 k hk rfl, bx_l, (sl_c hG.2.1.1 hG.2.1.2.2.2).1 s hs rfl, bx_l, g7 hk7]
  simp only [t7 hk7, g4 hs4, t4 hs4]
  have h : w = 0 ∨ w = 1 ∨ w = 2 ∨ w = 3 := by omega
  unfold qa
  rcases h with rfl | rfl | rfl | rfl <;> rfl
theorem acp_r {c N M L k s w : Nat} {σ : CS} {ρ : RS} (hJ : Jc c N M L σ ρ) (hk7 : k < 7) (hs4 : s < 4) (hw : w < 4) : F_X6_acceptedNow ρ (nI k) (nI s) (nI w) = some (ρ, qa σ k s w) := by
  obtain ⟨p1, p2, p3, p4⟩ := (hJ.2.1 k hk7).1.s hs4
  have r12 : ρ.1 12 (4 * k + s) = σ 42 (7 + k) s := by rw [Ur_rd (um_12 hk7 hs4), p3]
  have r13 : ρ.1 13 (4 * k + s) = σ 43 (7 + k) s := by rw [Ur_rd (um_13 hk7 hs4), p4]
  have r9 : ρ.1 9 (4 * k + s) = σ 42 k s := by rw [Ur_rd (um_9 hk7 hs4), p1]
  have r10 : ρ.1 10 (4 * k + s) = σ 43 k s := by rw [Ur_rd (um_10 hk7 hs4), p2]
  unfold F_X6_acceptedNow
  rw [at_eq, bd_s]
  simp only [g28 hk7 hs4, t28 hk7 hs4, r12, r13, r9, r10]
  have h : w = 0 ∨ w = 1 ∨ w = 2 ∨ w = 3 := by omega
  unfold qa
  rcases h with rfl | rfl | rfl | rfl <;> rfl
theorem sm_accepted : Sm_accepted Inv := by
  rintro n σ ρ hn ⟨c, N, M, L, hcL, hJ⟩ x1 x2 x3
  have hG := hJ.1
  have h6 := hG.1.1
  have hN := hG.1.2.2
  have h7 := hG.2.1.1
  have hM := hG.2.1.2.2
  have d1 : ρ.1 1 0 = nI N := by rw [Ur_rd um_1]; exact hG.1.2.1
  have d2 : ρ.1 2 0 = nI M := by rw [Ur_rd um_2]; exact hG.2.1.2.1
  rcases rng (x := x1) (a := 0) (b := N) (by omega) (by omega) with ⟨k, _, hk, rfl⟩ | hb
  · have hk7 : k < 7 := by omega
    rcases rng (x := x2) (a := 0) (b := M) (by omega) (by omega) with ⟨s, _, hs, rfl⟩ | hb
    · have hs4 : s < 4 := by omega
      rcases rng (x := x3) (a := 0) (b := 4) (by omega) (by omega) with ⟨w, _, hw, rfl⟩ | hb
      · have w1 : F_X6_within ρ (nI w) 0 3 = some (ρ, 1) := (wi_r (a := 0) (b := 3) (by decide)).1 w (by omega) (by omega) rfl
        refine sw_ok (c' := c) hJ (by omega) (acp_c hJ hk hs hw) (ρ' := rp ρ 0 0 0) ?_ rp_se hJ.t0
        unfold F_X6_accepted B_X6_accepted_35
        rw [(ndr d1 (by omega) hN.2).1 k hk rfl, bd_s, if_neg (by decide), (slr d2 (by omega) hM.2).1 s hs rfl, bd_s, if_neg (by decide), w1, bd_s, if_neg (by decide), lt_eq, if_pos (by rw [rp_se]; decide), acp_r (hJ.t0 (v := 0)) hk7 hs4 hw, bd_s]
      · have w1 : F_X6_within ρ x3 0 3 = some (ρ, 0) := (wi_r (a := 0) (b := 3) (by decide)).2 (hb.imp id (lt_pred (N := 4) (by decide) (by decide)))
        have hne := ne_out (by decide) hb
        have hcx : F_X5_accepted σ (nI k) (nI s) x3 = some (σ, .inr 2) := by
          unfold F_X5_accepted
          rw [(nd_c h6 hN.2).1 k hk rfl, bx_l, (sl_c h7 hM.2).1 s hs rfl, bx_l, g7 hk7, if_neg (show ¬ x3 = (0 : Int32) from hne 0 (by decide)), if_neg (show ¬ x3 = (1 : Int32) from hne 1 (by decide)), if_neg (show ¬ x3 = (2 : Int32) from hne 2 (by decide)), if_neg (show ¬ x3 = (3 : Int32) from hne 3 (by decide))]
        refine sw_ex (cd := 2) (r := 0) hJ hcL hcx ?_ (by decide)
        unfold F_X6_accepted B_X6_accepted_35
        rw [(ndr d1 (by omega) hN.2).1 k hk rfl, bd_s, if_neg (by decide), (slr d2 (by omega) hM.2).1 s hs rfl, bd_s, if_neg (by decide), w1, bd_s, if_pos rfl, lt_eq, if_neg (by rw [rp_se]; decide)]
    · refine sw_ex (cd := 1) (r := 0) hJ hcL (ex := 1) ?_ ?_ (by decide)
      · unfold F_X5_accepted
        rw [(nd_c h6 hN.2).1 k hk rfl, bx_l, (sl_c h7 hM.2).2 hb, bx_r]
      · unfold F_X6_accepted B_X6_accepted_17 B_X6_accepted_35
        rw [(ndr d1 (by omega) hN.2).1 k hk rfl, bd_s, if_neg (by decide), (slr d2 (by omega) hM.2).2 hb, bd_s, if_pos rfl, lt_eq, if_neg (by rw [rp_se]; decide)]
  · refine sw_ex (cd := 1) (r := 0) hJ hcL (ex := 1) ?_ ?_ (by decide)
    · unfold F_X5_accepted
      rw [(nd_c h6 hN.2).2 hb, bx_r]
    · unfold F_X6_accepted B_X6_accepted_17 B_X6_accepted_35
      rw [(ndr d1 (by omega) hN.2).2 hb, bd_s, if_pos rfl, lt_eq, if_neg (by rw [rp_se]; decide)]
def qw (σ : CS) (k j w : Nat) : Int32 := if w = 0 then σ 44 k j else if w = 1 then σ 45 k j else σ 46 k j
theorem Jc.wz {c N M L k : Nat} {σ : CS} {ρ : RS} (hJ : Jc c N M L σ ρ) (hk7 : k < 7) : ∃ z C, z ≤ c ∧ σ 83 k 0 = nI z ∧ cap C ∧ z ≤ C ∧ σ 47 k 0 = nI C ∧ σ 48 k 0 = nI C ∧ σ 49 k 0 = nI C := by
  obtain ⟨z, C, h1, h2, h3, h4, h5, h6, h7, h8⟩ := (hJ.2.1 k hk7).2.wf hJ.1.2.1.2.2.2
  rw [nd_a rfl] at h2 h5 h6 h7
  exact ⟨z, C, h1, h2, h3, h4, h5, h6, h7⟩
theorem wt_c {c N M L k j z w : Nat} {σ : CS} {ρ : RS} (hJ : Jc c N M L σ ρ) (hk : k < N) (hz : σ 83 k 0 = nI z) (hz5 : z < 2 ^ 30) (hj : j < z) (hw : w < 3) : F_X5_waiting σ (nI k) (nI j) (nI w) = some (σ, .inl (qw σ k j w)) := by
  have hG := hJ.1
  have hk7 : k < 7 := by have := hG.1.2.2.2; omega
  obtain ⟨z', C, h1, h2, h3, h4, h5, h6, h7⟩ := hJ.wz hk7
  have hC := cap_le h3
  have ez : z' = z := nI_inj (by omega) (by omega) (h2.symm.trans hz)
  subst ez
  unfold F_X5_waiting
  rw [(nd_c hG.1.1 hG.1.2.2.2).1 k hk rfl, bx_l, g7 hk7, if_neg (nI_pos (by omega)), t7 hk7, hz, if_pos (nI_lt hj (by omega)), h5, h6, h7, tn_nI (show C < 2 ^ 31 by omega), gd_inb (by omega) (by omega), gd_inb (by omega) (by omega), gd_inb (by omega) (by omega), tn_nI (show j < 2 ^ 31 by omega)]
  have h : w = 0 ∨ w = 1 ∨ w = 2 := by omega
  unfold qw
  rcases h with rfl | rfl | rfl <;> rfl
theorem wt_r {c N M L k j z w : Nat} {σ : CS} {ρ : RS} (hJ : Jc c N M L σ ρ) (hc : c ≤ 512) (hk7 : k < 7) (hz : σ 83 k 0 = nI z) (hz5 : z < 2 ^ 30) (hj : j < z) (hw : w < 3) : F_X6_waitingNow ρ (nI k) (nI j) (nI w) = some (ρ, qw σ k j w) := by
  obtain ⟨z', C, h1, h2, h3, h4, h5, h6, h7⟩ := hJ.wz hk7
  have hC := cap_le h3
  have ez : z' = z := nI_inj (by omega) (by omega) (h2.symm.trans hz)
  subst ez
  have hj2 : j < 2048 := by omega
  obtain ⟨e1, e2, e3⟩ := (hJ.2.1 k hk7).1.2.2.1 j (by rw [nd_a rfl, hz, tn_nI (by omega)]; exact hj)
  simp only [nd_a (show nc 44 = true from rfl), nd_a (show nc 45 = true from rfl), nd_a (show nc 46 = true from rfl)] at e1 e2 e3
  have r15 : ρ.1 15 (2048 * k + j) = σ 44 k j := by rw [Ur_rd (um_15 hk7 hj2), e1]
  have r16 : ρ.1 16 (2048 * k + j) = σ 45 k j := by rw [Ur_rd (um_16 hk7 hj2), e2]
  have r17 : ρ.1 17 (2048 * k + j) = σ 46 k j := by rw [Ur_rd (um_17 hk7 hj2), e3]
  unfold F_X6_waitingNow
  rw [m2048, nI_add, lt_eq]
  simp only [gw hk7 hj2, tw hk7 hj2, r15, r16, r17]
  have h : w = 0 ∨ w = 1 ∨ w = 2 := by omega
  unfold qw
  rcases h with rfl | rfl | rfl <;> rfl
theorem sm_waiting : Sm_waiting Inv := by
  rintro n σ ρ hn ⟨c, N, M, L, hcL, hJ⟩ x1 x2 x3
  have hG := hJ.1
  have h6 := hG.1.1
  have hN := hG.1.2.2
  have d1 : ρ.1 1 0 = nI N := by rw [Ur_rd um_1]; exact hG.1.2.1
  rcases rng (x := x1) (a := 0) (b := N) (by omega) (by omega) with ⟨k, _, hk, rfl⟩ | hb
  · have hk7 : k < 7 := by omega
    obtain ⟨z, C, hz1, hz, h3, h4, _⟩ := hJ.wz hk7
    have hC := cap_le h3
    have r14 : ρ.1 14 k = nI z := by rw [Ur_rd (um_14 hk7), ← (hJ.2.1 k hk7).1.q.2.2.2.2.2.2.2]; exact hz
    have hin : (∀ j, j < z → x2 = nI j → F_X6_within ρ x2 0 (nI z - 1) = some (ρ, 1)) ∧ ((x2 < 0 ∨ nI z ≤ x2) → F_X6_within ρ x2 0 (nI z - 1) = some (ρ, 0)) := by
      by_cases hz0 : z = 0
      · subst hz0
        refine ⟨fun j hj => by omega, fun h => ?_⟩
        unfold F_X6_within B_X6_within_14
        by_cases h0 : x2 < 0
        · rw [if_pos h0]
        · rw [if_neg h0, if_pos]
          have h1 : nI 0 - 1 < (0 : Int32) := by decide
          exact Int32.lt_of_lt_of_le h1 (Int32.not_lt.mp h0)
      · rw [show nI z - (1 : Int32) = nI (z - 1) from pk_sub (b := 1) (by omega)]
        exact ⟨fun j hj e => (wi_r (a := 0) (by omega)).1 j (by omega) (by omega) e, fun h => (wi_r (a := 0) (by omega)).2 (h.imp id (lt_pred (by omega) (by omega)))⟩
    rcases rng (x := x2) (a := 0) (b := z) (by omega) (by omega) with ⟨j, _, hj, rfl⟩ | hb
    · rcases rng (x := x3) (a := 0) (b := 3) (by omega) (by omega) with ⟨w, _, hw, rfl⟩ | hb
      · have w1 : F_X6_within ρ (nI w) 0 2 = some (ρ, 1) := (wi_r (a := 0) (b := 2) (by decide)).1 w (by omega) (by omega) rfl
        refine sw_ok (c' := c) hJ (by omega) (wt_c hJ hk hz (by omega) hj hw) (ρ' := rp ρ 0 0 0) ?_ rp_se hJ.t0
        unfold F_X6_waiting B_X6_waiting_29 B_X6_waiting_55
        rw [(ndr d1 (by omega) hN.2).1 k hk rfl, bd_s, if_neg (by decide), g7 hk7, t7 hk7, r14, hin.1 j hj rfl, bd_s, if_neg (by decide), if_neg (by decide), w1, bd_s, if_neg (by decide), lt_eq, if_pos (by rw [rp_se]; decide), wt_r (hJ.t0 (v := 0)) (by omega) hk7 hz (by omega) hj hw, bd_s]
      · have w1 : F_X6_within ρ x3 0 2 = some (ρ, 0) := (wi_r (a := 0) (b := 2) (by decide)).2 (hb.imp id (lt_pred (N := 3) (by decide) (by decide)))
        have hne := ne_out (by decide) hb
        have hcx : F_X5_waiting σ (nI k) (nI j) x3 = some (σ, .inr 2) := by
          unfold F_X5_waiting
          rw [(nd_c h6 hN.2).1 k hk rfl, bx_l, g7 hk7, if_neg (nI_pos (by omega)), t7 hk7, hz, if_pos (nI_lt hj (by omega)), if_neg (show ¬ x3 = (0 : Int32) from hne 0 (by decide)), if_neg (show ¬ x3 = (1 : Int32) from hne 1 (by decide)), if_neg (show ¬ x3 = (2 : Int32) from hne 2 (by decide))]
        refine sw_ex (cd := 2) (r := 0) hJ hcL hcx ?_ (by decide)
        unfold F_X6_waiting B_X6_waiting_29 B_X6_waiting_55
        rw [(ndr d1 (by omega) hN.2).1 k hk rfl, bd_s, if_neg (by decide), g7 hk7, t7 hk7, r14, hin.1 j hj rfl, bd_s, if_neg (by decide), if_neg (by decide), w1, bd_s, if_pos rfl, lt_eq, if_neg (by rw [rp_se]; decide)]
    · have hb' : x2 < 0 ∨ nI z ≤ x2 := hb
      refine sw_ex (cd := 1) (r := 0) hJ hcL (ex := 1) ?_ ?_ (by decide)
      · unfold F_X5_waiting B_X5_waiting_29
        rw [(nd_c h6 hN.2).1 k hk rfl, bx_l, g7 hk7, t7 hk7, hz]
        by_cases h0 : x2 < 0
        · rw [if_pos h0]
        · rw [if_neg h0, if_neg (fun q => Int32.lt_irrefl (Int32.lt_of_lt_of_le q (hb'.resolve_left h0)))]
      · unfold F_X6_waiting B_X6_waiting_28 B_X6_waiting_29 B_X6_waiting_55
        rw [(ndr d1 (by omega) hN.2).1 k hk rfl, bd_s, if_neg (by decide), g7 hk7, t7 hk7, r14, hin.2 hb', bd_s, if_pos rfl, if_pos rfl, lt_eq, if_neg (by rw [rp_se]; decide)]
  · refine sw_ex (cd := 1) (r := 0) hJ hcL (ex := 1) ?_ ?_ (by decide)
    · unfold F_X5_waiting
      rw [(nd_c h6 hN.2).2 hb, bx_r]
    · unfold F_X6_waiting B_X6_waiting_28 B_X6_waiting_29 B_X6_waiting_55
      rw [(ndr d1 (by omega) hN.2).2 hb, bd_s, if_pos rfl, if_pos rfl, lt_eq, if_neg (by rw [rp_se]; decide)]
theorem sm_roundValue : Sm_roundValue Inv := by
  rintro n σ ρ hn ⟨c, N, M, L, hcL, hJ⟩ x1 x2
  have hG := hJ.1
  have h6 := hG.1.1
  have hN := hG.1.2.2
  have h7 := hG.2.1.1
  have hM := hG.2.1.2.2
  have d1 : ρ.1 1 0 = nI N := by rw [Ur_rd um_1]; exact hG.1.2.1
  have d2 : ρ.1 2 0 = nI M := by rw [Ur_rd um_2]; exact hG.2.1.2.1
  rcases rng (x := x1) (a := 0) (b := N) (by omega) (by omega) with ⟨k, _, hk, rfl⟩ | hb
  · have hk7 : k < 7 := by omega
    rcases rng (x := x2) (a := 0) (b := M) (by omega) (by omega) with ⟨s, _, hs, rfl⟩ | hb
    · have hs4 : s < 4 := by omega
      have r18 : ρ.1 18 k = σ 29 k 0 := by rw [Ur_rd (um_18 hk7), (hJ.2.1 k hk7).1.q.2.2.2.2.1 trivial]
      by_cases u1 : σ 29 k 0 = -1
      · refine sw_ex (cd := 2) (r := 0) hJ hcL (ex := 3) ?_ ?_ (by decide)
        · unfold F_X5_roundValue F_X5_requireRound F_X3_hasRound
          rw [(nd_c h6 hN.2).1 k hk rfl, bx_l, (sl_c h7 hM.2).1 s hs rfl, bx_l, g7 hk7, t7 hk7, if_pos u1, bd_s, if_pos rfl, bx_r]
        · unfold F_X6_roundValue B_X6_roundValue_36
          rw [(ndr d1 (by omega) hN.2).1 k hk rfl, bd_s, if_neg (by decide), (slr d2 (by omega) hM.2).1 s hs rfl, bd_s, if_neg (by decide), g7 hk7, t7 hk7, r18, if_pos u1, lt_eq, if_neg (by rw [rp_se]; decide)]
      · have e41 : σ 41 k s = Ur ρ 41 k s := by
          have := (hJ.2.1 k hk7).1.2.2.2 trivial (by rw [nd_a rfl]; exact u1) s hs4
          rw [nd_a rfl, nd_a rfl] at this
          exact this
        refine sw_ok (c' := c) hJ (by omega) (r := σ 41 k s) (σ' := σ) ?_ (ρ' := rp ρ 0 0 0) ?_ rp_se hJ.t0
        · unfold F_X5_roundValue F_X5_requireRound F_X3_hasRound
          rw [(nd_c h6 hN.2).1 k hk rfl, bx_l, (sl_c h7 hM.2).1 s hs rfl, bx_l, g7 hk7, t7 hk7, if_neg u1, bd_s, if_neg (by decide), bx_l, g7 hk7, g4 hs4, t4 hs4]
        · unfold F_X6_roundValue B_X6_roundValue_36
          rw [(ndr d1 (by omega) hN.2).1 k hk rfl, bd_s, if_neg (by decide), (slr d2 (by omega) hM.2).1 s hs rfl, bd_s, if_neg (by decide), g7 hk7, t7 hk7, r18, if_neg u1, lt_eq, if_pos (by rw [rp_se]; decide), at_eq, bd_s, g28 hk7 hs4, t28 hk7 hs4, rp_n2 (by decide), Ur_rd (um_19 hk7 hs4), e41]
    · refine sw_ex (cd := 1) (r := 0) hJ hcL (ex := 1) ?_ ?_ (by decide)
      · unfold F_X5_roundValue
        rw [(nd_c h6 hN.2).1 k hk rfl, bx_l, (sl_c h7 hM.2).2 hb, bx_r]
      · unfold F_X6_roundValue B_X6_roundValue_17 B_X6_roundValue_36
        rw [(ndr d1 (by omega) hN.2).1 k hk rfl, bd_s, if_neg (by decide), (slr d2 (by omega) hM.2).2 hb, bd_s, if_pos rfl, lt_eq, if_neg (by rw [rp_se]; decide)]
  · refine sw_ex (cd := 1) (r := 0) hJ hcL (ex := 1) ?_ ?_ (by decide)
    · unfold F_X5_roundValue
      rw [(nd_c h6 hN.2).2 hb, bx_r]
    · unfold F_X6_roundValue B_X6_roundValue_17 B_X6_roundValue_36
      rw [(ndr d1 (by omega) hN.2).2 hb, bd_s, if_pos rfl, lt_eq, if_neg (by rw [rp_se]; decide)]
