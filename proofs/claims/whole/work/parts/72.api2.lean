theorem sm_accept : Sm_accept Inv := by
  rintro n σ ρ hn ⟨c, N, M, L, hcL, hJ⟩ x1 x2 x3 x4
  have hG := hJ.1
  have h6 := hG.1.1
  have hN := hG.1.2.2
  have h7 := hG.2.1.1
  have hM := hG.2.1.2.2
  have d1 : ρ.1 1 0 = nI N := by rw [Ur_rd um_1]; exact hG.1.2.1
  have d2 : ρ.1 2 0 = nI M := by rw [Ur_rd um_2]; exact hG.2.1.2.1
  have hp := pw_N N (by omega)
  unfold F_X5_accept F_X6_accept F_X6_acceptFault B_X6_acceptFault_20
  rcases rng (x := x1) (a := 0) (b := N) (by omega) (by omega) with ⟨k, _, hk, rfl⟩ | hb
  · have hk7 : k < 7 := by omega
    rw [(nd_c h6 hN.2).1 k hk rfl, bx_l, (ndr d1 (by omega) hN.2).1 k hk rfl, bd_s, if_neg (show ¬ (1 : Int32) = 0 by decide)]
    rcases rng (x := x2) (a := 0) (b := M) (by omega) (by omega) with ⟨s, _, hs, rfl⟩ | hb
    · rw [(sl_c h7 hM.2).1 s hs rfl, bx_l, (slr d2 (by omega) hM.2).1 s hs rfl, bd_s, if_neg (show ¬ (1 : Int32) = 0 by decide)]
      unfold B_X6_acceptFault_21 B_X5_accept_20 B_X6_acceptFault_51
      rw [if_neg (show ¬ (1 : Int32) = 0 by decide)]
      rcases rng (x := x3) (a := 0) (b := 10) (by omega) (by omega) with ⟨v, _, hv, rfl⟩ | hb
      · rw [if_neg (nI_pos (by omega)), if_pos (show nI v ≤ (9 : Int32) from nI_le (b := 9) (by omega) (by decide)), show F_X6_within ρ (nI v) 0 9 = some (ρ, 1) from (wi_r (a := 0) (b := 9) (by decide)).1 v (by omega) (by omega) rfl, bd_s, if_neg (show ¬ (1 : Int32) = 0 by decide)]
        rcases rng (x := x4) (a := 1) (b := 2 ^ N) (by omega) (by omega) with ⟨r, hr1, hr2, rfl⟩ | hb
        · rw [(rc_c h6 hN.2).1 r hr1 hr2 rfl, bx_l, (rcr d1 hN.2).1 r hr1 hr2 rfl, bd_s, if_neg (show ¬ (1 : Int32) = 0 by decide), g7 hk7, t7 hk7]
          have q := (hJ.2.1 k hk7).1.q
          have r18 : ρ.1 18 k = σ 29 k 0 := by rw [Ur_rd (um_18 hk7), q.2.2.2.2.1 trivial]
          unfold F_X5_requireRound F_X3_hasRound
          rw [g7 hk7, t7 hk7, r18]
          by_cases u1 : σ 29 k 0 = -1
          · rw [if_pos u1, if_pos u1, bd_s, if_pos rfl, bx_r, bd_s, lt_eq, if_neg (by rw [rp_se]; decide)]
            exact sw_ex hJ hcL rfl rfl (by decide)
          · obtain ⟨σ', ρ', rr, e1, e2, hX, hJ', _⟩ := acc_2 (x := nI r) hk7 hs (v0 := nI v) ⟨v, by omega, rfl⟩ (by omega) (hJ.t0 (v := 0)) u1
            rw [if_neg u1, if_neg u1, bd_s, if_neg (show ¬ (1 : Int32) = 0 by decide), bx_l, g7 hk7, e1, bd_s, bd_s, lt_eq, if_pos (by rw [rp_se]; decide), e2, bd_s]
            exact sw_ok (c' := c + 1) hJ (by omega) rfl rfl (th0 hX) hJ'
        · rw [(rc_c h6 hN.2).2 hb, bx_r, (rcr d1 hN.2).2 hb, bd_s, if_pos rfl, bd_s, lt_eq, if_neg (by rw [rp_se]; decide)]
          exact sw_ex hJ hcL rfl rfl (by decide)
      · have hw : F_X6_within ρ x3 0 9 = some (ρ, 0) := (wi_r (a := 0) (b := 9) (by decide)).2 (hb.imp id (lt_pred (N := 10) (by decide) (by decide)))
        have hcx : (if x3 < 0 then some (σ, Sum.inr 2) else if x3 ≤ (9 : Int32) then bx (F_X5_requireReached σ x4) fun σ107 _ => bx (F_X5_requireRound σ107 (nI k)) fun σ109 _ => gd (inb (nI k) 7) (bd (F_X5_sendAccept σ109 (tn (nI k)) (nI s) x3 x4) fun σ113 r114 => some (σ113, Sum.inl r114)) else some (σ, Sum.inr 2) : Option (CS × (Int32 ⊕ Nat))) = some (σ, .inr 2) := by
          rcases hb with h | h
          · rw [if_pos (show x3 < 0 from h)]
          · by_cases h0 : x3 < 0
            · rw [if_pos h0]
            · rw [if_neg h0, if_neg (show ¬ x3 ≤ (9 : Int32) from fun q => Int32.lt_irrefl (Int32.lt_of_lt_of_le (lt_pred (N := 10) (by decide) (by decide) h) q))]
        rw [hcx, hw, bd_s, if_pos rfl, bd_s, lt_eq, if_neg (by rw [rp_se]; decide)]
        exact sw_ex hJ hcL rfl rfl (by decide)
    · unfold B_X6_acceptFault_21
      rw [(sl_c h7 hM.2).2 hb, bx_r, (slr d2 (by omega) hM.2).2 hb, bd_s, if_pos rfl, if_pos rfl, bd_s, lt_eq, if_neg (by rw [rp_se]; decide)]
      exact sw_ex hJ hcL rfl rfl (by decide)
  · unfold B_X6_acceptFault_21
    rw [(nd_c h6 hN.2).2 hb, bx_r, (ndr d1 (by omega) hN.2).2 hb, bd_s, if_pos rfl, if_pos rfl, bd_s, lt_eq, if_neg (by rw [rp_se]; decide)]
    exact sw_ex hJ hcL rfl rfl (by decide)
theorem sm_barrier : Sm_barrier Inv := by
  rintro n σ ρ hn ⟨c, N, M, L, hcL, hJ⟩ x1
  have hG := hJ.1
  have h6 := hG.1.1
  have hN := hG.1.2.2
  have d1 : ρ.1 1 0 = nI N := by rw [Ur_rd um_1]; exact hG.1.2.1
  unfold F_X5_barrier F_X6_barrier F_X6_upFault
  rcases rng (x := x1) (a := 0) (b := N) (by omega) (by omega) with ⟨k, _, hk, rfl⟩ | hb
  · have hk7 : k < 7 := by omega
    have q := (hJ.2.1 k hk7).1.q
    have r4 : ρ.1 4 k = σ 25 k 0 := by rw [Ur_rd (um_4 hk7), q.1]
    obtain ⟨zi, ⟨b1, _⟩, _⟩ := (hJ.2.1 k hk7).2
    rw [nd_a rfl] at b1
    rw [(nd_c h6 hN.2).1 k hk rfl, bx_l, (ndr d1 (by omega) hN.2).1 k hk rfl, bd_s, if_neg (by decide), g7 hk7, t7 hk7, r4]
    unfold F_X5_requireUp
    rw [g7 hk7, t7 hk7]
    by_cases u1 : σ 25 k 0 = 0
    · rw [if_pos u1, bx_r, u1, if_neg (by decide), bd_s, lt_eq, if_neg (by rw [rp_se]; decide)]
      exact sw_ex hJ hcL rfl rfl (by decide)
    · obtain ⟨σ', ρ', rr, e1, e2, hX, hJ', _⟩ := bar_2 hk7 (by omega) (hJ.t0 (v := 0))
      rw [if_neg u1, bx_l, isb_nz b1 u1, if_pos rfl, bd_s, lt_eq, if_pos (by rw [rp_se]; decide), e2, bd_s, g7 hk7, e1, bd_s]
      exact sw_ok (c' := c) hJ (by omega) rfl rfl (th0 hX) hJ'
  · rw [(nd_c h6 hN.2).2 hb, bx_r, (ndr d1 (by omega) hN.2).2 hb, bd_s, if_pos rfl, bd_s, lt_eq, if_neg (by rw [rp_se]; decide)]
    exact sw_ex hJ hcL rfl rfl (by decide)
theorem sm_crash : Sm_crash Inv := by
  rintro n σ ρ hn ⟨c, N, M, L, hcL, hJ⟩ x1 x2
  have hG := hJ.1
  have h6 := hG.1.1
  have hN := hG.1.2.2
  have d1 : ρ.1 1 0 = nI N := by rw [Ur_rd um_1]; exact hG.1.2.1
  unfold F_X5_crash F_X6_crash B_X6_crash_35
  rcases rng (x := x1) (a := 0) (b := N) (by omega) (by omega) with ⟨k, _, hk, rfl⟩ | hb
  · have hk7 : k < 7 := by omega
    have q := (hJ.2.1 k hk7).1.q
    have r4 : ρ.1 4 k = σ 25 k 0 := by rw [Ur_rd (um_4 hk7), q.1]
    rw [(nd_c h6 hN.2).1 k hk rfl, bx_l, (ndr d1 (by omega) hN.2).1 k hk rfl, bd_s, if_neg (by decide)]
    unfold F_X5_requireLost
    by_cases hl : 0 ≤ x2
    · obtain ⟨l, hl1, rfl⟩ := nI_of (x := x2) (fun z => Int32.lt_irrefl (Int32.lt_of_lt_of_le z hl))
      rw [if_pos hl, if_pos hl, bx_l, g7 hk7, t7 hk7, r4]
      unfold F_X5_requireUp
      rw [g7 hk7, t7 hk7]
      by_cases u1 : σ 25 k 0 = 0
      · rw [if_pos u1, bx_r, if_pos u1, lt_eq, if_neg (by rw [rp_se]; decide)]
        exact sw_ex hJ hcL rfl rfl (by decide)
      · obtain ⟨σ', ρ', rr, e1, e2, hX, hJ', _⟩ := crash_2 hk7 (by omega) hl1 (hJ.t0 (v := 0))
        rw [if_neg u1, bx_l, if_neg u1, lt_eq, if_pos (by rw [rp_se]; decide), e2, bd_s, g7 hk7, e1, bd_s]
        exact sw_ok (c' := c) hJ (by omega) rfl rfl (th0 hX) hJ'
    · rw [if_neg hl, if_neg hl, bx_r, lt_eq, if_neg (by rw [rp_se]; decide)]
      exact sw_ex hJ hcL rfl rfl (by decide)
  · rw [(nd_c h6 hN.2).2 hb, bx_r, (ndr d1 (by omega) hN.2).2 hb, bd_s, if_pos rfl, lt_eq, if_neg (by rw [rp_se]; decide)]
    exact sw_ex hJ hcL rfl rfl (by decide)
theorem sm_wipe : Sm_wipe Inv := by
  rintro n σ ρ hn ⟨c, N, M, L, hcL, hJ⟩ x1
  have hG := hJ.1
  have h6 := hG.1.1
  have hN := hG.1.2.2
  have d1 : ρ.1 1 0 = nI N := by rw [Ur_rd um_1]; exact hG.1.2.1
  unfold F_X5_wipe F_X6_wipe F_X6_upFault
  rcases rng (x := x1) (a := 0) (b := N) (by omega) (by omega) with ⟨k, _, hk, rfl⟩ | hb
  · have hk7 : k < 7 := by omega
    have q := (hJ.2.1 k hk7).1.q
    have r4 : ρ.1 4 k = σ 25 k 0 := by rw [Ur_rd (um_4 hk7), q.1]
    rw [(nd_c h6 hN.2).1 k hk rfl, bx_l, (ndr d1 (by omega) hN.2).1 k hk rfl, bd_s, if_neg (by decide), g7 hk7, t7 hk7, r4]
    unfold F_X5_requireDown
    rw [g7 hk7, t7 hk7]
    by_cases u1 : σ 25 k 0 = 0
    · obtain ⟨σ', ρ', rr, e1, e2, hX, hJ', _⟩ := wipe_2 hk7 (by omega) (hJ.t0 (v := 0)) u1
      rw [if_pos u1, bx_l, if_pos u1, bd_s, lt_eq, if_pos (by rw [rp_se]; decide), e2, bd_s, g7 hk7, e1, bd_s]
      exact sw_ok (c' := c) hJ (by omega) rfl rfl (th0 hX) hJ'
    · rw [if_neg u1, bx_r, if_neg u1, bd_s, lt_eq, if_neg (by rw [rp_se]; decide)]
      exact sw_ex hJ hcL rfl rfl (by decide)
  · rw [(nd_c h6 hN.2).2 hb, bx_r, (ndr d1 (by omega) hN.2).2 hb, bd_s, if_pos rfl, bd_s, lt_eq, if_neg (by rw [rp_se]; decide)]
    exact sw_ex hJ hcL rfl rfl (by decide)
theorem sm_restart : Sm_restart Inv := by
  rintro n σ ρ hn ⟨c, N, M, L, hcL, hJ⟩ x1
  have hG := hJ.1
  have h6 := hG.1.1
  have hN := hG.1.2.2
  have d1 : ρ.1 1 0 = nI N := by rw [Ur_rd um_1]; exact hG.1.2.1
  unfold F_X5_restart F_X6_restart F_X6_upFault
  rcases rng (x := x1) (a := 0) (b := N) (by omega) (by omega) with ⟨k, _, hk, rfl⟩ | hb
  · have hk7 : k < 7 := by omega
    have q := (hJ.2.1 k hk7).1.q
    have r4 : ρ.1 4 k = σ 25 k 0 := by rw [Ur_rd (um_4 hk7), q.1]
    rw [(nd_c h6 hN.2).1 k hk rfl, bx_l, (ndr d1 (by omega) hN.2).1 k hk rfl, bd_s, if_neg (by decide), g7 hk7, t7 hk7, r4]
    unfold F_X5_requireDown
    rw [g7 hk7, t7 hk7]
    by_cases u1 : σ 25 k 0 = 0
    · obtain ⟨σ', ρ', rr, e1, e2, hX, hJ', _⟩ := up_2 hk7 (hJ.t0 (v := 0))
      rw [if_pos u1, bx_l, if_pos u1, bd_s, lt_eq, if_pos (by rw [rp_se]; decide), e2, bd_s, g7 hk7, e1, bd_s]
      exact sw_ok (c' := c) hJ (by omega) rfl rfl (th0 hX) hJ'
    · rw [if_neg u1, bx_r, if_neg u1, bd_s, lt_eq, if_neg (by rw [rp_se]; decide)]
      exact sw_ex hJ hcL rfl rfl (by decide)
  · rw [(nd_c h6 hN.2).2 hb, bx_r, (ndr d1 (by omega) hN.2).2 hb, bd_s, if_pos rfl, bd_s, lt_eq, if_neg (by rw [rp_se]; decide)]
    exact sw_ex hJ hcL rfl rfl (by decide)
theorem sm_rejoin : Sm_rejoin Inv := by
  rintro n σ ρ hn ⟨c, N, M, L, hcL, hJ⟩ x1 x2
  have hG := hJ.1
  have h6 := hG.1.1
  have hN := hG.1.2.2
  have d1 : ρ.1 1 0 = nI N := by rw [Ur_rd um_1]; exact hG.1.2.1
  have hp := pw_N N (by omega)
  unfold F_X5_rejoin F_X6_rejoin F_X6_joinFault
  rcases rng (x := x1) (a := 0) (b := N) (by omega) (by omega) with ⟨k, _, hk, rfl⟩ | hb
  · have hk7 : k < 7 := by omega
    rw [(nd_c h6 hN.2).1 k hk rfl, bx_l, (ndr d1 (by omega) hN.2).1 k hk rfl, bd_s, if_neg (by decide)]
    rcases rng (x := x2) (a := 1) (b := 2 ^ N) (by omega) (by omega) with ⟨r, hr1, hr2, rfl⟩ | hb
    · rw [(rc_c h6 hN.2).1 r hr1 hr2 rfl, bx_l, g7 hk7, t7 hk7, (rcr d1 hN.2).1 r hr1 hr2 rfl, bd_s, if_neg (by decide), g7 hk7]
      have q := (hJ.2.1 k hk7).1.q
      have r4 : ρ.1 4 k = σ 25 k 0 := by rw [Ur_rd (um_4 hk7), q.1]
      have r5 : ρ.1 5 k = σ 26 k 0 := by rw [Ur_rd (um_5 hk7), q.2.1]
      rw [r4, r5]
      unfold F_X3_canRejoin B_X3_canRejoin_18 B_X6_joinFault_46
      by_cases u1 : σ 25 k 0 = 0
      · rw [if_pos u1, if_pos u1, bd_s, bd_s, if_pos rfl, lt_eq, if_neg (by rw [rp_se]; decide)]
        exact sw_ex hJ hcL rfl rfl (by decide)
      · by_cases u2 : σ 26 k 0 = 0
        · obtain ⟨σ', ρ', rr, e1, e2, hX, hJ', _⟩ := join_2 (x := nI r) hk7 (by omega) (hJ.t0 (v := 0)) u2
          rw [if_neg u1, if_neg u1, if_pos u2, g7 hk7, if_pos u2, bd_s, bd_s, if_neg (by decide), g7 hk7, e1, bd_s, lt_eq, if_pos (by rw [rp_se]; decide), e2, bd_s]
          exact sw_ok (c' := c) hJ (by omega) rfl rfl (th0 hX) hJ'
        · rw [if_neg u1, if_neg u1, if_neg u2, g7 hk7, if_neg u2, bd_s, bd_s, if_pos rfl, lt_eq, if_neg (by rw [rp_se]; decide)]
          exact sw_ex hJ hcL rfl rfl (by decide)
    · rw [(rc_c h6 hN.2).2 hb, bx_r, (rcr d1 hN.2).2 hb, bd_s, if_pos rfl, bd_s, lt_eq, if_neg (by rw [rp_se]; decide)]
      exact sw_ex hJ hcL rfl rfl (by decide)
  · rw [(nd_c h6 hN.2).2 hb, bx_r, (ndr d1 (by omega) hN.2).2 hb, bd_s, if_pos rfl, bd_s, lt_eq, if_neg (by rw [rp_se]; decide)]
    exact sw_ex hJ hcL rfl rfl (by decide)
