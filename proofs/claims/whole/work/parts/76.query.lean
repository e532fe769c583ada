/-! ===== the calls that only look ===== -/
theorem ne_out {x : Int32} {n : Nat} (hn : n < 2 ^ 31) (hx : x < nI 0 ∨ nI n ≤ x) : ∀ k, k < n → ¬ x = nI k := fun k hk e => by
  subst e
  rcases hx with h | h
  · exact absurd h (nI_nlt (Nat.zero_le k) (by omega))
  · exact absurd h (nI_ge hk hn)
theorem sm_count : Sm_count Inv := by
  rintro n σ ρ hn ⟨c, N, M, L, hcL, hJ⟩ x1
  have hG := hJ.1
  rcases rng (x := x1) (a := 0) (b := 12) (by omega) (by omega) with ⟨w, _, hw, rfl⟩ | hb
  · have w1 : F_X6_within ρ (nI w) 0 11 = some (ρ, 1) := (wi_r (a := 0) (b := 11) (by decide)).1 w (by omega) (by omega) rfl
    refine sw_ok (c' := c) hJ (by omega) (cnt_c hG.1.1 hG.1.2.2.2 hG.2.1.1 hG.2.1.2.2.2 hw) (ρ' := rp ρ 0 0 0) ?_ rp_se hJ.t0
    unfold F_X6_count B_X6_count_16
    rw [w1, bd_s, if_neg (by decide), lt_eq, if_pos (by rw [rp_se]; decide), cnt_r (hJ.t0 (v := 0)) hw, bd_s]
  · have w1 : F_X6_within ρ x1 0 11 = some (ρ, 0) := (wi_r (a := 0) (b := 11) (by decide)).2 (hb.imp id (lt_pred (N := 12) (by decide) (by decide)))
    refine sw_ex (cd := 1) (r := 0) hJ hcL (cnt_cx hb) ?_ (by decide)
    unfold F_X6_count B_X6_count_16
    rw [w1, bd_s, if_pos rfl, lt_eq, if_neg (by rw [rp_se]; decide)]
def qn (σ : CS) (k w : Nat) : Int32 :=
  if w = 0 then asn (σ 25 k 0) else if w = 1 then asn (σ 26 k 0) else if w = 2 then σ 27 k 0 else if w = 3 then σ 60 (7 + k) 0 else if w = 4 then σ 60 k 0 else if w = 5 then σ 83 k 0 else if w = 6 then σ 28 k 0 else if w = 7 then σ 29 k 0 else nI (nb (max (tn (σ 28 k 0)) (tn (σ 60 (7 + k) 0))) k)
theorem Jc.sn {c N M L k : Nat} {σ : CS} {ρ : RS} (hJ : Jc c N M L σ ρ) (hk : k < 7) : ∃ a p, a ≤ 8 * c + 16 ∧ p ≤ 8 * c + 16 ∧ σ 28 k 0 = nI a ∧ σ 60 (7 + k) 0 = nI p := by
  obtain ⟨z0, ⟨a1, a2, ⟨a, ha, ea⟩, a4⟩, _⟩ := (hJ.2.1 k hk).2
  obtain ⟨p, hp, ep⟩ := (hJ.2.1 k hk).2.vp
  rw [nd_a rfl] at ea
  rw [show (160 : Nat) = 100 + 60 from rfl, nd_b rfl] at ep
  exact ⟨a, p, ha, hp, ea, ep⟩
theorem node_c {c N M L k w : Nat} {σ : CS} {ρ : RS} (hJ : Jc c N M L σ ρ) (hc : c ≤ 512) (hk : k < N) (hw : w < 9) : F_X5_node σ (nI k) (nI w) = some (σ, .inl (qn σ k w)) := by
  have hG := hJ.1
  have hk7 : k < 7 := by have := hG.1.2.2.2; omega
  obtain ⟨a, p, ha, hp, ea, ep⟩ := hJ.sn hk7
  unfold F_X5_node
  rw [(nd_c hG.1.1 hG.1.2.2.2).1 k hk rfl, bx_l, g7 hk7, t7 hk7, asn_c, asn_c, next_c hk7 (by omega) (by omega) ea ep]
  have h : w = 0 ∨ w = 1 ∨ w = 2 ∨ w = 3 ∨ w = 4 ∨ w = 5 ∨ w = 6 ∨ w = 7 ∨ w = 8 := by omega
  unfold qn
  rw [ea, ep, tn_nI (show a < 2 ^ 31 by omega), tn_nI (show p < 2 ^ 31 by omega)]
  rcases h with rfl | rfl | rfl | rfl | rfl | rfl | rfl | rfl | rfl <;> rfl
theorem node_r {c N M L k w : Nat} {σ : CS} {ρ : RS} (hJ : Jc c N M L σ ρ) (hc : c ≤ 512) (hk7 : k < 7) (hw : w < 9) : F_X6_nodeNow ρ (nI k) (nI w) = some (ρ, qn σ k w) := by
  obtain ⟨a, p, ha, hp, ea, ep⟩ := hJ.sn hk7
  have q := (hJ.2.1 k hk7).1.q
  have r4 : ρ.1 4 k = σ 25 k 0 := by rw [Ur_rd (um_4 hk7), q.1]
  have r5 : ρ.1 5 k = σ 26 k 0 := by rw [Ur_rd (um_5 hk7), q.2.1]
  have r6 : ρ.1 6 k = σ 27 k 0 := by rw [Ur_rd (um_6 hk7), q.2.2.1]
  have r7 : ρ.1 7 k = σ 28 k 0 := by rw [Ur_rd (um_7 hk7), q.2.2.2.1]
  have r18 : ρ.1 18 k = σ 29 k 0 := by rw [Ur_rd (um_18 hk7), q.2.2.2.2.1 trivial]
  have r8 : ρ.1 8 k = σ 60 k 0 := by rw [Ur_rd (um_8 hk7), q.2.2.2.2.2.1]
  have r11 : ρ.1 11 k = σ 60 (7 + k) 0 := by rw [Ur_rd (um_11 hk7), q.2.2.2.2.2.2.1]
  have r14 : ρ.1 14 k = σ 83 k 0 := by rw [Ur_rd (um_14 hk7), q.2.2.2.2.2.2.2]
  have hn := next_r (ρ := ρ) hk7 (show a < 2 ^ 30 by omega) (show p < 2 ^ 30 by omega) (by rw [← q.2.2.2.1]; exact ea) (by rw [← q.2.2.2.2.2.2.1]; exact ep)
  have e0 : ∀ v : Int32, (if v = 0 then some (ρ, (0 : Int32)) else some (ρ, 1)) = some (ρ, asn v) := fun v => by
    unfold asn
    by_cases h : v = 0
    · rw [if_pos h, if_pos h]
    · rw [if_neg h, if_neg h]
  unfold F_X6_nodeNow
  rw [hn]
  simp only [g7 hk7, t7 hk7, r4, r5, r6, r7, r8, r11, r14, r18, e0]
  have h : w = 0 ∨ w = 1 ∨ w = 2 ∨ w = 3 ∨ w = 4 ∨ w = 5 ∨ w = 6 ∨ w = 7 ∨ w = 8 := by omega
  unfold qn
  rw [ea, ep, tn_nI (show a < 2 ^ 31 by omega), tn_nI (show p < 2 ^ 31 by omega)]
  rcases h with rfl | rfl | rfl | rfl | rfl | rfl | rfl | rfl | rfl <;> rfl
theorem sm_node : Sm_node Inv := by
  rintro n σ ρ hn ⟨c, N, M, L, hcL, hJ⟩ x1 x2
  have hG := hJ.1
  have h6 := hG.1.1
  have hN := hG.1.2.2
  have d1 : ρ.1 1 0 = nI N := by rw [Ur_rd um_1]; exact hG.1.2.1
  rcases rng (x := x1) (a := 0) (b := N) (by omega) (by omega) with ⟨k, _, hk, rfl⟩ | hb
  · have hk7 : k < 7 := by omega
    rcases rng (x := x2) (a := 0) (b := 9) (by omega) (by omega) with ⟨w, _, hw, rfl⟩ | hb
    · have w1 : F_X6_within ρ (nI w) 0 8 = some (ρ, 1) := (wi_r (a := 0) (b := 8) (by decide)).1 w (by omega) (by omega) rfl
      refine sw_ok (c' := c) hJ (by omega) (node_c hJ (by omega) hk hw) (ρ' := rp ρ 0 0 0) ?_ rp_se hJ.t0
      unfold F_X6_node B_X6_node_28
      rw [(ndr d1 (by omega) hN.2).1 k hk rfl, bd_s, if_neg (by decide), w1, bd_s, if_neg (by decide), lt_eq, if_pos (by rw [rp_se]; decide), node_r (hJ.t0 (v := 0)) (by omega) hk7 hw, bd_s]
    · have w1 : F_X6_within ρ x2 0 8 = some (ρ, 0) := (wi_r (a := 0) (b := 8) (by decide)).2 (hb.imp id (lt_pred (N := 9) (by decide) (by decide)))
      have hne := ne_out (by decide) hb
      have hcx : F_X5_node σ (nI k) x2 = some (σ, .inr 2) := by
        unfold F_X5_node
        rw [(nd_c h6 hN.2).1 k hk rfl, bx_l, g7 hk7, if_neg (show ¬ x2 = (0 : Int32) from hne 0 (by decide)), if_neg (show ¬ x2 = (1 : Int32) from hne 1 (by decide)), if_neg (show ¬ x2 = (2 : Int32) from hne 2 (by decide)), if_neg (show ¬ x2 = (3 : Int32) from hne 3 (by decide)), if_neg (show ¬ x2 = (4 : Int32) from hne 4 (by decide)), if_neg (show ¬ x2 = (5 : Int32) from hne 5 (by decide)), if_neg (show ¬ x2 = (6 : Int32) from hne 6 (by decide)), if_neg (show ¬ x2 = (7 : Int32) from hne 7 (by decide)), if_neg (show ¬ x2 = (8 : Int32) from hne 8 (by decide))]
      refine sw_ex (cd := 2) (r := 0) hJ hcL hcx ?_ (by decide)
      unfold F_X6_node B_X6_node_28
      rw [(ndr d1 (by omega) hN.2).1 k hk rfl, bd_s, if_neg (by decide), w1, bd_s, if_pos rfl, lt_eq, if_neg (by rw [rp_se]; decide)]
  · refine sw_ex (cd := 1) (r := 0) hJ hcL (ex := 1) ?_ ?_ (by decide)
    · unfold F_X5_node
      rw [(nd_c h6 hN.2).2 hb, bx_r]
    · unfold F_X6_node B_X6_node_28
      rw [(ndr d1 (by omega) hN.2).2 hb, bd_s, if_pos rfl, lt_eq, if_neg (by rw [rp_se]; decide)]
