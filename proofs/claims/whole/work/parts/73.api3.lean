theorem sm_begin : Sm_begin Inv := by
  rintro n σ ρ hn ⟨c, N, M, L, hcL, hJ⟩ x1 x2
  have hG := hJ.1
  have d1 : ρ.1 1 0 = nI N := by rw [Ur_rd um_1]; exact hG.1.2.1
  have bad : ∀ r : Int32, F_X6_begin ρ x1 x2 = B_X6_begin_25 x1 x2 ρ 1 → F_X6_begin ρ x1 x2 = some (rp ρ 0 0 1, 0) := fun r h => by
    rw [h]
    unfold B_X6_begin_25
    rw [lt_eq, if_neg (by rw [rp_se]; decide)]
  rcases rng (x := x1) (a := 3) (b := 8) (by omega) (by omega) with ⟨k, hk1, hk2, rfl⟩ | hb
  · have w1 : F_X6_within ρ (nI k) 3 7 = some (ρ, 1) := (wi_r (a := 3) (b := 7) (by decide)).1 k hk1 (by omega) rfl
    rcases rng (x := x2) (a := 1) (b := 5) (by omega) (by omega) with ⟨s, hs1, hs2, rfl⟩ | hb
    · have w2 : F_X6_within ρ (nI s) 1 4 = some (ρ, 1) := (wi_r (a := 1) (b := 4) (by decide)).1 s hs1 (by omega) rfl
      obtain ⟨σ', ρ', e1, e2, hX, hJ'⟩ := beg_2 (N := k) (M := s) (hJ.t0 (v := 0)) ⟨hk1, by omega⟩ ⟨hs1, by omega⟩
      have hc : F_X5_begin σ (nI k) (nI s) = some (σ', .inl (nI N)) := by
        unfold F_X5_begin
        rw [if_neg (show ¬ nI k < (3 : Int32) from nI_nlt (b := 3) hk1 (by omega)), if_pos (show nI k ≤ (7 : Int32) from nI_le (b := 7) (by omega) (by decide)), if_neg (show ¬ nI s < (1 : Int32) from nI_nlt (b := 1) hs1 (by omega)), if_pos (show nI s ≤ (4 : Int32) from nI_le (b := 4) (by omega) (by decide)), lt_eq, lt_eq, lt_eq, e1, bd_s, hG.1.1]
      have hr : F_X6_begin ρ (nI k) (nI s) = some (ρ', nI N) := by
        unfold F_X6_begin B_X6_begin_25
        rw [w1, bd_s, if_neg (by decide), w2, bd_s, if_neg (by decide), lt_eq, if_pos (by rw [rp_se]; decide), lt_eq, e2, bd_s, rp_n2 (by decide), d1]
      exact sw_ok (c' := c) hJ (by omega) hc hr (th0 hX) hJ'
    · have w2 : F_X6_within ρ x2 1 4 = some (ρ, 0) := (wi_r (a := 1) (b := 4) (by decide)).2 (hb.imp id (lt_pred (N := 5) (by decide) (by decide)))
      have hc : F_X5_begin σ (nI k) x2 = some (σ, .inr 2) := by
        unfold F_X5_begin B_X5_begin_31
        rw [if_neg (show ¬ nI k < (3 : Int32) from nI_nlt (b := 3) hk1 (by omega)), if_pos (show nI k ≤ (7 : Int32) from nI_le (b := 7) (by omega) (by decide))]
        rcases hb with h | h
        · rw [if_pos (show x2 < (1 : Int32) from h)]
        · by_cases h0 : x2 < (1 : Int32)
          · rw [if_pos h0]
          · rw [if_neg h0, if_neg (show ¬ x2 ≤ (4 : Int32) from fun q => Int32.lt_irrefl (Int32.lt_of_lt_of_le (lt_pred (N := 5) (by decide) (by decide) h) q))]
      refine sw_ex hJ hcL hc (bad 0 ?_) (by decide)
      unfold F_X6_begin B_X6_begin_24
      rw [w1, bd_s, if_neg (by decide), w2, bd_s, if_pos rfl]
  · have w1 : F_X6_within ρ x1 3 7 = some (ρ, 0) := (wi_r (a := 3) (b := 7) (by decide)).2 (hb.imp id (lt_pred (N := 8) (by decide) (by decide)))
    have hc : F_X5_begin σ x1 x2 = some (σ, .inr 2) := by
      unfold F_X5_begin B_X5_begin_11
      rcases hb with h | h
      · rw [if_pos (show x1 < (3 : Int32) from h)]
      · by_cases h0 : x1 < (3 : Int32)
        · rw [if_pos h0]
        · rw [if_neg h0, if_neg (show ¬ x1 ≤ (7 : Int32) from fun q => Int32.lt_irrefl (Int32.lt_of_lt_of_le (lt_pred (N := 8) (by decide) (by decide) h) q))]
    refine sw_ex hJ hcL hc (bad 0 ?_) (by decide)
    unfold F_X6_begin B_X6_begin_24
    rw [w1, bd_s, if_pos rfl]
theorem GR.set {mb N M L f : Nat} {v : Int32} {σ τ : CS} (h : GR mb N M L σ τ) (hf : f = 8) (hb : isb v = true) : GR mb N M L (pt σ f 0 0 v) (pt τ f 0 0 v) := by
  subst hf
  obtain ⟨g1, g2, g3, g4, g5, g6, g7⟩ := h
  unfold GR
  simp only [pt]
  simp
  exact ⟨g1, g2, g3, hb, g5, g6, g7⟩
theorem sm_setBarriers : Sm_setBarriers Inv := by
  rintro n σ ρ hn ⟨c, N, M, L, hcL, hJ⟩ x1 hb
  have hG := hJ.1
  have d3 : (rp ρ 0 0 0).1 3 0 = σ 8 0 0 := by rw [rp_n2 (by decide), Ur_rd um_3]; exact hG.2.2.2.1.1.symm
  have hU : Ur (rp (rp ρ 0 0 0) 3 0 x1) = pt (Ur ρ) 8 0 0 x1 := by rw [Ur_rp um_3, Ur_rn (Or.inl rfl)]
  have hJ' : Jc c N M L (pt σ 8 0 0 x1) (rp (rp ρ 0 0 0) 3 0 x1) := by
    unfold Jc
    rw [hU]
    exact ⟨hG.set rfl hb, hJ.2.1.cg (fun k _ => nd_pf rfl) (fun k _ => nd_pf rfl) (fun _ => Nat.le_refl _), fun s hs => (hJ.2.2 s hs).cg (fun f a b => by simp only [pt]; rw [if_neg (by omega)]) (fun f a b => by simp only [pt]; rw [if_neg (by omega)])⟩
  have key : ∃ r, F_X5_setBarriers σ x1 = some (pt σ 8 0 0 x1, r) ∧ F_X6_setBarriers ρ x1 = some (rp (rp ρ 0 0 0) 3 0 x1, r) := by
    unfold F_X5_setBarriers F_X5_asNumber F_X6_setBarriers B_X6_setBarriers_17
    rw [lt_eq, d3]
    by_cases h : σ 8 0 0 = 0
    · exact ⟨0, by rw [if_pos h, bd_s, gd_isb hb, lt_eq], by rw [if_pos h, gd_isb hb, lt_eq]⟩
    · exact ⟨1, by rw [if_neg h, bd_s, gd_isb hb, lt_eq], by rw [if_neg h, gd_isb hb, lt_eq]⟩
  obtain ⟨r, e1, e2⟩ := key
  exact ⟨_, _, r, e1, e2, ⟨c, N, M, L, by omega, hJ'⟩, by rw [hJ'.le, hJ.le]; exact Nat.le_refl _⟩
theorem Jc.len {c N M L L' : Nat} {σ : CS} {ρ : RS} (h : Jc c N M L σ ρ) (hL : L' ≤ L) : Jc c N M L' (pt σ 5 0 0 (nI L')) (rp ρ 27 0 (nI L')) := by
  obtain ⟨⟨g1, g2, g3, g4, g5, g6, g7⟩, hJ, hD⟩ := h
  have hU : Ur (rp ρ 27 0 (nI L')) = pt (Ur ρ) 5 0 0 (nI L') := Ur_rp um_27
  unfold Jc
  rw [hU]
  refine ⟨?_, hJ.cg (fun k _ => nd_pf rfl) (fun k _ => nd_pf rfl) (fun _ => Nat.le_refl _), fun s hs => (hD s hs).cg (fun f a b => by simp only [pt]; rw [if_neg (by omega)]) (fun f a b => by simp only [pt]; rw [if_neg (by omega)])⟩
  unfold GR
  simp only [pt]
  simp
  exact ⟨g1, g2, by have := g3.2.2; omega, g4, g5, g6, fun j hj => g7 j (by omega)⟩
theorem sm_clearInput : Sm_clearInput Inv := by
  rintro n σ ρ hn ⟨c, N, M, L, hcL, hJ⟩
  have hG := hJ.1
  have d27 : (rp ρ 0 0 0).1 27 0 = σ 5 0 0 := by rw [rp_n2 (by decide), Ur_rd um_27, hG.2.2.1.2.1, hG.2.2.1.1]
  have hJ' := (hJ.t0 (v := 0)).len (Nat.zero_le L)
  refine ⟨_, _, σ 5 0 0, rfl, ?_, ⟨c, N, M, 0, by omega, hJ'⟩, ?_⟩
  · unfold F_X6_clearInput
    rw [lt_eq, d27, lt_eq, lt_eq]
    rfl
  · rw [show ln (pt σ 5 0 0 (0 : Int32)) = 0 from hJ'.le]
    exact Nat.zero_le _
