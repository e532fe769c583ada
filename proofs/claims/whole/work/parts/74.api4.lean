theorem sm_append : Sm_append Inv := by
  rintro n σ ρ hn ⟨c, N, M, L, hcL, hJ⟩ x1
  obtain ⟨⟨g1, g2, g3, g4, g5, g6, g7⟩, hJn, hD⟩ := id hJ
  have d27 : ρ.1 27 0 = nI L := by rw [Ur_rd um_27]; exact g3.2.1
  have bad : ∀ cd : Int32, ¬ cd ≤ 0 → B_X6_append_30 x1 ρ cd = some (rp ρ 0 0 cd, 0) := fun cd hcd => by
    unfold B_X6_append_30
    rw [lt_eq, if_neg (by rw [rp_se]; exact hcd)]
  rcases rng (x := x1) (a := 32) (b := 127) (by omega) (by omega) with ⟨k, hk1, hk2, rfl⟩ | hb
  · have w1 : F_X6_within ρ (nI k) 32 126 = some (ρ, 1) := (wi_r (a := 32) (b := 126) (by decide)).1 k hk1 (by omega) rfl
    unfold F_X5_append F_X6_append
    rw [if_neg (show ¬ nI k < (32 : Int32) from nI_nlt (b := 32) hk1 (by omega)), if_pos (show nI k ≤ (126 : Int32) from nI_le (b := 126) (by omega) (by decide)), w1, bd_s, if_neg (show ¬ (1 : Int32) = 0 by decide), g3.1, d27]
    by_cases h60 : L < 60
    · have hne : ¬ nI L = (60 : Int32) := fun q => by
        have := nI_inj (a := L) (b := 60) (by omega) (by decide) q
        omega
      rw [if_pos (show nI L < (60 : Int32) from nI_lt (b := 60) h60 (by decide)), gd_inb h60 (by decide), lt_eq, lt_eq, if_neg hne]
      have e5 : pt σ 40 0 (tn (nI L)) (nI k) 5 0 0 = nI L := by simp [pt]; exact g3.1
      have hm : B_X6_append_30 (nI k) ρ 0 = some (rp (rp (rp ρ 0 0 0) 28 L (nI k)) 27 0 (nI (L + 1)), nI (L + 1)) := by
        unfold B_X6_append_30
        rw [lt_eq, if_pos (by rw [rp_se]; decide), rp_n2 (show (27 : Nat) ≠ 0 by decide), d27, gd_inb h60 (by decide), lt_eq, tn_nI (by omega), lt_eq, rp_n2 (show (27 : Nat) ≠ 28 by decide), rp_n2 (show (27 : Nat) ≠ 0 by decide), d27, nI_1, rp_se]
      rw [e5, nI_1, hm, tn_nI (show L < 2 ^ 31 by omega)]
      have hU : Ur (rp (rp (rp ρ 0 0 0) 28 L (nI k)) 27 0 (nI (L + 1))) = pt (pt (Ur ρ) 40 0 L (nI k)) 5 0 0 (nI (L + 1)) := by rw [Ur_rp um_27, Ur_rp (um_28 h60), Ur_rn (Or.inl rfl)]
      have hJ' : Jc c N M (L + 1) (pt (pt σ 40 0 L (nI k)) 5 0 0 (nI (L + 1))) (rp (rp (rp ρ 0 0 0) 28 L (nI k)) 27 0 (nI (L + 1))) := by
        unfold Jc
        rw [hU]
        refine ⟨⟨?_, ?_, ?_, ?_, ?_, ?_, fun j hj => ?_⟩, hJn.cg (fun k _ => by rw [nd_pf rfl, nd_pf rfl]) (fun k _ => by rw [nd_pf rfl, nd_pf rfl]) (fun _ => Nat.le_refl _), fun s hs => (hD s hs).cg (fun f a b => by simp only [pt]; rw [if_neg (by omega), if_neg (by omega)]) (fun f a b => by simp only [pt]; rw [if_neg (by omega), if_neg (by omega)])⟩
        · simpa [pt] using g1
        · simpa [pt] using g2
        · simp [pt]; omega
        · simpa [pt] using g4
        · simpa [pt] using g5
        · simpa [pt] using g6
        · by_cases e : j = L
          · subst e
            exact ⟨k, hk1, by omega, by simp [pt], by simp [pt]⟩
          · obtain ⟨b, h1, h2, h3, h4⟩ := g7 j (by omega)
            exact ⟨b, h1, h2, by simp [pt, e]; exact h3, by simp [pt, e]; exact h4⟩
      have e6 : pt (pt σ 40 0 L (nI k)) 5 0 0 (nI (L + 1)) 5 0 0 = nI (L + 1) := by simp [pt]
      rw [e6]
      refine Or.inl ⟨_, _, _, rfl, rfl, ?_, ⟨c, N, M, L + 1, by omega, hJ'⟩, by rw [hJ'.le, hJ.le]; exact Nat.le_refl _⟩
      rw [rp_n2 (by decide), rp_n2 (by decide), rp_se]
    · have e : L = 60 := by have := g3.2.2; omega
      subst e
      rw [if_neg (show ¬ nI 60 < (60 : Int32) by decide), if_pos (show nI 60 = (60 : Int32) by decide), bad 2 (by decide)]
      exact sw_ex hJ hcL rfl rfl (by decide)
  · have w1 : F_X6_within ρ x1 32 126 = some (ρ, 0) := (wi_r (a := 32) (b := 126) (by decide)).2 (hb.imp id (lt_pred (N := 127) (by decide) (by decide)))
    have hc : F_X5_append σ x1 = some (σ, .inr 2) := by
      unfold F_X5_append B_X5_append_12
      rcases hb with h | h
      · rw [if_pos (show x1 < (32 : Int32) from h)]
      · by_cases h0 : x1 < (32 : Int32)
        · rw [if_pos h0]
        · rw [if_neg h0, if_neg (show ¬ x1 ≤ (126 : Int32) from fun q => Int32.lt_irrefl (Int32.lt_of_lt_of_le (lt_pred (N := 127) (by decide) (by decide) h) q))]
    refine sw_ex (cd := 1) (r := 0) hJ hcL hc ?_ (by decide)
    unfold F_X6_append
    rw [w1, bd_s, if_pos rfl, bad 1 (by decide)]
