/-! ===== the reference's rows of one node, continued ===== -/
theorem imax_le (a b : Int32) : (if b ≤ a then a else b) = imax a b := by
  unfold imax
  by_cases h : b ≤ a
  · rw [if_pos h, if_neg (fun q => Int32.lt_irrefl (Int32.lt_of_lt_of_le q h))]
  · rw [if_neg h, if_pos (Int32.not_le.mp h)]
theorem wr_r {ρ : RS} {k z : Nat} {x b v : Int32} (hk : k < 7) (hz : Ur ρ 83 k 0 = nI z) (hz2 : z < 2047) (hx : x = -1 ∨ ∃ s, s < 4 ∧ x = nI s) : ∃ ρ', F_X6_write ρ (nI k) x b v = some (ρ', ()) ∧ Xr ρ' = Xr ρ ∧ Fr k (Ur ρ) (Ur ρ') ∧ WrN (nd (Ur ρ) k) z x b v (nd (Ur ρ') k) := by
  have r83 : ρ.1 14 k = nI z := by rw [Ur_rd (um_14 hk), hz]
  have hz3 : z < 2048 := by omega
  have e1 : (rp (rp (rp ρ 15 (2048 * k + z) x) 16 (2048 * k + z) b) 17 (2048 * k + z) v).1 14 k = nI z := by simp only [rp_n2 (show (14 : Nat) ≠ 17 by decide), rp_n2 (show (14 : Nat) ≠ 16 by decide), rp_n2 (show (14 : Nat) ≠ 15 by decide), r83]
  unfold F_X6_write
  simp only [t7 hk, m2048, r83, nI_add, g7 hk, gw hk hz3, tw hk hz3, lt_eq, e1, nI_1]
  have hU : Ur (rp (rp (rp (rp (rp ρ 15 (2048 * k + z) x) 16 (2048 * k + z) b) 17 (2048 * k + z) v) 14 k (nI (z + 1))) 11 k b) = pt (pt (pt (pt (pt (Ur ρ) 44 k z x) 45 k z b) 46 k z v) 83 k 0 (nI (z + 1))) 60 (7 + k) 0 b := by
    rw [Ur_rp (um_11 hk), Ur_rp (um_14 hk), Ur_rp (um_17 hk hz3), Ur_rp (um_16 hk hz3), Ur_rp (um_15 hk hz3)]
  have hX : Xr (rp (rp (rp (rp (rp ρ 15 (2048 * k + z) x) 16 (2048 * k + z) b) 17 (2048 * k + z) v) 14 k (nI (z + 1))) 11 k b) = Xr ρ := by
    rw [Xr_rp (by decide), Xr_rp (by decide), Xr_rp (by decide), Xr_rp (by decide), Xr_rp (by decide)]
  have hFr : Fr k (Ur ρ) (pt (pt (pt (pt (pt (Ur ρ) 44 k z x) 45 k z b) 46 k z v) 83 k 0 (nI (z + 1))) 60 (7 + k) 0 b) := Fr.tr (Fr.pa rfl) (Fr.tr (Fr.pa rfl) (Fr.tr (Fr.pa rfl) (Fr.tr (Fr.pa rfl) (Fr.pb rfl))))
  generalize rp (rp (rp (rp (rp ρ 15 (2048 * k + z) x) 16 (2048 * k + z) b) 17 (2048 * k + z) v) 14 k (nI (z + 1))) 11 k b = a at hU hX ⊢
  rcases hx with rfl | ⟨s, hs, rfl⟩
  · rw [if_pos rfl]
    refine ⟨a, rfl, hX, by rw [hU]; exact hFr, ?_⟩
    rw [hU, nd_pb rfl, nd_pa rfl, nd_pa rfl, nd_pa rfl, nd_pa rfl]
    refine ⟨fun j hj => ?_, ?_, ?_, ?_, ?_, ?_, fun s hs => ?_, fun f j g1 g2 g3 g4 g5 => ?_⟩
    · have : ¬ j = z := by omega
      simp [nu, this]
    · simp [nu]
    · simp [nu]
    · simp [nu]
    · simp [nu]
    · simp [nu]
    · have hne : ¬ ((-1 : Int32) = nI s) := fun q => nI_m1 (by omega) q.symm
      simp [nu, hne]
    · have q1 : ¬ f = 44 := by omega
      have q2 : ¬ f = 45 := by omega
      have q3 : ¬ f = 46 := by omega
      simp [nu, q1, q2, q3, g2, g3]
  · have hne : ¬ nI s = -1 := nI_m1 (by omega)
    rw [if_neg hne]
    simp only [at_eq, bd_s, g28 hk hs, t28 hk hs, lt_eq]
    have hU2 : Ur (rp (rp a 12 (4 * k + s) b) 13 (4 * k + s) v) = pt (pt (Ur a) 42 (7 + k) s b) 43 (7 + k) s v := by rw [Ur_rp (um_13 hk hs), Ur_rp (um_12 hk hs)]
    refine ⟨_, rfl, by rw [Xr_rp (by decide), Xr_rp (by decide), hX], ?_, ?_⟩
    · rw [hU2, hU]
      exact Fr.tr hFr (Fr.tr (Fr.pb rfl) (Fr.pb rfl))
    · rw [hU2, hU, nd_pb rfl, nd_pb rfl, nd_pb rfl, nd_pa rfl, nd_pa rfl, nd_pa rfl, nd_pa rfl]
      refine ⟨fun j hj => ?_, ?_, ?_, ?_, ?_, ?_, fun s' hs' => ?_, fun f j g1 g2 g3 g4 g5 => ?_⟩
      · have : ¬ j = z := by omega
        simp [nu, this]
      · simp [nu]
      · simp [nu]
      · simp [nu]
      · simp [nu]
      · simp [nu]
      · by_cases hss : s' = s
        · subst hss
          simp [nu]
        · have hne : ¬ (nI s = nI s') := fun q => hss (nI_inj (by omega) (by omega) q).symm
          simp [nu, hne, hss]
      · have q1 : ¬ f = 44 := by omega
        have q2 : ¬ f = 45 := by omega
        have q3 : ¬ f = 46 := by omega
        simp [nu, q1, q2, q3, g2, g3, g4, g5]
theorem tell_r {ρ : RS} {k : Nat} {b : Int32} (hk : k < 7) : F_X6_tell ρ (nI k) b = some (rp ρ 7 k (imax (ρ.1 7 k) b), ()) := by
  unfold F_X6_tell
  simp only [t7 hk, g7 hk, B_X6_tell_25, lt_eq]
  rw [← imax_le]
  by_cases h : b ≤ ρ.1 7 k
  · rw [if_pos h, if_pos h]
  · rw [if_neg h, if_neg h]
/-- the view as the disk is -/
theorem show_r {ρ : RS} {k : Nat} (hk : k < 7) : ∃ ρ', F_X6_showDisk ρ (nI k) = some (ρ', ()) ∧ Xr ρ' = Xr ρ ∧ Fr k (Ur ρ) (Ur ρ') ∧ nd (Ur ρ') k 160 0 = nd (Ur ρ) k 60 0 ∧ (∀ s, s < 4 → nd (Ur ρ') k 142 s = nd (Ur ρ) k 42 s ∧ nd (Ur ρ') k 143 s = nd (Ur ρ) k 43 s) ∧ ∀ f j, f ≠ 160 → f ≠ 142 → f ≠ 143 → nd (Ur ρ') k f j = nd (Ur ρ) k f j := by
  unfold F_X6_showDisk B_X6_showDisk_14
  rw [g7 hk, g7 hk, lt_eq, t7 hk]
  have hU0 : Ur (rp ρ 11 k (ρ.1 8 k)) = pt (Ur ρ) 60 (7 + k) 0 (Ur ρ 60 k 0) := by rw [Ur_rp (um_11 hk), Ur_rd (um_8 hk)]
  refine lo2_it 4 (fun i a => Xr a = Xr ρ ∧ Fr k (Ur ρ) (Ur a) ∧ nd (Ur a) k 160 0 = nd (Ur ρ) k 60 0 ∧ (∀ s, s < i → nd (Ur a) k 142 s = nd (Ur ρ) k 42 s ∧ nd (Ur a) k 143 s = nd (Ur ρ) k 43 s) ∧ ∀ f j, f ≠ 160 → f ≠ 142 → f ≠ 143 → nd (Ur a) k f j = nd (Ur ρ) k f j) (fun r => ∃ ρ', r = some (ρ', ()) ∧ Xr ρ' = Xr ρ ∧ Fr k (Ur ρ) (Ur ρ') ∧ nd (Ur ρ') k 160 0 = nd (Ur ρ) k 60 0 ∧ (∀ s, s < 4 → nd (Ur ρ') k 142 s = nd (Ur ρ) k 42 s ∧ nd (Ur ρ') k 143 s = nd (Ur ρ) k 43 s) ∧ ∀ f j, f ≠ 160 → f ≠ 142 → f ≠ 143 → nd (Ur ρ') k f j = nd (Ur ρ) k f j) ?_ ?_ 4 0 4096 _ (by omega) (by omega) ⟨Xr_rp (a := 11) (by decide), by rw [hU0]; exact Fr.pb rfl, ?_, fun s hs => by omega, fun f j g1 g2 g3 => ?_⟩
  · rintro i a hi ⟨hX, hF, h1, h2, h3⟩
    refine ⟨rp (rp a 12 (4 * k + i) (a.1 9 (4 * k + i))) 13 (4 * k + i) (a.1 10 (4 * k + i)), ⟨by rw [Xr_rp (by decide), Xr_rp (by decide), hX], ?_, ?_, fun s hs => ?_, fun f j g1 g2 g3 => ?_⟩, fun K => ?_⟩
    · rw [Ur_rp (um_13 hk hi), Ur_rp (um_12 hk hi)]
      exact Fr.tr hF (Fr.tr (Fr.pb rfl) (Fr.pb rfl))
    · rw [Ur_rp (um_13 hk hi), Ur_rp (um_12 hk hi), nd_pb rfl, nd_pb rfl]
      simp [nu]
      exact h1
    · rw [Ur_rp (um_13 hk hi), Ur_rp (um_12 hk hi), nd_pb rfl, nd_pb rfl, Ur_rd (um_9 hk hi), Ur_rd (um_10 hk hi)]
      have e9 : Ur a 42 k i = nd (Ur ρ) k 42 i := by rw [← nd_a (σ := Ur a) (f := 42) rfl]; exact h3 _ _ (by decide) (by decide) (by decide)
      have e10 : Ur a 43 k i = nd (Ur ρ) k 43 i := by rw [← nd_a (σ := Ur a) (f := 43) rfl]; exact h3 _ _ (by decide) (by decide) (by decide)
      by_cases hsi : s = i
      · subst hsi
        simp [nu, e9, e10]
      · simp [nu, hsi]
        exact h2 s (by omega)
    · rw [Ur_rp (um_13 hk hi), Ur_rp (um_12 hk hi), nd_pb rfl, nd_pb rfl]
      simp [nu, g2, g3]
      exact h3 f j g1 g2 g3
    · rw [if_neg (show ¬ (4 : Int32) ≤ nI i from nI_ge hi (by decide))]
      simp only [at_eq, bd_s, g28 hk hi, t28 hk hi, lt_eq, nI_1, rp_n2 (show (10 : Nat) ≠ 12 by decide)]
  · rintro a K ⟨hX, hF, h1, h2, h3⟩
    rw [if_pos (show (4 : Int32) ≤ nI 4 by decide)]
    exact ⟨a, rfl, hX, hF, h1, h2, h3⟩
  · rw [hU0, nd_pb rfl]
    simp [nu]
    rw [nd_a rfl]
  · rw [hU0, nd_pb rfl]
    simp [nu, g1]
theorem wipe_r {ρ : RS} {k : Nat} (hk : k < 7) : ∃ ρ', F_X6_wipeDisk ρ (nI k) = some (ρ', ()) ∧ Xr ρ' = Xr ρ ∧ Fr k (Ur ρ) (Ur ρ') ∧ nd (Ur ρ') k 160 0 = 0 ∧ nd (Ur ρ') k 60 0 = 0 ∧ (∀ s, s < 4 → nd (Ur ρ') k 42 s = 0 ∧ nd (Ur ρ') k 43 s = -1 ∧ nd (Ur ρ') k 142 s = 0 ∧ nd (Ur ρ') k 143 s = -1) ∧ ∀ f j, f ≠ 160 → f ≠ 142 → f ≠ 143 → f ≠ 60 → f ≠ 42 → f ≠ 43 → nd (Ur ρ') k f j = nd (Ur ρ) k f j := by
  unfold F_X6_wipeDisk B_X6_wipeDisk_9
  rw [g7 hk, lt_eq, t7 hk]
  have hU0 : Ur (rp ρ 8 k 0) = pt (Ur ρ) 60 k 0 0 := by rw [Ur_rp (um_8 hk)]
  refine lo2_it 4 (fun i a => Xr a = Xr ρ ∧ Fr k (Ur ρ) (Ur a) ∧ nd (Ur a) k 60 0 = 0 ∧ (∀ s, s < i → nd (Ur a) k 42 s = 0 ∧ nd (Ur a) k 43 s = -1) ∧ ∀ f j, f ≠ 60 → f ≠ 42 → f ≠ 43 → nd (Ur a) k f j = nd (Ur ρ) k f j) (fun r => ∃ ρ', r = some (ρ', ()) ∧ Xr ρ' = Xr ρ ∧ Fr k (Ur ρ) (Ur ρ') ∧ nd (Ur ρ') k 160 0 = 0 ∧ nd (Ur ρ') k 60 0 = 0 ∧ (∀ s, s < 4 → nd (Ur ρ') k 42 s = 0 ∧ nd (Ur ρ') k 43 s = -1 ∧ nd (Ur ρ') k 142 s = 0 ∧ nd (Ur ρ') k 143 s = -1) ∧ ∀ f j, f ≠ 160 → f ≠ 142 → f ≠ 143 → f ≠ 60 → f ≠ 42 → f ≠ 43 → nd (Ur ρ') k f j = nd (Ur ρ) k f j) ?_ ?_ 4 0 4096 _ (by omega) (by omega) ⟨Xr_rp (a := 8) (by decide), by rw [hU0]; exact Fr.pa rfl, ?_, fun s hs => by omega, fun f j g1 g2 g3 => ?_⟩
  · rintro i a hi ⟨hX, hF, h1, h2, h3⟩
    refine ⟨rp (rp a 9 (4 * k + i) 0) 10 (4 * k + i) (-1), ⟨by rw [Xr_rp (by decide), Xr_rp (by decide), hX], ?_, ?_, fun s hs => ?_, fun f j g1 g2 g3 => ?_⟩, fun K => ?_⟩
    · rw [Ur_rp (um_10 hk hi), Ur_rp (um_9 hk hi)]
      exact Fr.tr hF (Fr.tr (Fr.pa rfl) (Fr.pa rfl))
    · rw [Ur_rp (um_10 hk hi), Ur_rp (um_9 hk hi), nd_pa rfl, nd_pa rfl]
      simp [nu]
      exact h1
    · rw [Ur_rp (um_10 hk hi), Ur_rp (um_9 hk hi), nd_pa rfl, nd_pa rfl]
      by_cases hsi : s = i
      · subst hsi
        simp [nu]
      · simp [nu, hsi]
        exact h2 s (by omega)
    · rw [Ur_rp (um_10 hk hi), Ur_rp (um_9 hk hi), nd_pa rfl, nd_pa rfl]
      simp [nu, g2, g3]
      exact h3 f j g1 g2 g3
    · rw [if_neg (show ¬ (4 : Int32) ≤ nI i from nI_ge hi (by decide))]
      simp only [at_eq, bd_s, g28 hk hi, t28 hk hi, lt_eq, nI_1]
  · rintro a K ⟨hX, hF, h1, h2, h3⟩
    rw [if_pos (show (4 : Int32) ≤ nI 4 by decide)]
    obtain ⟨ρ', e, sX, sF, s1, s2, s3⟩ := show_r (ρ := a) hk
    rw [e, bd_s]
    refine ⟨ρ', rfl, sX.trans hX, Fr.tr hF sF, by rw [s1]; exact h1, by rw [s3 _ _ (by decide) (by decide) (by decide)]; exact h1, fun s hs => ?_, fun f j g1 g2 g3 g4 g5 g6 => by rw [s3 f j g1 g2 g3]; exact h3 f j g4 g5 g6⟩
    rw [s3 _ _ (by decide) (by decide) (by decide), s3 _ _ (by decide) (by decide) (by decide), (s2 s hs).1, (s2 s hs).2]
    exact ⟨(h2 s hs).1, (h2 s hs).2, (h2 s hs).1, (h2 s hs).2⟩
  · rw [hU0, nd_pa rfl]
    simp [nu]
  · rw [hU0, nd_pa rfl]
    simp [nu, g1]
