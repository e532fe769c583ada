theorem read_r {ρ : RS} {o k M : Nat} (ho : o < 7) (hk : k < 7) (hM : Ur ρ 7 0 0 = nI M) (hM4 : M ≤ 4) : ∃ ρ', F_X6_read ρ (nI o) (nI k) = some (ρ', ()) ∧ Xr ρ' = Xr ρ ∧ (∀ f i j, ¬ ((f = 60 ∧ i = o ∧ j = 0) ∨ (f = 28 ∧ i = o ∧ j = 0) ∨ (((f = 42 ∧ i = 14) ∨ ((f = 42 ∨ f = 43) ∧ i = o)) ∧ j < M)) → Ur ρ' f i j = Ur ρ f i j) ∧ Ur ρ' 60 o 0 = imax (Ur ρ 60 o 0) (Ur ρ 60 (7 + k) 0) ∧ Ur ρ' 28 o 0 = imax (Ur ρ 28 o 0) (Ur ρ 60 (7 + k) 0) ∧ ∀ s, s < M → Ur ρ' 42 14 s = (if Ur ρ 42 (7 + k) s ≤ Ur ρ 42 14 s then Ur ρ 42 14 s else Ur ρ 42 (7 + k) s) ∧ Ur ρ' 42 o s = (if Ur ρ 42 (7 + k) s ≤ Ur ρ 42 14 s then Ur ρ 42 o s else Ur ρ 42 (7 + k) s) ∧ Ur ρ' 43 o s = (if Ur ρ 42 (7 + k) s ≤ Ur ρ 42 14 s then Ur ρ 43 o s else Ur ρ 43 (7 + k) s) := by
  have r11 : ρ.1 11 k = Ur ρ 60 (7 + k) 0 := Ur_rd (um_11 hk)
  have r8 : ρ.1 8 o = Ur ρ 60 o 0 := Ur_rd (um_8 ho)
  have h1 : F_X6_read ρ (nI o) (nI k) = B_X6_read_35 (nI o) (nI k) ρ (imax (Ur ρ 60 o 0) (Ur ρ 60 (7 + k) 0)) (nI o) := by
    unfold F_X6_read
    rw [g7 hk, g7 ho, t7 hk, t7 ho, r11, r8, ← imax_le]
    by_cases h : Ur ρ 60 (7 + k) 0 ≤ Ur ρ 60 o 0
    · rw [if_pos h, if_pos h, g7 ho]
    · rw [if_neg h, if_neg h, g7 hk]
  have hU1 : Ur (rp ρ 8 o (imax (Ur ρ 60 o 0) (Ur ρ 60 (7 + k) 0))) = pt (Ur ρ) 60 o 0 (imax (Ur ρ 60 o 0) (Ur ρ 60 (7 + k) 0)) := Ur_rp (um_8 ho)
  have hX1 : Xr (rp ρ 8 o (imax (Ur ρ 60 o 0) (Ur ρ 60 (7 + k) 0))) = Xr ρ := Xr_rp (by decide)
  have q11 : (rp ρ 8 o (imax (Ur ρ 60 o 0) (Ur ρ 60 (7 + k) 0))).1 11 k = Ur ρ 60 (7 + k) 0 := by rw [rp_n2 (by decide), r11]
  have q7 : (rp ρ 8 o (imax (Ur ρ 60 o 0) (Ur ρ 60 (7 + k) 0))).1 7 o = Ur ρ 28 o 0 := by rw [rp_n2 (by decide)]; exact Ur_rd (um_7 ho)
  rw [h1]
  unfold B_X6_read_35
  rw [g7 ho, t7 ho, lt_eq, g7 hk, t7 hk, q11, tell_r ho, bd_s, q7]
  have hU2 : Ur (rp (rp ρ 8 o (imax (Ur ρ 60 o 0) (Ur ρ 60 (7 + k) 0))) 7 o (imax (Ur ρ 28 o 0) (Ur ρ 60 (7 + k) 0))) = pt (pt (Ur ρ) 60 o 0 (imax (Ur ρ 60 o 0) (Ur ρ 60 (7 + k) 0))) 28 o 0 (imax (Ur ρ 28 o 0) (Ur ρ 60 (7 + k) 0)) := by rw [Ur_rp (um_7 ho), hU1]
  have hX2 : Xr (rp (rp ρ 8 o (imax (Ur ρ 60 o 0) (Ur ρ 60 (7 + k) 0))) 7 o (imax (Ur ρ 28 o 0) (Ur ρ 60 (7 + k) 0))) = Xr ρ := (Xr_rp (by decide)).trans hX1
  generalize rp (rp ρ 8 o (imax (Ur ρ 60 o 0) (Ur ρ 60 (7 + k) 0))) 7 o (imax (Ur ρ 28 o 0) (Ur ρ 60 (7 + k) 0)) = ρ2 at hU2 hX2 ⊢
  have b1 : ∀ f i j, f ≠ 60 → f ≠ 28 → Ur ρ2 f i j = Ur ρ f i j := fun f i j g1 g2 => by rw [hU2]; simp [pt, g1, g2]
  have b60 : Ur ρ2 60 o 0 = imax (Ur ρ 60 o 0) (Ur ρ 60 (7 + k) 0) := by rw [hU2]; simp [pt]
  have b28 : Ur ρ2 28 o 0 = imax (Ur ρ 28 o 0) (Ur ρ 60 (7 + k) 0) := by rw [hU2]; simp [pt]
  have bo : ∀ f i j, ¬ ((f = 60 ∧ i = o ∧ j = 0) ∨ (f = 28 ∧ i = o ∧ j = 0)) → Ur ρ2 f i j = Ur ρ f i j := fun f i j hq => by
    rw [hU2]; simp only [pt]; rw [if_neg (by omega), if_neg (by omega)]
  unfold B_X6_read_49
  refine lo2_it M (fun i a => Xr a = Xr ρ ∧ (∀ f i' j, ¬ ((f = 60 ∧ i' = o ∧ j = 0) ∨ (f = 28 ∧ i' = o ∧ j = 0) ∨ (((f = 42 ∧ i' = 14) ∨ ((f = 42 ∨ f = 43) ∧ i' = o)) ∧ j < i)) → Ur a f i' j = Ur ρ f i' j) ∧ Ur a 60 o 0 = imax (Ur ρ 60 o 0) (Ur ρ 60 (7 + k) 0) ∧ Ur a 28 o 0 = imax (Ur ρ 28 o 0) (Ur ρ 60 (7 + k) 0) ∧ ∀ s, s < i → Ur a 42 14 s = (if Ur ρ 42 (7 + k) s ≤ Ur ρ 42 14 s then Ur ρ 42 14 s else Ur ρ 42 (7 + k) s) ∧ Ur a 42 o s = (if Ur ρ 42 (7 + k) s ≤ Ur ρ 42 14 s then Ur ρ 42 o s else Ur ρ 42 (7 + k) s) ∧ Ur a 43 o s = (if Ur ρ 42 (7 + k) s ≤ Ur ρ 42 14 s then Ur ρ 43 o s else Ur ρ 43 (7 + k) s)) (fun r => ∃ ρ', r = some (ρ', ()) ∧ Xr ρ' = Xr ρ ∧ (∀ f i j, ¬ ((f = 60 ∧ i = o ∧ j = 0) ∨ (f = 28 ∧ i = o ∧ j = 0) ∨ (((f = 42 ∧ i = 14) ∨ ((f = 42 ∨ f = 43) ∧ i = o)) ∧ j < M)) → Ur ρ' f i j = Ur ρ f i j) ∧ Ur ρ' 60 o 0 = imax (Ur ρ 60 o 0) (Ur ρ 60 (7 + k) 0) ∧ Ur ρ' 28 o 0 = imax (Ur ρ 28 o 0) (Ur ρ 60 (7 + k) 0) ∧ ∀ s, s < M → Ur ρ' 42 14 s = (if Ur ρ 42 (7 + k) s ≤ Ur ρ 42 14 s then Ur ρ 42 14 s else Ur ρ 42 (7 + k) s) ∧ Ur ρ' 42 o s = (if Ur ρ 42 (7 + k) s ≤ Ur ρ 42 14 s then Ur ρ 42 o s else Ur ρ 42 (7 + k) s) ∧ Ur ρ' 43 o s = (if Ur ρ 42 (7 + k) s ≤ Ur ρ 42 14 s then Ur ρ 43 o s else Ur ρ 43 (7 + k) s)) ?_ ?_ M 0 4096 ρ2 (by omega) (by omega) ⟨hX2, fun f i' j hq => bo f i' j (by omega), b60, b28, fun s hs => by omega⟩
  · rintro i a hi ⟨hX, h1, h60, h28, h2⟩
    have hi4 : i < 4 := by omega
    have q1 : a.1 12 (4 * k + i) = Ur ρ 42 (7 + k) i := by rw [Ur_rd (um_12 hk hi4)]; exact h1 _ _ _ (by omega)
    have q2 : a.1 29 i = Ur ρ 42 14 i := by rw [Ur_rd (um_29 hi4)]; exact h1 _ _ _ (by omega)
    have q3 : a.1 13 (4 * k + i) = Ur ρ 43 (7 + k) i := by rw [Ur_rd (um_13 hk hi4)]; exact h1 _ _ _ (by omega)
    have qM : a.1 2 0 = nI M := by rw [Ur_rd um_2, h1 _ _ _ (by omega), hM]
    by_cases hc : Ur ρ 42 (7 + k) i ≤ Ur ρ 42 14 i
    · refine ⟨a, ⟨hX, fun f o' j hq => h1 f o' j (by omega), h60, h28, fun s hs => ?_⟩, fun K => ?_⟩
      · by_cases e : s = i
        · subst e
          rw [if_pos hc, if_pos hc, if_pos hc]
          exact ⟨h1 _ _ _ (by omega), h1 _ _ _ (by omega), h1 _ _ _ (by omega)⟩
        · exact h2 s (by omega)
      · simp only [qM, at_eq, bd_s, g28 hk hi4, g4 hi4, t28 hk hi4, t4 hi4, q1, q2, B_X6_read_128, lt_eq]
        rw [if_neg (nI_ge hi (by omega)), if_pos hc, nI_1]
    · refine ⟨rp (rp (rp a 29 i (Ur ρ 42 (7 + k) i)) 9 (4 * o + i) (Ur ρ 42 (7 + k) i)) 10 (4 * o + i) (Ur ρ 43 (7 + k) i), ⟨by rw [Xr_rp (by decide), Xr_rp (by decide), Xr_rp (by decide), hX], fun f o' j hq => ?_, ?_, ?_, fun s hs => ?_⟩, fun K => ?_⟩
      · rw [Ur_rp (um_10 ho hi4), Ur_rp (um_9 ho hi4), Ur_rp (um_29 hi4)]
        simp only [pt]
        rw [if_neg (by omega), if_neg (by omega), if_neg (by omega)]
        exact h1 f o' j (by omega)
      · rw [Ur_rp (um_10 ho hi4), Ur_rp (um_9 ho hi4), Ur_rp (um_29 hi4)]; simp [pt]; exact h60
      · rw [Ur_rp (um_10 ho hi4), Ur_rp (um_9 ho hi4), Ur_rp (um_29 hi4)]; simp [pt]; exact h28
      · have ho14 : ¬ (14 = o) := by omega
        have ho14' : ¬ (o = 14) := by omega
        rw [Ur_rp (um_10 ho hi4), Ur_rp (um_9 ho hi4), Ur_rp (um_29 hi4)]
        by_cases e : s = i
        · subst e
          rw [if_neg hc, if_neg hc, if_neg hc]
          simp [pt, ho14]
        · simp [pt, e]
          exact h2 s (by omega)
      · simp only [qM, at_eq, bd_s, g28 hk hi4, g28 ho hi4, g4 hi4, t28 hk hi4, t28 ho hi4, t4 hi4, q1, q2, B_X6_read_128, lt_eq, rp_se, rp_n2 (show (13 : Nat) ≠ 29 by decide), rp_n2 (show (13 : Nat) ≠ 9 by decide), q3]
        rw [if_neg (nI_ge hi (by omega)), if_neg hc, nI_1]
  · rintro a K ⟨hX, h1, h60, h28, h2⟩
    rw [show a.1 2 0 = nI M by rw [Ur_rd um_2, h1 _ _ _ (by omega), hM], if_pos (nI_le (Nat.le_refl M) (by omega))]
    exact ⟨a, rfl, hX, h1, h60, h28, h2⟩
theorem gclr_r {ρ : RS} {o : Nat} {x v : Int32} : ∃ ρ', B_X6_doJoin_64 (nI o) x 4096 ρ v 0 = B_X6_doJoin_87 (nI o) x 4096 ρ' v 0 ∧ Xr ρ' = Xr ρ ∧ (∀ f i j, ¬ (f = 42 ∧ i = 14 ∧ j < 4) → Ur ρ' f i j = Ur ρ f i j) ∧ ∀ s, s < 4 → Ur ρ' 42 14 s = 0 := by
  unfold B_X6_doJoin_64
  refine lo3_it 4 (fun i a u => u = v ∧ Xr a = Xr ρ ∧ (∀ f i' j, ¬ (f = 42 ∧ i' = 14 ∧ j < i) → Ur a f i' j = Ur ρ f i' j) ∧ ∀ s, s < i → Ur a 42 14 s = 0) (fun r => ∃ ρ', r = B_X6_doJoin_87 (nI o) x 4096 ρ' v 0 ∧ Xr ρ' = Xr ρ ∧ (∀ f i j, ¬ (f = 42 ∧ i = 14 ∧ j < 4) → Ur ρ' f i j = Ur ρ f i j) ∧ ∀ s, s < 4 → Ur ρ' 42 14 s = 0) ?_ ?_ 4 0 4096 ρ v (by omega) (by omega) ⟨rfl, rfl, fun _ _ _ _ => rfl, fun s hs => by omega⟩
  · rintro i a u hi ⟨rfl, hX, h1, h2⟩
    refine ⟨rp a 29 i 0, u, ⟨rfl, (Xr_rp (by decide)).trans hX, fun f i' j hq => ?_, fun s hs => ?_⟩, fun K => ?_⟩
    · rw [Ur_rp (um_29 hi)]; simp only [pt]; rw [if_neg (by omega)]; exact h1 f i' j (by omega)
    · rw [Ur_rp (um_29 hi)]
      by_cases e : s = i
      · subst e; simp [pt]
      · simp [pt, e]; exact h2 s (by omega)
    · rw [if_neg (show ¬ (4 : Int32) ≤ nI i from nI_ge hi (by decide)), g4 hi, t4 hi, lt_eq, lt_eq, nI_1]
  · rintro a u K ⟨rfl, hX, h1, h2⟩
    rw [if_pos (show (4 : Int32) ≤ nI 4 by decide)]
    exact ⟨a, rfl, hX, h1, h2⟩
