theorem fresh_r {ρ : RS} {x1 x2 : Int32} : ∃ ρ', F_X6_fresh ρ x1 x2 = some (ρ', ()) ∧ Xr ρ' = Xr ρ ∧ Ur ρ' 6 0 0 = x1 ∧ Ur ρ' 7 0 0 = x2 ∧ (∀ k, k < 7 → RsM (nd (Ur ρ') k)) ∧ (∀ s, s < 4 → Ur ρ' 50 s 0 = -1 ∧ Ur ρ' 51 s 0 = -1 ∧ Ur ρ' 52 s 0 = 0 ∧ Ur ρ' 53 s 0 = 0) ∧ Ur ρ' 9 0 0 = 0 ∧ Ur ρ' 10 0 0 = 0 ∧ Ur ρ' 11 0 0 = 0 ∧ ∀ f j, f = 5 ∨ f = 8 ∨ f = 40 → Ur ρ' f 0 j = Ur ρ f 0 j := by
  unfold F_X6_fresh
  rw [lt_eq, lt_eq]
  have hU0 : Ur (rp (rp ρ 1 0 x1) 2 0 x2) = pt (pt (Ur ρ) 6 0 0 x1) 7 0 0 x2 := by rw [Ur_rp um_2, Ur_rp um_1]
  have hX0 : Xr (rp (rp ρ 1 0 x1) 2 0 x2) = Xr ρ := by rw [Xr_rp (by decide), Xr_rp (by decide)]
  have g6 : Ur (rp (rp ρ 1 0 x1) 2 0 x2) 6 0 0 = x1 := by rw [hU0]; simp [pt]
  have g7' : Ur (rp (rp ρ 1 0 x1) 2 0 x2) 7 0 0 = x2 := by rw [hU0]; simp [pt]
  have go : ∀ f j, f = 5 ∨ f = 8 ∨ f = 40 → Ur (rp (rp ρ 1 0 x1) 2 0 x2) f 0 j = Ur ρ f 0 j := fun f j hf => by
    rw [hU0]; simp only [pt]; rw [if_neg (by omega), if_neg (by omega)]
  generalize rp (rp ρ 1 0 x1) 2 0 x2 = ρ0 at hU0 hX0 g6 g7' go ⊢
  unfold B_X6_fresh_12
  refine lo2_it 7 (fun i a => Xr a = Xr ρ ∧ (∀ k, k < i → RsM (nd (Ur a) k)) ∧ ∀ f o j, nc f = false → Ur a f o j = Ur ρ0 f o j) (fun r => ∃ ρ', r = some (ρ', ()) ∧ Xr ρ' = Xr ρ ∧ Ur ρ' 6 0 0 = x1 ∧ Ur ρ' 7 0 0 = x2 ∧ (∀ k, k < 7 → RsM (nd (Ur ρ') k)) ∧ (∀ s, s < 4 → Ur ρ' 50 s 0 = -1 ∧ Ur ρ' 51 s 0 = -1 ∧ Ur ρ' 52 s 0 = 0 ∧ Ur ρ' 53 s 0 = 0) ∧ Ur ρ' 9 0 0 = 0 ∧ Ur ρ' 10 0 0 = 0 ∧ Ur ρ' 11 0 0 = 0 ∧ ∀ f j, f = 5 ∨ f = 8 ∨ f = 40 → Ur ρ' f 0 j = Ur ρ f 0 j) ?_ ?_ 7 0 4096 ρ0 (by omega) (by omega) ⟨hX0, fun k hk => by omega, fun _ _ _ _ => rfl⟩
  · rintro i a hi ⟨hX, h1, h2⟩
    have hU : Ur (rp (rp (rp (rp (rp (rp a 4 i 1) 5 i 1) 6 i 0) 7 i 0) 14 i 0) 18 i (-1)) = pt (pt (pt (pt (pt (pt (Ur a) 25 i 0 1) 26 i 0 1) 27 i 0 0) 28 i 0 0) 83 i 0 0) 29 i 0 (-1) := by rw [Ur_rp (um_18 hi), Ur_rp (um_14 hi), Ur_rp (um_7 hi), Ur_rp (um_6 hi), Ur_rp (um_5 hi), Ur_rp (um_4 hi)]
    have hX6 : Xr (rp (rp (rp (rp (rp (rp a 4 i 1) 5 i 1) 6 i 0) 7 i 0) 14 i 0) 18 i (-1)) = Xr ρ := by rw [Xr_rp (by decide), Xr_rp (by decide), Xr_rp (by decide), Xr_rp (by decide), Xr_rp (by decide), Xr_rp (by decide), hX]
    have fU : Fr i (Ur a) (Ur (rp (rp (rp (rp (rp (rp a 4 i 1) 5 i 1) 6 i 0) 7 i 0) 14 i 0) 18 i (-1))) := by rw [hU]; exact Fr.tr (Fr.pa rfl) (Fr.tr (Fr.pa rfl) (Fr.tr (Fr.pa rfl) (Fr.tr (Fr.pa rfl) (Fr.tr (Fr.pa rfl) (Fr.pa rfl)))))
    obtain ⟨a', e1, hX', f1, w1, w2, w3, w4⟩ := wipe_r (ρ := rp (rp (rp (rp (rp (rp a 4 i 1) 5 i 1) 6 i 0) 7 i 0) 14 i 0) 18 i (-1)) hi
    refine ⟨a', ⟨hX'.trans hX6, fun k hk => ?_, fun f o j hf => by rw [f1.o hf, fU.o hf]; exact h2 f o j hf⟩, fun K => ?_⟩
    · by_cases e : k = i
      · subst e
        refine ⟨?_, ?_, ?_, ?_, ?_, ?_, w2, w1, w3⟩
        · rw [w4 _ _ (by decide) (by decide) (by decide) (by decide) (by decide) (by decide), hU, nd_a rfl]; simp [pt]
        · rw [w4 _ _ (by decide) (by decide) (by decide) (by decide) (by decide) (by decide), hU, nd_a rfl]; simp [pt]
        · rw [w4 _ _ (by decide) (by decide) (by decide) (by decide) (by decide) (by decide), hU, nd_a rfl]; simp [pt]
        · rw [w4 _ _ (by decide) (by decide) (by decide) (by decide) (by decide) (by decide), hU, nd_a rfl]; simp [pt]
        · rw [w4 _ _ (by decide) (by decide) (by decide) (by decide) (by decide) (by decide), hU, nd_a rfl]; simp [pt]
        · rw [w4 _ _ (by decide) (by decide) (by decide) (by decide) (by decide) (by decide), hU, nd_a rfl]; simp [pt]
      · rw [f1.node (by omega) hi e, fU.node (by omega) hi e]
        exact h1 k (by omega)
    · rw [if_neg (show ¬ (7 : Int32) ≤ nI i from nI_ge hi (by decide)), g7 hi, t7 hi, lt_eq, g7 hi, lt_eq, g7 hi, lt_eq, g7 hi, lt_eq, g7 hi, lt_eq, g7 hi, lt_eq, e1, bd_s, lt_eq, nI_1]
  · rintro a K ⟨hX, h1, h2⟩
    rw [if_pos (show (7 : Int32) ≤ nI 7 by decide)]
    obtain ⟨ρ', e1, hX', d1, d2, d3, d4, d5⟩ := dr_r (ρ := a) (x1 := x1) (x2 := x2)
    refine ⟨ρ', e1, hX'.trans hX, ?_, ?_, fun k hk => ?_, d1, d2, d3, d4, fun f j hf => ?_⟩
    · rw [d5 _ _ _ (by omega), h2 _ _ _ rfl]; exact g6
    · rw [d5 _ _ _ (by omega), h2 _ _ _ rfl]; exact g7'
    · have : nd (Ur ρ') k = nd (Ur a) k := nd_ext (fun f j hf => d5 f k j (fun q => by simp only [nc, decide_eq_true_eq] at hf; omega)) (fun f j hf => d5 f (7 + k) j (fun q => by simp only [nc, decide_eq_true_eq] at hf; omega))
      rw [this]
      exact h1 k hk
    · rw [d5 _ _ _ (by omega), h2 f 0 j (by simp only [nc, decide_eq_false_iff_not]; omega)]
      exact go f j hf
/-- both begin anew with N nodes and M slots -/
theorem beg_2 {c N0 M0 L N M : Nat} {σ : CS} {ρ : RS} (h : Jc c N0 M0 L σ ρ) (hN : 3 ≤ N ∧ N ≤ 7) (hM : 1 ≤ M ∧ M ≤ 4) : ∃ σ' ρ', F_X5_forgetAll (pt (pt σ 6 0 0 (nI N)) 7 0 0 (nI M)) = some (σ', ()) ∧ F_X6_fresh ρ (nI N) (nI M) = some (ρ', ()) ∧ Xr ρ' = Xr ρ ∧ Jc c N M L σ' ρ' := by
  obtain ⟨hG, hJ, hD⟩ := h
  obtain ⟨σ', e1, n1, d1, c9, c10, c11, k1⟩ := fg_c (σ := pt (pt σ 6 0 0 (nI N)) 7 0 0 (nI M))
  obtain ⟨ρ', e2, hX, r6, r7, n2, d2, s9, s10, s11, k2⟩ := fresh_r (ρ := ρ) (x1 := nI N) (x2 := nI M)
  have p6 : σ' 6 0 0 = nI N := by rw [k1 _ _ (by omega)]; simp [pt]
  have p7 : σ' 7 0 0 = nI M := by rw [k1 _ _ (by omega)]; simp [pt]
  have ko : ∀ f j, f = 5 ∨ f = 8 ∨ f = 40 → σ' f 0 j = σ f 0 j := fun f j hf => by
    rw [k1 _ _ (by omega)]; simp only [pt]; rw [if_neg (by omega), if_neg (by omega)]
  obtain ⟨g1, g2, g3, g4, g5, g6, g7⟩ := hG
  refine ⟨σ', ρ', e1, e2, hX, ⟨⟨⟨p6, r6, hN.1, hN.2⟩, ⟨p7, r7, hM.1, hM.2⟩, ?_, ?_, by rw [c11, s11], ⟨0, 0, Nat.le_refl _, Nat.zero_le _, c9, c10, s9, s10⟩, fun j hj => ?_⟩, fun k hk => ?_, fun s hs => ?_⟩⟩
  · rw [ko 5 0 (by omega), k2 5 0 (by omega)]; exact g3
  · rw [ko 8 0 (by omega), k2 8 0 (by omega)]; exact g4
  · rw [ko 40 j (by omega), k2 40 j (by omega)]; exact g7 j hj
  · refine rs_nr (n1 k hk).1 (n2 k hk) ?_
    obtain ⟨z, C, _, _, q3, _, q5, q6, q7, _⟩ := (hJ k hk).2.wf g2.2.2.2
    have hs : ∀ f, 47 ≤ f → f ≤ 49 → nd σ' k f 0 = nd σ k f 0 := fun f h1 h2 => by
      rw [(n1 k hk).2 f h1 h2, nd_pf rfl, nd_pf rfl]
    exact ⟨C, q3, by rw [hs 47 (by omega) (by omega)]; exact q5, by rw [hs 48 (by omega) (by omega)]; exact q6, by rw [hs 49 (by omega) (by omega)]; exact q7⟩
  · obtain ⟨y1, y2, y3, y4⟩ := d1 s hs
    obtain ⟨u1, u2, u3, u4⟩ := d2 s hs
    exact ⟨by rw [y1, u1], by rw [y2, u2], by rw [y4, u4], by rw [y4]; rfl, 0, Nat.zero_le _, y3, u3⟩
/-- the first states -/
theorem ini_2 : ∃ ρ1, F_X6_fresh ri0 3 1 = some (ρ1, ()) ∧ Jc 0 3 1 0 sg0 ρ1 := by
  obtain ⟨ρ', e2, hX, r6, r7, n2, d2, s9, s10, s11, k2⟩ := fresh_r (ρ := ri0) (x1 := 3) (x2 := 1)
  refine ⟨ρ', e2, ⟨⟨rfl, r6, by omega, by omega⟩, ⟨rfl, r7, by omega, by omega⟩, ⟨rfl, by rw [k2 5 0 (by omega)]; rfl, by omega⟩, ⟨by rw [k2 8 0 (by omega)]; rfl, rfl⟩, by rw [s11]; rfl, ⟨0, 0, Nat.le_refl _, Nat.zero_le _, rfl, rfl, s9, s10⟩, fun j hj => by omega⟩, fun k hk => ?_, fun s hs => ?_⟩
  · refine rs_nr ⟨?_, ?_, ?_, ?_, ?_, ?_, ?_, ?_, fun s hs => ?_⟩ (n2 k hk) ⟨8, Or.inl rfl, ?_, ?_, ?_⟩
    · rw [nd_a rfl]; rfl
    · rw [nd_a rfl]; rfl
    · rw [nd_a rfl]; rfl
    · rw [nd_a rfl]; rfl
    · rw [nd_a rfl]; rfl
    · rw [nd_a rfl]; rfl
    · rw [nd_a rfl]; rfl
    · rw [show (160 : Nat) = 100 + 60 from rfl, nd_b rfl]; rfl
    · rw [show (142 : Nat) = 100 + 42 from rfl, show (143 : Nat) = 100 + 43 from rfl, nd_b rfl, nd_b rfl, nd_a rfl, nd_a rfl]
      have e : lfl (fun _ => (0 : Int32)) (-1) 4 s = -1 := by simp [lfl, hs]
      exact ⟨rfl, e, rfl, e⟩
    · rw [nd_a rfl]; rfl
    · rw [nd_a rfl]; rfl
    · rw [nd_a rfl]; rfl
  · obtain ⟨u1, u2, u3, u4⟩ := d2 s hs
    exact ⟨by rw [u1]; rfl, by rw [u2]; rfl, by rw [u4]; rfl, rfl, 0, Nat.le_refl _, rfl, u3⟩
