/-! ===== begin on both sides ===== -/
def RsM (n : ND) : Prop := n 25 0 = 1 ∧ n 26 0 = 1 ∧ n 27 0 = 0 ∧ n 28 0 = 0 ∧ n 29 0 = -1 ∧ n 83 0 = 0 ∧ n 60 0 = 0 ∧ n 160 0 = 0 ∧ ∀ s, s < 4 → n 42 s = 0 ∧ n 43 s = -1 ∧ n 142 s = 0 ∧ n 143 s = -1
theorem rs_nr {rq : Prop} {B zc M : Nat} {n m : ND} (hn : RsM n) (hm : RsM m) (hcap : ∃ C, cap C ∧ n 47 0 = nI C ∧ n 48 0 = nI C ∧ n 49 0 = nI C) : NR rq B zc M n m := by
  obtain ⟨a1, a2, a3, a4, a5, a6, a7, a8, a9⟩ := hn
  obtain ⟨b1, b2, b3, b4, b5, b6, b7, b8, b9⟩ := hm
  obtain ⟨C, k1, k2, k3, k4⟩ := hcap
  refine ⟨⟨⟨by rw [a1, b1], by rw [a2, b2], by rw [a3, b3], by rw [a4, b4], fun _ => by rw [a5, b5], by rw [a7, b7], by rw [a8, b8], by rw [a6, b6]⟩, fun s hs => ?_, fun j hj => ?_, fun _ hne => absurd a5 hne⟩, 0, ⟨by rw [a1]; rfl, by rw [a2]; rfl, by rw [a4]; exact ⟨0, by omega, rfl⟩, by rw [a7]; exact ⟨0, by omega, rfl⟩⟩, ⟨Nat.zero_le _, a6, ⟨C, k1, Nat.zero_le _, k2, k3, k4⟩, fun _ => rfl, fun _ => rfl⟩, ⟨fun j hj => by omega, fun s hs => Or.inl ⟨(a9 s hs).1, (a9 s hs).2.1⟩⟩, ⟨?_, fun s hs => ?_⟩, fun q => absurd (q.symm.trans a2) (by decide), Or.inl a5⟩
  · obtain ⟨y1, y2, y3, y4⟩ := a9 s hs
    obtain ⟨u1, u2, u3, u4⟩ := b9 s hs
    rw [y1, y2, y3, y4, u1, u2, u3, u4]
    exact ⟨rfl, rfl, rfl, rfl⟩
  · rw [a6, show tn (0 : Int32) = 0 from rfl] at hj
    omega
  · simp only [apP]; rw [a8, a7]
  · simp only [apB, apV]; obtain ⟨y1, y2, y3, y4⟩ := a9 s hs; rw [y1, y2, y3, y4]; exact ⟨rfl, rfl⟩
theorem rs_c {σ : CS} {k : Nat} : ∃ σ', F_X3_reset σ k = some (σ', ()) ∧ Fr k σ σ' ∧ RsM (nd σ' k) ∧ ∀ f, 47 ≤ f → f ≤ 49 → nd σ' k f 0 = nd σ k f 0 := by
  have h7 : ¬ (7 + k = k) := by omega
  have h7' : ¬ (k = 7 + k) := by omega
  refine ⟨_, rfl, fun f o j hq => ?_, ⟨?_, ?_, ?_, ?_, ?_, ?_, ?_, ?_, fun s hs => ?_⟩, fun f g1 g2 => ?_⟩
  · simp only [pt, pf]
    rw [if_neg (fun z => hq ⟨by rw [z.1]; rfl, Or.inl z.2.1⟩), if_neg (fun z => hq ⟨by rw [z.1]; rfl, Or.inl z.2.1⟩), if_neg (fun z => hq ⟨by rw [z.1]; rfl, Or.inl z.2.1⟩), if_neg (fun z => hq ⟨by rw [z.1]; rfl, Or.inl z.2.1⟩), if_neg (fun z => hq ⟨by rw [z.1]; rfl, Or.inl z.2.1⟩), if_neg (fun z => hq ⟨by rw [z.1]; rfl, Or.inl z.2.1⟩), if_neg (fun z => hq ⟨by rw [z.1]; rfl, Or.inr z.2.1⟩), if_neg (fun z => hq ⟨by rw [z.1]; rfl, Or.inr z.2.1⟩), if_neg (fun z => hq ⟨by rw [z.1]; rfl, Or.inr z.2.1⟩), if_neg (fun z => hq ⟨by rw [z.1]; rfl, Or.inl z.2.1⟩), if_neg (fun z => hq ⟨by rw [z.1]; rfl, Or.inl z.2.1⟩), if_neg (fun z => hq ⟨by rw [z.1]; rfl, Or.inl z.2.1⟩)]
  · rw [nd_a rfl]; simp [pt, pf]
  · rw [nd_a rfl]; simp [pt, pf]
  · rw [nd_a rfl]; simp [pt, pf]
  · rw [nd_a rfl]; simp [pt, pf]
  · rw [nd_a rfl]; simp [pt, pf]
  · rw [nd_a rfl]; simp [pt, pf]
  · rw [nd_a rfl]; simp [pt, pf, h7']
  · rw [show (160 : Nat) = 100 + 60 from rfl, nd_b rfl]; simp [pt, pf, h7]
  · rw [show (142 : Nat) = 100 + 42 from rfl, show (143 : Nat) = 100 + 43 from rfl, nd_b rfl, nd_b rfl, nd_a rfl, nd_a rfl]
    simp [pt, pf, h7, h7', hs]
  · have hnc : nc f = true := by simp only [nc, decide_eq_true_eq]; omega
    rw [nd_a hnc, nd_a hnc]
    have y : f ≠ 29 ∧ f ≠ 28 ∧ f ≠ 27 ∧ f ≠ 26 ∧ f ≠ 25 ∧ f ≠ 83 ∧ f ≠ 43 ∧ f ≠ 42 ∧ f ≠ 60 := by omega
    obtain ⟨y1, y2, y3, y4, y5, y6, y7, y8, y9⟩ := y
    simp [pt, pf, y1, y2, y3, y4, y5, y6, y7, y8, y9]
theorem dr_c {σ : CS} : ∃ σ', B_X5_forgetAll_25 4096 σ 0 = some (σ', ()) ∧ (∀ s, s < 4 → σ' 50 s 0 = -1 ∧ σ' 51 s 0 = -1 ∧ σ' 52 s 0 = 0 ∧ σ' 53 s 0 = 0) ∧ σ' 9 0 0 = 0 ∧ σ' 10 0 0 = 0 ∧ σ' 11 0 0 = 0 ∧ ∀ f o j, ¬ ((50 ≤ f ∧ f ≤ 53 ∧ o < 4 ∧ j = 0) ∨ (9 ≤ f ∧ f ≤ 11 ∧ o = 0 ∧ j = 0)) → σ' f o j = σ f o j := by
  unfold B_X5_forgetAll_25
  refine lo2_it 4 (fun i a => (∀ s, s < i → a 50 s 0 = -1 ∧ a 51 s 0 = -1 ∧ a 52 s 0 = 0 ∧ a 53 s 0 = 0) ∧ ∀ f o j, ¬ (50 ≤ f ∧ f ≤ 53 ∧ o < i ∧ j = 0) → a f o j = σ f o j) (fun r => ∃ σ' : CS, r = some (σ', ()) ∧ (∀ s, s < 4 → σ' 50 s 0 = -1 ∧ σ' 51 s 0 = -1 ∧ σ' 52 s 0 = 0 ∧ σ' 53 s 0 = 0) ∧ σ' 9 0 0 = 0 ∧ σ' 10 0 0 = 0 ∧ σ' 11 0 0 = 0 ∧ ∀ f o j, ¬ ((50 ≤ f ∧ f ≤ 53 ∧ o < 4 ∧ j = 0) ∨ (9 ≤ f ∧ f ≤ 11 ∧ o = 0 ∧ j = 0)) → σ' f o j = σ f o j) ?_ ?_ 4 0 4096 σ (by omega) (by omega) ⟨fun s hs => by omega, fun _ _ _ _ => rfl⟩
  · rintro i a hi ⟨h1, h2⟩
    refine ⟨pt (pt (pt (pt a 50 i 0 (-1)) 51 i 0 (-1)) 52 i 0 0) 53 i 0 0, ⟨fun s hs => ?_, fun f o j hq => ?_⟩, fun K => ?_⟩
    · by_cases e : s = i
      · subst e; simp [pt]
      · simp [pt, e]; exact h1 s (by omega)
    · simp only [pt]
      rw [if_neg (by omega), if_neg (by omega), if_neg (by omega), if_neg (by omega)]
      exact h2 f o j (by omega)
    · rw [if_neg (show ¬ (4 : Int32) ≤ nI i from nI_ge hi (by decide)), g4 hi, t4 hi]
      unfold F_X0_reset
      rw [lt_eq, lt_eq, lt_eq, lt_eq, bd_s, lt_eq, nI_1]
  · rintro a K ⟨h1, h2⟩
    rw [if_pos (show (4 : Int32) ≤ nI 4 by decide), lt_eq, lt_eq, lt_eq]
    refine ⟨_, rfl, fun s hs => ?_, by simp [pt], by simp [pt], by simp [pt], fun f o j hq => ?_⟩
    · simp [pt]; exact h1 s hs
    · simp only [pt]
      rw [if_neg (by omega), if_neg (by omega), if_neg (by omega)]
      exact h2 f o j (by omega)
theorem fg_c {σ : CS} : ∃ σ', F_X5_forgetAll σ = some (σ', ()) ∧ (∀ k, k < 7 → RsM (nd σ' k) ∧ ∀ f, 47 ≤ f → f ≤ 49 → nd σ' k f 0 = nd σ k f 0) ∧ (∀ s, s < 4 → σ' 50 s 0 = -1 ∧ σ' 51 s 0 = -1 ∧ σ' 52 s 0 = 0 ∧ σ' 53 s 0 = 0) ∧ σ' 9 0 0 = 0 ∧ σ' 10 0 0 = 0 ∧ σ' 11 0 0 = 0 ∧ ∀ f j, (5 ≤ f ∧ f ≤ 8) ∨ f = 40 ∨ (70 ≤ f ∧ f ≤ 76) → σ' f 0 j = σ f 0 j := by
  unfold F_X5_forgetAll B_X5_forgetAll_2
  refine lo2_it 7 (fun i a => (∀ k, k < i → RsM (nd a k) ∧ ∀ f, 47 ≤ f → f ≤ 49 → nd a k f 0 = nd σ k f 0) ∧ (∀ k, i ≤ k → k < 7 → nd a k = nd σ k) ∧ ∀ f o j, nc f = false → a f o j = σ f o j) (fun r => ∃ σ' : CS, r = some (σ', ()) ∧ (∀ k, k < 7 → RsM (nd σ' k) ∧ ∀ f, 47 ≤ f → f ≤ 49 → nd σ' k f 0 = nd σ k f 0) ∧ (∀ s, s < 4 → σ' 50 s 0 = -1 ∧ σ' 51 s 0 = -1 ∧ σ' 52 s 0 = 0 ∧ σ' 53 s 0 = 0) ∧ σ' 9 0 0 = 0 ∧ σ' 10 0 0 = 0 ∧ σ' 11 0 0 = 0 ∧ ∀ f j, (5 ≤ f ∧ f ≤ 8) ∨ f = 40 ∨ (70 ≤ f ∧ f ≤ 76) → σ' f 0 j = σ f 0 j) ?_ ?_ 7 0 4096 σ (by omega) (by omega) ⟨fun k hk => by omega, fun _ _ _ => rfl, fun _ _ _ _ => rfl⟩
  · rintro i a hi ⟨h1, h2, h3⟩
    obtain ⟨a', e1, f1, r1, r2⟩ := rs_c (σ := a) (k := i)
    refine ⟨a', ⟨fun k hk => ?_, fun k h4 h5 => ?_, fun f o j hf => by rw [f1.o hf]; exact h3 f o j hf⟩, fun K => ?_⟩
    · by_cases e : k = i
      · subst e
        exact ⟨r1, fun f g1 g2 => by rw [r2 f g1 g2, h2 k (Nat.le_refl k) hi]⟩
      · rw [f1.node (by omega) hi e]
        exact h1 k (by omega)
    · rw [f1.node h5 hi (by omega)]
      exact h2 k (by omega) h5
    · rw [if_neg (show ¬ (7 : Int32) ≤ nI i from nI_ge hi (by decide)), g7 hi, t7 hi, e1, bd_s, lt_eq, nI_1]
  · rintro a K ⟨h1, h2, h3⟩
    rw [if_pos (show (7 : Int32) ≤ nI 7 by decide)]
    obtain ⟨σ', e1, d1, d2, d3, d4, d5⟩ := dr_c (σ := a)
    refine ⟨σ', e1, fun k hk => ?_, d1, d2, d3, d4, fun f j hf => ?_⟩
    · have : nd σ' k = nd a k := nd_ext (fun f j hf => d5 f k j (fun q => by simp only [nc, decide_eq_true_eq] at hf; omega)) (fun f j hf => d5 f (7 + k) j (fun q => by simp only [nc, decide_eq_true_eq] at hf; omega))
      rw [this]
      exact h1 k hk
    · rw [d5 _ _ _ (by omega)]
      exact h3 f 0 j (by simp only [nc, decide_eq_false_iff_not]; omega)
theorem dr_r {ρ : RS} {x1 x2 : Int32} : ∃ ρ', B_X6_fresh_73 x1 x2 4096 ρ 0 = some (ρ', ()) ∧ Xr ρ' = Xr ρ ∧ (∀ s, s < 4 → Ur ρ' 50 s 0 = -1 ∧ Ur ρ' 51 s 0 = -1 ∧ Ur ρ' 52 s 0 = 0 ∧ Ur ρ' 53 s 0 = 0) ∧ Ur ρ' 9 0 0 = 0 ∧ Ur ρ' 10 0 0 = 0 ∧ Ur ρ' 11 0 0 = 0 ∧ ∀ f o j, ¬ ((50 ≤ f ∧ f ≤ 53 ∧ o < 4 ∧ j = 0) ∨ (9 ≤ f ∧ f ≤ 11 ∧ o = 0 ∧ j = 0)) → Ur ρ' f o j = Ur ρ f o j := by
  unfold B_X6_fresh_73
  refine lo2_it 4 (fun i a => Xr a = Xr ρ ∧ (∀ s, s < i → Ur a 50 s 0 = -1 ∧ Ur a 51 s 0 = -1 ∧ Ur a 52 s 0 = 0 ∧ Ur a 53 s 0 = 0) ∧ ∀ f o j, ¬ (50 ≤ f ∧ f ≤ 53 ∧ o < i ∧ j = 0) → Ur a f o j = Ur ρ f o j) (fun r => ∃ ρ', r = some (ρ', ()) ∧ Xr ρ' = Xr ρ ∧ (∀ s, s < 4 → Ur ρ' 50 s 0 = -1 ∧ Ur ρ' 51 s 0 = -1 ∧ Ur ρ' 52 s 0 = 0 ∧ Ur ρ' 53 s 0 = 0) ∧ Ur ρ' 9 0 0 = 0 ∧ Ur ρ' 10 0 0 = 0 ∧ Ur ρ' 11 0 0 = 0 ∧ ∀ f o j, ¬ ((50 ≤ f ∧ f ≤ 53 ∧ o < 4 ∧ j = 0) ∨ (9 ≤ f ∧ f ≤ 11 ∧ o = 0 ∧ j = 0)) → Ur ρ' f o j = Ur ρ f o j) ?_ ?_ 4 0 4096 ρ (by omega) (by omega) ⟨rfl, fun s hs => by omega, fun _ _ _ _ => rfl⟩
  · rintro i a hi ⟨hX, h1, h2⟩
    have hU : Ur (rp (rp (rp (rp a 20 i 0) 21 i (-1)) 22 i (-1)) 23 i 0) = pt (pt (pt (pt (Ur a) 52 i 0 0) 50 i 0 (-1)) 51 i 0 (-1)) 53 i 0 0 := by rw [Ur_rp (um_23 hi), Ur_rp (um_22 hi), Ur_rp (um_21 hi), Ur_rp (um_20 hi)]
    refine ⟨rp (rp (rp (rp a 20 i 0) 21 i (-1)) 22 i (-1)) 23 i 0, ⟨by rw [Xr_rp (by decide), Xr_rp (by decide), Xr_rp (by decide), Xr_rp (by decide), hX], fun s hs => ?_, fun f o j hq => ?_⟩, fun K => ?_⟩
    · rw [hU]
      by_cases e : s = i
      · subst e; simp [pt]
      · simp [pt, e]; exact h1 s (by omega)
    · rw [hU]
      simp only [pt]
      rw [if_neg (by omega), if_neg (by omega), if_neg (by omega), if_neg (by omega)]
      exact h2 f o j (by omega)
    · rw [if_neg (show ¬ (4 : Int32) ≤ nI i from nI_ge hi (by decide)), g4 hi, t4 hi, lt_eq, g4 hi, lt_eq, g4 hi, lt_eq, g4 hi, lt_eq, lt_eq, nI_1]
  · rintro a K ⟨hX, h1, h2⟩
    rw [if_pos (show (4 : Int32) ≤ nI 4 by decide), lt_eq, lt_eq, lt_eq]
    have hU : Ur (rp (rp (rp a 24 0 0) 25 0 0) 26 0 0) = pt (pt (pt (Ur a) 9 0 0 0) 10 0 0 0) 11 0 0 0 := by rw [Ur_rp um_26, Ur_rp um_25, Ur_rp um_24]
    refine ⟨_, rfl, by rw [Xr_rp (by decide), Xr_rp (by decide), Xr_rp (by decide), hX], fun s hs => ?_, by rw [hU]; simp [pt], by rw [hU]; simp [pt], by rw [hU]; simp [pt], fun f o j hq => ?_⟩
    · rw [hU]; simp [pt]; exact h1 s hs
    · rw [hU]
      simp only [pt]
      rw [if_neg (by omega), if_neg (by omega), if_neg (by omega)]
      exact h2 f o j (by omega)
