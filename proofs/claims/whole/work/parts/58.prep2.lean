/-! ===== a prepare on both sides ===== -/
section LIT2
variable {A B C D E A' B' C' D' R R' : Type}
theorem lo44_it {sc : (A → B → C → Int32 → Option R) → A → B → C → Int32 → Option R} {sr : (A' → B' → C' → Int32 → Option R') → A' → B' → C' → Int32 → Option R'} (N : Nat) (P : Nat → A → B → C → A' → B' → C' → Prop) (Z : Option R → Option R' → Prop) (hs : ∀ i a b c a' b' c', i < N → P i a b c a' b' c' → ∃ a1 b1 c1 a2 b2 c2, P (i + 1) a1 b1 c1 a2 b2 c2 ∧ (∀ K, sc K a b c (nI i) = K a1 b1 c1 (nI (i + 1))) ∧ ∀ K, sr K a' b' c' (nI i) = K a2 b2 c2 (nI (i + 1))) (he : ∀ a b c a' b' c' K K', P N a b c a' b' c' → Z (sc K a b c (nI N)) (sr K' a' b' c' (nI N))) : ∀ (d i f f' : Nat) (a : A) (b : B) (c : C) (a' : A') (b' : B') (c' : C'), i + d = N → d < f → d < f' → P i a b c a' b' c' → Z (lo4 sc f a b c (nI i)) (lo4 sr f' a' b' c' (nI i)) := by
  intro d
  induction d with
  | zero =>
    intro i f f' a b c a' b' c' h1 h2 h3 hP
    obtain ⟨f, rfl⟩ : ∃ g, f = g + 1 := ⟨f - 1, by omega⟩
    obtain ⟨f', rfl⟩ : ∃ g, f' = g + 1 := ⟨f' - 1, by omega⟩
    have e : i = N := by omega
    subst e
    exact he a b c a' b' c' _ _ hP
  | succ d ih =>
    intro i f f' a b c a' b' c' h1 h2 h3 hP
    obtain ⟨f, rfl⟩ : ∃ g, f = g + 1 := ⟨f - 1, by omega⟩
    obtain ⟨f', rfl⟩ : ∃ g, f' = g + 1 := ⟨f' - 1, by omega⟩
    obtain ⟨a1, b1, c1, a2, b2, c2, hP', hc, hr⟩ := hs i a b c a' b' c' (by omega) hP
    show Z (sc (lo4 sc f) a b c (nI i)) (sr (lo4 sr f') a' b' c' (nI i))
    rw [hc, hr]
    exact ih (i + 1) f f' a1 b1 c1 a2 b2 c2 (by omega) (by omega) (by omega) hP'
end LIT2
theorem EN.q {rq : Prop} {σ τ : CS} {k : Nat} (h : EN rq (nd σ k) (nd τ k)) : σ 25 k 0 = τ 25 k 0 ∧ σ 26 k 0 = τ 26 k 0 ∧ σ 27 k 0 = τ 27 k 0 ∧ σ 28 k 0 = τ 28 k 0 ∧ (rq → σ 29 k 0 = τ 29 k 0) ∧ σ 60 k 0 = τ 60 k 0 ∧ σ 60 (7 + k) 0 = τ 60 (7 + k) 0 ∧ σ 83 k 0 = τ 83 k 0 := by
  have h1 := h.1
  rw [show (160 : Nat) = 100 + 60 from rfl] at h1
  simp only [nd_a (show nc 25 = true from rfl), nd_a (show nc 26 = true from rfl), nd_a (show nc 27 = true from rfl), nd_a (show nc 28 = true from rfl), nd_a (show nc 29 = true from rfl), nd_a (show nc 60 = true from rfl), nd_a (show nc 83 = true from rfl), nd_b (show nc 60 = true from rfl)] at h1
  exact h1
theorem EN.s {rq : Prop} {σ τ : CS} {k s : Nat} (h : EN rq (nd σ k) (nd τ k)) (hs : s < 4) : σ 42 k s = τ 42 k s ∧ σ 43 k s = τ 43 k s ∧ σ 42 (7 + k) s = τ 42 (7 + k) s ∧ σ 43 (7 + k) s = τ 43 (7 + k) s := by
  have h1 := h.2.1 s hs
  rw [show (142 : Nat) = 100 + 42 from rfl, show (143 : Nat) = 100 + 43 from rfl] at h1
  simp only [nd_a (show nc 42 = true from rfl), nd_a (show nc 43 = true from rfl), nd_b (show nc 42 = true from rfl), nd_b (show nc 43 = true from rfl)] at h1
  exact h1
theorem isb_nz {v : Int32} (h : isb v = true) (hn : ¬ v = 0) : v = 1 := (isb_or h).resolve_left hn
theorem GRm {mb N M L : Nat} {σ τ : CS} (h : GR mb N M L σ τ) : GR (mb + 1) N M L (pt σ 9 0 0 (σ 9 0 0 + 1)) (pt τ 9 0 0 (τ 9 0 0 + 1)) := by
  obtain ⟨g1, g2, g3, g4, g5, ⟨a, b, h1, h2, h3, h4, h5, h6⟩, g7⟩ := h
  unfold GR
  simp only [pt]
  simp
  exact ⟨g1, g2, g3, g4, g5, ⟨a, b + 1, by omega, by omega, by rw [h3, nI_1], h4, by rw [h5, nI_1], h6⟩, g7⟩
theorem GRma {mb N M L : Nat} {σ τ : CS} (h : GR mb N M L σ τ) : GR (mb + 1) N M L (pt (pt σ 9 0 0 (σ 9 0 0 + 1)) 10 0 0 (σ 10 0 0 + 1)) (pt (pt τ 9 0 0 (τ 9 0 0 + 1)) 10 0 0 (τ 10 0 0 + 1)) := by
  obtain ⟨g1, g2, g3, g4, g5, ⟨a, b, h1, h2, h3, h4, h5, h6⟩, g7⟩ := h
  unfold GR
  simp only [pt]
  simp
  exact ⟨g1, g2, g3, g4, g5, ⟨a + 1, b + 1, by omega, by omega, by rw [h3, nI_1], by rw [h4, nI_1], by rw [h5, nI_1], by rw [h6, nI_1]⟩, g7⟩
/-- the flush behind an answer, if barriers are on -/
theorem fin_2 {rq : Prop} {B zc M k : Nat} {σ : CS} {ρ : RS} (hk : k < 7) (hM : M ≤ 4) (hzc : zc ≤ 512) (h8 : σ 8 0 0 = Ur ρ 8 0 0) (h : NR rq B zc M (nd σ k) (nd (Ur ρ) k)) : ∃ σ' ρ', (∀ o x3 x4 x5 v, (v = 0 ∨ v = 1) → B_X5_agrees_86 k o x3 x4 x5 σ v = some (σ', v)) ∧ (∀ {T : Type} (kk : RS → Option T), (if ρ.1 3 0 = 0 then kk ρ else bd (F_X6_flush ρ (nI k)) fun a _ => kk a) = kk ρ') ∧ Xr ρ' = Xr ρ ∧ Fr k σ σ' ∧ Fr k (Ur ρ) (Ur ρ') ∧ NR rq B zc M (nd σ' k) (nd (Ur ρ') k) ∧ (∀ f, 25 ≤ f → f ≤ 29 → σ' f k 0 = σ f k 0) ∧ (∀ j, Ur ρ' 41 k j = Ur ρ 41 k j) ∧ (∀ f j, nc f = true → Ur ρ' f (7 + k) j = Ur ρ f (7 + k) j) ∧ ∀ f, 25 ≤ f → f ≤ 29 → Ur ρ' f k 0 = Ur ρ f k 0 := by
  have r3 : ρ.1 3 0 = σ 8 0 0 := by rw [Ur_rd um_3, h8]
  by_cases hb : σ 8 0 0 = 0
  · refine ⟨σ, ρ, fun o x3 x4 x5 v hv => ?_, fun kk => ?_, rfl, Fr.rf _ _, Fr.rf _ _, h, fun _ _ _ => rfl, fun _ => rfl, fun _ _ _ => rfl, fun _ _ _ => rfl⟩
    · unfold B_X5_agrees_86 B_X5_agrees_98
      rw [if_pos hb]
      rcases hv with rfl | rfl
      · exact gd_isb0
      · exact gd_isb1
    · rw [r3, if_pos hb]
  · obtain ⟨σ', ρ', e1, e2, hX, f1, f2, hN, h25, h41, hvw⟩ := fl_2 (zc' := zc) hk hM hzc h
    refine ⟨σ', ρ', fun o x3 x4 x5 v hv => ?_, fun kk => ?_, hX, f1, f2, hN, h25, h41, hvw⟩
    · unfold B_X5_agrees_86 B_X5_agrees_98
      rw [if_neg hb, e1, bd_s]
      rcases hv with rfl | rfl
      · exact gd_isb0
      · exact gd_isb1
    · rw [r3, if_neg hb, e2, bd_s]
theorem nr_41' {rq : Prop} {B zc M : Nat} {n m m' : ND} (h : NR rq B zc M n m) (hr0 : n 29 0 = -1 ∨ ∀ j, m' 41 j = m 41 j) (hm : ∀ f, f ≠ 41 → ∀ j, m' f j = m f j) : NR rq B zc M n m' := by
  rcases hr0 with h0 | h0
  · exact nr_41 h h0 hm
  · have : m' = m := by
      funext f j
      by_cases e : f = 41
      · subst e; exact h0 j
      · exact hm f e j
    rw [this]; exact h
/-- node o hears of ballot v -/
theorem tl_2 {rq : Prop} {B zc M o : Nat} {σ : CS} {ρ : RS} {v : Int32} (ho : o < 7) (hB : B < 2 ^ 31) (h : NR rq B zc M (nd σ o) (nd (Ur ρ) o)) (hv : b0 B v) : F_X3_tell σ o v = some (pt σ 28 o 0 (imax (σ 28 o 0) v), ()) ∧ F_X6_tell ρ (nI o) v = some (rp ρ 7 o (imax (σ 28 o 0) v), ()) ∧ Ur (rp ρ 7 o (imax (σ 28 o 0) v)) = pt (Ur ρ) 28 o 0 (imax (σ 28 o 0) v) ∧ Xr (rp ρ 7 o (imax (σ 28 o 0) v)) = Xr ρ ∧ NR rq B zc M (nd (pt σ 28 o 0 (imax (σ 28 o 0) v)) o) (nd (pt (Ur ρ) 28 o 0 (imax (σ 28 o 0) v)) o) := by
  have hs : ρ.1 7 o = σ 28 o 0 := by rw [Ur_rd (um_7 ho)]; exact h.1.q.2.2.2.1.symm
  refine ⟨rfl, by rw [tell_r ho, hs], Ur_rp (um_7 ho), Xr_rp (by decide), ?_⟩
  rw [nd_pa rfl, nd_pa rfl]
  obtain ⟨z, ⟨a1, a2, a3, a4⟩, hr⟩ := h.2
  refine nr_28 (imax_b0 hB ?_ hv) h
  rw [nd_a rfl] at a3
  exact a3
