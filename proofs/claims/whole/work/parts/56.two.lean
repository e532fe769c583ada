/-! ===== one field of a node changes on both sides ===== -/
theorem nu_n {n : ND} {f j f' : Nat} {v : Int32} (h : f' ≠ f) : nu n f j v f' = n f' := by funext j'; simp [nu, h]
theorem nu_s {n : ND} {f j : Nat} {v : Int32} : nu n f j v f j = v := by simp [nu]
theorem nu_P {n : ND} {f j z : Nat} {v p : Int32} (h : f ≠ 45) : apP (nu n f j v) p z = apP n p z := apP_cong rfl (fun t _ => by rw [nu_n (Ne.symm h)])
theorem nu_B {n : ND} {f j z s : Nat} {v : Int32} {b : Nat → Int32} (h : f ≠ 44) (h' : f ≠ 45) : apB (nu n f j v) b z s = apB n b z s := apB_cong rfl (fun t _ => by rw [nu_n (Ne.symm h), nu_n (Ne.symm h')]; exact ⟨rfl, rfl⟩)
theorem nu_V {n : ND} {f j z s : Nat} {v : Int32} {b : Nat → Int32} (h : f ≠ 44) (h' : f ≠ 46) : apV (nu n f j v) b z s = apV n b z s := apV_cong rfl (fun t _ => by rw [nu_n (Ne.symm h), nu_n (Ne.symm h')]; exact ⟨rfl, rfl⟩)
theorem nr_28 {rq : Prop} {B zc M : Nat} {n m : ND} {v : Int32} (hv : b0 B v) (h : NR rq B zc M n m) : NR rq B zc M (nu n 28 0 v) (nu m 28 0 v) := by
  obtain ⟨⟨⟨e1, e2, e3, e4, e5, e6, e7, e8⟩, e9, e10, e11⟩, z, ⟨a1, a2, a3, a4⟩, ⟨c1, c2, c3, c4, c5⟩, hw, ⟨v1, v2⟩, hj, hr⟩ := h
  unfold NR EN IN IA IC IW IV IJ IR
  unfold IW at hw; unfold IJ at hj; unfold IR at hr
  simp only [nu_n (show (25 : Nat) ≠ 28 by decide), nu_n (show (26 : Nat) ≠ 28 by decide), nu_n (show (27 : Nat) ≠ 28 by decide), nu_n (show (29 : Nat) ≠ 28 by decide), nu_n (show (41 : Nat) ≠ 28 by decide), nu_n (show (42 : Nat) ≠ 28 by decide), nu_n (show (43 : Nat) ≠ 28 by decide), nu_n (show (44 : Nat) ≠ 28 by decide), nu_n (show (45 : Nat) ≠ 28 by decide), nu_n (show (46 : Nat) ≠ 28 by decide), nu_n (show (47 : Nat) ≠ 28 by decide), nu_n (show (48 : Nat) ≠ 28 by decide), nu_n (show (49 : Nat) ≠ 28 by decide), nu_n (show (60 : Nat) ≠ 28 by decide), nu_n (show (83 : Nat) ≠ 28 by decide), nu_n (show (142 : Nat) ≠ 28 by decide), nu_n (show (143 : Nat) ≠ 28 by decide), nu_n (show (160 : Nat) ≠ 28 by decide), nu_s, nu_P (show (28 : Nat) ≠ 45 by decide), nu_B (show (28 : Nat) ≠ 44 by decide) (show (28 : Nat) ≠ 45 by decide), nu_V (show (28 : Nat) ≠ 44 by decide) (show (28 : Nat) ≠ 46 by decide)]
  exact ⟨⟨⟨e1, e2, e3, trivial, e5, e6, e7, e8⟩, e9, e10, e11⟩, z, ⟨a1, a2, hv, a4⟩, ⟨c1, c2, c3, c4, c5⟩, hw, ⟨v1, v2⟩, hj, hr⟩
theorem nr_27 {rq : Prop} {B zc M : Nat} {n m : ND} {v : Int32} (h : NR rq B zc M n m) : NR rq B zc M (nu n 27 0 v) (nu m 27 0 v) := by
  obtain ⟨⟨⟨e1, e2, e3, e4, e5, e6, e7, e8⟩, e9, e10, e11⟩, z, ⟨a1, a2, a3, a4⟩, ⟨c1, c2, c3, c4, c5⟩, hw, ⟨v1, v2⟩, hj, hr⟩ := h
  unfold NR EN IN IA IC IW IV IJ IR
  unfold IW at hw; unfold IJ at hj; unfold IR at hr
  simp only [nu_n (show (25 : Nat) ≠ 27 by decide), nu_n (show (26 : Nat) ≠ 27 by decide), nu_n (show (28 : Nat) ≠ 27 by decide), nu_n (show (29 : Nat) ≠ 27 by decide), nu_n (show (41 : Nat) ≠ 27 by decide), nu_n (show (42 : Nat) ≠ 27 by decide), nu_n (show (43 : Nat) ≠ 27 by decide), nu_n (show (44 : Nat) ≠ 27 by decide), nu_n (show (45 : Nat) ≠ 27 by decide), nu_n (show (46 : Nat) ≠ 27 by decide), nu_n (show (47 : Nat) ≠ 27 by decide), nu_n (show (48 : Nat) ≠ 27 by decide), nu_n (show (49 : Nat) ≠ 27 by decide), nu_n (show (60 : Nat) ≠ 27 by decide), nu_n (show (83 : Nat) ≠ 27 by decide), nu_n (show (142 : Nat) ≠ 27 by decide), nu_n (show (143 : Nat) ≠ 27 by decide), nu_n (show (160 : Nat) ≠ 27 by decide), nu_s, nu_P (show (27 : Nat) ≠ 45 by decide), nu_B (show (27 : Nat) ≠ 44 by decide) (show (27 : Nat) ≠ 45 by decide), nu_V (show (27 : Nat) ≠ 44 by decide) (show (27 : Nat) ≠ 46 by decide)]
  exact ⟨⟨⟨e1, e2, trivial, e4, e5, e6, e7, e8⟩, e9, e10, e11⟩, z, ⟨a1, a2, a3, a4⟩, ⟨c1, c2, c3, c4, c5⟩, hw, ⟨v1, v2⟩, hj, hr⟩
theorem nr_29 {rq : Prop} {B zc M : Nat} {n m : ND} (h : NR rq B zc M n m) : NR rq B zc M (nu n 29 0 (-1)) (nu m 29 0 (-1)) := by
  obtain ⟨⟨⟨e1, e2, e3, e4, e5, e6, e7, e8⟩, e9, e10, e11⟩, z, ⟨a1, a2, a3, a4⟩, ⟨c1, c2, c3, c4, c5⟩, hw, ⟨v1, v2⟩, hj, hr⟩ := h
  unfold NR EN IN IA IC IW IV IJ IR
  unfold IW at hw; unfold IJ at hj; unfold IR at hr
  simp only [nu_n (show (25 : Nat) ≠ 29 by decide), nu_n (show (26 : Nat) ≠ 29 by decide), nu_n (show (27 : Nat) ≠ 29 by decide), nu_n (show (28 : Nat) ≠ 29 by decide), nu_n (show (41 : Nat) ≠ 29 by decide), nu_n (show (42 : Nat) ≠ 29 by decide), nu_n (show (43 : Nat) ≠ 29 by decide), nu_n (show (44 : Nat) ≠ 29 by decide), nu_n (show (45 : Nat) ≠ 29 by decide), nu_n (show (46 : Nat) ≠ 29 by decide), nu_n (show (47 : Nat) ≠ 29 by decide), nu_n (show (48 : Nat) ≠ 29 by decide), nu_n (show (49 : Nat) ≠ 29 by decide), nu_n (show (60 : Nat) ≠ 29 by decide), nu_n (show (83 : Nat) ≠ 29 by decide), nu_n (show (142 : Nat) ≠ 29 by decide), nu_n (show (143 : Nat) ≠ 29 by decide), nu_n (show (160 : Nat) ≠ 29 by decide), nu_s, nu_P (show (29 : Nat) ≠ 45 by decide), nu_B (show (29 : Nat) ≠ 44 by decide) (show (29 : Nat) ≠ 45 by decide), nu_V (show (29 : Nat) ≠ 44 by decide) (show (29 : Nat) ≠ 46 by decide)]
  exact ⟨⟨⟨e1, e2, e3, e4, fun _ => trivial, e6, e7, e8⟩, e9, e10, fun _ q => absurd rfl q⟩, z, ⟨a1, a2, a3, a4⟩, ⟨c1, c2, c3, c4, c5⟩, hw, ⟨v1, v2⟩, hj, Or.inl trivial⟩
theorem nr_up {rq : Prop} {B zc M : Nat} {n m : ND} (h : NR rq B zc M n m) : NR rq B zc M (nu n 25 0 1) (nu m 25 0 1) := by
  obtain ⟨⟨⟨e1, e2, e3, e4, e5, e6, e7, e8⟩, e9, e10, e11⟩, z, ⟨a1, a2, a3, a4⟩, ⟨c1, c2, c3, c4, c5⟩, hw, ⟨v1, v2⟩, hj, hr⟩ := h
  unfold NR EN IN IA IC IW IV IJ IR
  unfold IW at hw; unfold IJ at hj; unfold IR at hr
  simp only [nu_n (show (26 : Nat) ≠ 25 by decide), nu_n (show (27 : Nat) ≠ 25 by decide), nu_n (show (28 : Nat) ≠ 25 by decide), nu_n (show (29 : Nat) ≠ 25 by decide), nu_n (show (41 : Nat) ≠ 25 by decide), nu_n (show (42 : Nat) ≠ 25 by decide), nu_n (show (43 : Nat) ≠ 25 by decide), nu_n (show (44 : Nat) ≠ 25 by decide), nu_n (show (45 : Nat) ≠ 25 by decide), nu_n (show (46 : Nat) ≠ 25 by decide), nu_n (show (47 : Nat) ≠ 25 by decide), nu_n (show (48 : Nat) ≠ 25 by decide), nu_n (show (49 : Nat) ≠ 25 by decide), nu_n (show (60 : Nat) ≠ 25 by decide), nu_n (show (83 : Nat) ≠ 25 by decide), nu_n (show (142 : Nat) ≠ 25 by decide), nu_n (show (143 : Nat) ≠ 25 by decide), nu_n (show (160 : Nat) ≠ 25 by decide), nu_s, nu_P (show (25 : Nat) ≠ 45 by decide), nu_B (show (25 : Nat) ≠ 44 by decide) (show (25 : Nat) ≠ 45 by decide), nu_V (show (25 : Nat) ≠ 44 by decide) (show (25 : Nat) ≠ 46 by decide)]
  exact ⟨⟨⟨trivial, e2, e3, e4, e5, e6, e7, e8⟩, e9, e10, e11⟩, z, ⟨rfl, a2, a3, a4⟩, ⟨c1, c2, c3, fun q => absurd q (by decide), c5⟩, hw, ⟨v1, v2⟩, hj, hr.imp id (fun q => ⟨q.1, trivial, q.2.2⟩)⟩
theorem nr_dn {rq : Prop} {B zc M : Nat} {n m : ND} (hz : n 83 0 = 0) (hr0 : n 29 0 = -1) (h : NR rq B zc M n m) : NR rq B zc M (nu n 25 0 0) (nu m 25 0 0) := by
  obtain ⟨⟨⟨e1, e2, e3, e4, e5, e6, e7, e8⟩, e9, e10, e11⟩, z, ⟨a1, a2, a3, a4⟩, ⟨c1, c2, c3, c4, c5⟩, hw, ⟨v1, v2⟩, hj, hr⟩ := h
  unfold NR EN IN IA IC IW IV IJ IR
  unfold IW at hw; unfold IJ at hj; unfold IR at hr
  simp only [nu_n (show (26 : Nat) ≠ 25 by decide), nu_n (show (27 : Nat) ≠ 25 by decide), nu_n (show (28 : Nat) ≠ 25 by decide), nu_n (show (29 : Nat) ≠ 25 by decide), nu_n (show (41 : Nat) ≠ 25 by decide), nu_n (show (42 : Nat) ≠ 25 by decide), nu_n (show (43 : Nat) ≠ 25 by decide), nu_n (show (44 : Nat) ≠ 25 by decide), nu_n (show (45 : Nat) ≠ 25 by decide), nu_n (show (46 : Nat) ≠ 25 by decide), nu_n (show (47 : Nat) ≠ 25 by decide), nu_n (show (48 : Nat) ≠ 25 by decide), nu_n (show (49 : Nat) ≠ 25 by decide), nu_n (show (60 : Nat) ≠ 25 by decide), nu_n (show (83 : Nat) ≠ 25 by decide), nu_n (show (142 : Nat) ≠ 25 by decide), nu_n (show (143 : Nat) ≠ 25 by decide), nu_n (show (160 : Nat) ≠ 25 by decide), nu_s, nu_P (show (25 : Nat) ≠ 45 by decide), nu_B (show (25 : Nat) ≠ 44 by decide) (show (25 : Nat) ≠ 45 by decide), nu_V (show (25 : Nat) ≠ 44 by decide) (show (25 : Nat) ≠ 46 by decide)]
  exact ⟨⟨⟨trivial, e2, e3, e4, e5, e6, e7, e8⟩, e9, e10, e11⟩, z, ⟨rfl, a2, a3, a4⟩, ⟨c1, c2, c3, fun _ => by obtain ⟨C, k1, k2, _⟩ := c3; exact nI_inj (by have := cap_le k1; omega) (by decide) (c2.symm.trans (hz.trans nI_0.symm)), c5⟩, hw, ⟨v1, v2⟩, hj, Or.inl hr0⟩
/-- the reference's row of round values may be anything while no round is on -/
theorem nr_41 {rq : Prop} {B zc M : Nat} {n m m' : ND} (h : NR rq B zc M n m) (hr0 : n 29 0 = -1) (hm : ∀ f, f ≠ 41 → ∀ j, m' f j = m f j) : NR rq B zc M n m' := by
  obtain ⟨⟨⟨e1, e2, e3, e4, e5, e6, e7, e8⟩, e9, e10, e11⟩, hI⟩ := h
  refine ⟨⟨⟨?_, ?_, ?_, ?_, ?_, ?_, ?_, ?_⟩, fun s hs => ?_, fun j hj => ?_, fun _ q => absurd hr0 q⟩, hI⟩
  · rw [hm _ (by decide)]; exact e1
  · rw [hm _ (by decide)]; exact e2
  · rw [hm _ (by decide)]; exact e3
  · rw [hm _ (by decide)]; exact e4
  · rw [hm _ (by decide)]; exact e5
  · rw [hm _ (by decide)]; exact e6
  · rw [hm _ (by decide)]; exact e7
  · rw [hm _ (by decide)]; exact e8
  · rw [hm _ (by decide), hm _ (by decide), hm _ (by decide), hm _ (by decide)]; exact e9 s hs
  · rw [hm _ (by decide), hm _ (by decide), hm _ (by decide)]; exact e10 j hj
/-- a round is opened on both sides -/
theorem nr_rd {rq : Prop} {B zc M : Nat} {n m n' m' : ND} {b : Int32} (h : NR rq B zc M n m) (hb : bl B b) (h25 : n 25 0 = 1) (h26 : n 26 0 = 1) (hn : ∀ f, f ≠ 41 → f ≠ 29 → n' f = n f) (hm : ∀ f, f ≠ 41 → f ≠ 29 → m' f = m f) (hn9 : n' 29 0 = b) (hm9 : m' 29 0 = b) (hv : ∀ s, s < 4 → n' 41 s = m' 41 s ∧ (n' 41 s = -1 ∨ vl (n' 41 s))) : NR rq B zc M n' m' := by
  obtain ⟨⟨⟨e1, e2, e3, e4, e5, e6, e7, e8⟩, e9, e10, e11⟩, z, ⟨a1, a2, a3, a4⟩, ⟨c1, c2, c3, c4, c5⟩, hw, ⟨v1, v2⟩, hj, hr⟩ := h
  unfold NR EN IN IA IC IW IV IJ IR
  unfold IW at hw; unfold IJ at hj
  have cP : ∀ z p, apP n' p z = apP n p z := fun z p => apP_cong rfl (fun t _ => by rw [hn 45 (by decide) (by decide)])
  have cB : ∀ z b s, apB n' b z s = apB n b z s := fun z b s => apB_cong rfl (fun t _ => by rw [hn 44 (by decide) (by decide), hn 45 (by decide) (by decide)]; exact ⟨rfl, rfl⟩)
  have cV : ∀ z b s, apV n' b z s = apV n b z s := fun z b s => apV_cong rfl (fun t _ => by rw [hn 44 (by decide) (by decide), hn 46 (by decide) (by decide)]; exact ⟨rfl, rfl⟩)
  simp only [hn 25 (by decide) (by decide), hm 25 (by decide) (by decide), hn 26 (by decide) (by decide), hm 26 (by decide) (by decide), hn 27 (by decide) (by decide), hm 27 (by decide) (by decide), hn 28 (by decide) (by decide), hm 28 (by decide) (by decide), hn 42 (by decide) (by decide), hm 42 (by decide) (by decide), hn 43 (by decide) (by decide), hm 43 (by decide) (by decide), hn 44 (by decide) (by decide), hm 44 (by decide) (by decide), hn 45 (by decide) (by decide), hm 45 (by decide) (by decide), hn 46 (by decide) (by decide), hm 46 (by decide) (by decide), hn 47 (by decide) (by decide), hm 47 (by decide) (by decide), hn 48 (by decide) (by decide), hm 48 (by decide) (by decide), hn 49 (by decide) (by decide), hm 49 (by decide) (by decide), hn 60 (by decide) (by decide), hm 60 (by decide) (by decide), hn 83 (by decide) (by decide), hm 83 (by decide) (by decide), hn 142 (by decide) (by decide), hm 142 (by decide) (by decide), hn 143 (by decide) (by decide), hm 143 (by decide) (by decide), hn 160 (by decide) (by decide), hm 160 (by decide) (by decide), cP, cB, cV]
  exact ⟨⟨⟨e1, e2, e3, e4, fun _ => by rw [hn9, hm9], e6, e7, e8⟩, e9, e10, fun _ _ s hs => (hv s hs).1⟩, z, ⟨a1, a2, a3, a4⟩, ⟨c1, c2, c3, c4, c5⟩, hw, ⟨v1, v2⟩, hj, Or.inr ⟨by rw [hn9]; exact hb, h25, h26, fun s hs => (hv s hs).2⟩⟩
/-! ===== the two states ===== -/
def GR (mb N M L : Nat) (σ τ : CS) : Prop := (σ 6 0 0 = nI N ∧ τ 6 0 0 = nI N ∧ 3 ≤ N ∧ N ≤ 7) ∧ (σ 7 0 0 = nI M ∧ τ 7 0 0 = nI M ∧ 1 ≤ M ∧ M ≤ 4) ∧ (σ 5 0 0 = nI L ∧ τ 5 0 0 = nI L ∧ L ≤ 60) ∧ (σ 8 0 0 = τ 8 0 0 ∧ isb (σ 8 0 0) = true) ∧ σ 11 0 0 = τ 11 0 0 ∧ (∃ a b, a ≤ b ∧ b ≤ mb ∧ σ 9 0 0 = nI b ∧ σ 10 0 0 = nI a ∧ τ 9 0 0 = nI b ∧ τ 10 0 0 = nI a) ∧ ∀ j, j < L → ∃ a, 32 ≤ a ∧ a ≤ 126 ∧ σ 40 0 j = nI a ∧ τ 40 0 j = nI a
def DR (tc s : Nat) (σ τ : CS) : Prop := σ 50 s 0 = τ 50 s 0 ∧ σ 51 s 0 = τ 51 s 0 ∧ σ 53 s 0 = τ 53 s 0 ∧ isb (σ 53 s 0) = true ∧ ∃ t, t ≤ tc ∧ σ 52 s 0 = nI t ∧ τ 52 s 0 = nI t
def JJN (rqf : Nat → Prop) (B : Nat) (zc : Nat → Nat) (M : Nat) (σ τ : CS) : Prop := ∀ i, i < 7 → NR (rqf i) B (zc i) M (nd σ i) (nd τ i)
def Jc (c N M L : Nat) (σ : CS) (ρ : RS) : Prop := GR (7 * c) N M L σ (Ur ρ) ∧ JJN (fun _ => True) (8 * c + 16) (fun _ => c) M σ (Ur ρ) ∧ ∀ s, s < 4 → DR c s σ (Ur ρ)
theorem GR.cg {mb N M L : Nat} {σ τ σ' τ' : CS} (h : GR mb N M L σ τ) (h1 : ∀ f j, (5 ≤ f ∧ f ≤ 11) ∨ f = 40 → σ' f 0 j = σ f 0 j) (h2 : ∀ f j, (5 ≤ f ∧ f ≤ 11) ∨ f = 40 → τ' f 0 j = τ f 0 j) : GR mb N M L σ' τ' := by
  unfold GR
  rw [h1 6 0 (by omega), h2 6 0 (by omega), h1 7 0 (by omega), h2 7 0 (by omega), h1 5 0 (by omega), h2 5 0 (by omega), h1 8 0 (by omega), h2 8 0 (by omega), h1 11 0 (by omega), h2 11 0 (by omega), h1 9 0 (by omega), h2 9 0 (by omega), h1 10 0 (by omega), h2 10 0 (by omega)]
  obtain ⟨g1, g2, g3, g4, g5, g6, g7⟩ := h
  refine ⟨g1, g2, g3, g4, g5, g6, fun j hj => ?_⟩
  rw [h1 40 j (by omega), h2 40 j (by omega)]
  exact g7 j hj
theorem nc_g {f : Nat} (h : (5 ≤ f ∧ f ≤ 11) ∨ f = 40) : nc f = false := by simp only [nc, decide_eq_false_iff_not]; omega
theorem nc_d {f : Nat} (h : 50 ≤ f ∧ f ≤ 53) : nc f = false := by simp only [nc, decide_eq_false_iff_not]; omega
theorem GR.fr {mb N M L k : Nat} {σ τ σ' τ' : CS} (h : GR mb N M L σ τ) (h1 : Fr k σ σ') (h2 : Fr k τ τ') : GR mb N M L σ' τ' := h.cg (fun f j hf => h1.o (nc_g hf)) (fun f j hf => h2.o (nc_g hf))
theorem GR.mono {mb mb' N M L : Nat} {σ τ : CS} (hm : mb ≤ mb') (h : GR mb N M L σ τ) : GR mb' N M L σ τ := by
  obtain ⟨g1, g2, g3, g4, g5, ⟨a, b, h1, h2, h3⟩, g7⟩ := h
  exact ⟨g1, g2, g3, g4, g5, ⟨a, b, h1, by omega, h3⟩, g7⟩
theorem DR.cg {tc s : Nat} {σ τ σ' τ' : CS} (h : DR tc s σ τ) (h1 : ∀ f, 50 ≤ f → f ≤ 53 → σ' f s 0 = σ f s 0) (h2 : ∀ f, 50 ≤ f → f ≤ 53 → τ' f s 0 = τ f s 0) : DR tc s σ' τ' := by
  unfold DR
  rw [h1 50 (by omega) (by omega), h1 51 (by omega) (by omega), h1 52 (by omega) (by omega), h1 53 (by omega) (by omega), h2 50 (by omega) (by omega), h2 51 (by omega) (by omega), h2 52 (by omega) (by omega), h2 53 (by omega) (by omega)]
  exact h
theorem DR.fr {tc s k : Nat} {σ τ σ' τ' : CS} (h : DR tc s σ τ) (h1 : Fr k σ σ') (h2 : Fr k τ τ') : DR tc s σ' τ' := h.cg (fun f a b => h1.o (nc_d ⟨a, b⟩)) (fun f a b => h2.o (nc_d ⟨a, b⟩))
theorem DR.mono {tc tc' s : Nat} {σ τ : CS} (hm : tc ≤ tc') (h : DR tc s σ τ) : DR tc' s σ τ := by
  obtain ⟨h1, h2, h3, h4, t, h5, h6⟩ := h
  exact ⟨h1, h2, h3, h4, t, by omega, h6⟩
/-- node k has changed on both sides -/
theorem JJN.fr {rqf : Nat → Prop} {B M k : Nat} {zc zc' : Nat → Nat} {σ τ σ' τ' : CS} (hk : k < 7) (h : JJN rqf B zc M σ τ) (h1 : Fr k σ σ') (h2 : Fr k τ τ') (hz : ∀ i, i ≠ k → zc i ≤ zc' i) (hn : NR (rqf k) B (zc' k) M (nd σ' k) (nd τ' k)) : JJN rqf B zc' M σ' τ' := fun i hi => by
  by_cases e : i = k
  · subst e; exact hn
  · rw [h1.node hi hk e, h2.node hi hk e]
    exact (h i hi).mono (Nat.le_refl _) (hz i e)
theorem JJN.cg {rqf : Nat → Prop} {B M : Nat} {zc zc' : Nat → Nat} {σ τ σ' τ' : CS} (h : JJN rqf B zc M σ τ) (h1 : ∀ i, i < 7 → nd σ' i = nd σ i) (h2 : ∀ i, i < 7 → nd τ' i = nd τ i) (hz : ∀ i, zc i ≤ zc' i) : JJN rqf B zc' M σ' τ' := fun i hi => by
  rw [h1 i hi, h2 i hi]
  exact (h i hi).mono (Nat.le_refl _) (hz i)
theorem JJN.mono {rqf : Nat → Prop} {B B' M : Nat} {zc zc' : Nat → Nat} {σ τ : CS} (hB : B ≤ B') (hz : ∀ i, zc i ≤ zc' i) (h : JJN rqf B zc M σ τ) : JJN rqf B' zc' M σ τ := fun i hi => (h i hi).mono hB (hz i)
theorem Jc.mono {c c' N M L : Nat} {σ : CS} {ρ : RS} (hc : c ≤ c') (h : Jc c N M L σ ρ) : Jc c' N M L σ ρ := ⟨h.1.mono (by omega), h.2.1.mono (by omega) (fun _ => hc), fun s hs => (h.2.2 s hs).mono hc⟩
/-! ===== a node's write and flush on both sides ===== -/
theorem IN.wf {B zc M : Nat} {n : ND} (hM : M ≤ 4) (h : IN B zc M n) : ∃ z C, z ≤ zc ∧ n 83 0 = nI z ∧ cap C ∧ z ≤ C ∧ n 47 0 = nI C ∧ n 48 0 = nI C ∧ n 49 0 = nI C ∧ ∀ t, t < z → n 44 t = -1 ∨ ∃ s, s < 4 ∧ n 44 t = nI s := by
  obtain ⟨z, ha, ⟨c1, c2, ⟨C, c3, c4, c5, c6, c7⟩, c8, c9⟩, ⟨w1, w2⟩, hv, hj, hr⟩ := h
  exact ⟨z, C, c1, c2, c3, c4, c5, c6, c7, fun t ht => (w1 t ht).sl hM⟩
theorem wr_2 {rq : Prop} {B zc M k : Nat} {σ : CS} {ρ : RS} {x b v : Int32} (hk : k < 7) (hM : M ≤ 4) (hzc : zc < 512) (h : NR rq B zc M (nd σ k) (nd (Ur ρ) k)) (hw : wok B M x b v) (hup : σ 25 k 0 = 1) (hjn : σ 26 k 0 = 1) : ∃ σ' ρ', F_X3_write σ k x b v = some (σ', ()) ∧ F_X6_write ρ (nI k) x b v = some (ρ', ()) ∧ Xr ρ' = Xr ρ ∧ Fr k σ σ' ∧ Fr k (Ur ρ) (Ur ρ') ∧ NR rq B (zc + 1) M (nd σ' k) (nd (Ur ρ') k) ∧ (∀ f, 25 ≤ f → f ≤ 29 → σ' f k 0 = σ f k 0) ∧ (∀ j, Ur ρ' 41 k j = Ur ρ 41 k j) ∧ ∀ f, 25 ≤ f → f ≤ 29 → Ur ρ' f k 0 = Ur ρ f k 0 := by
  obtain ⟨z, C, h1, h2, h3, h4, h5, h6, h7, h8⟩ := h.2.wf hM
  have hz : σ 83 k 0 = nI z := by rw [← nd_a (σ := σ) (f := 83) rfl]; exact h2
  have hzr : Ur ρ 83 k 0 = nI z := by rw [← nd_a (σ := Ur ρ) (f := 83) rfl, ← h.1.1.2.2.2.2.2.2.2]; exact h2
  obtain ⟨σ', e1, f1, w1, hcap⟩ := wr_c (b := b) (v := v) hz h4 h3 (by omega) (by rw [← nd_a (σ := σ) (f := 47) rfl]; exact h5) (by rw [← nd_a (σ := σ) (f := 48) rfl]; exact h6) (by rw [← nd_a (σ := σ) (f := 49) rfl]; exact h7) (hw.sl hM)
  obtain ⟨ρ', e2, hX, f2, w2⟩ := wr_r (b := b) (v := v) hk hzr (by omega) (hw.sl hM)
  refine ⟨σ', ρ', e1, e2, hX, f1, f2, wr_nr h h2 (by omega) w1 w2 hcap hw (by rw [nd_a rfl]; exact hup) (by rw [nd_a rfl]; exact hjn) (by omega), fun f g1 g2 => ?_, fun j => ?_, fun f g1 g2 => ?_⟩
  · have hnc : nc f = true := by simp only [nc, decide_eq_true_eq]; omega
    rw [← nd_a (σ := σ') hnc, ← nd_a (σ := σ) hnc]
    exact w1.2.2.2.2.2.2.2 f 0 (by omega) (by omega) (by omega) (by omega) (by omega)
  · rw [← nd_a (σ := Ur ρ') (f := 41) rfl, ← nd_a (σ := Ur ρ) (f := 41) rfl]
    exact w2.2.2.2.2.2.2.2 41 j (by omega) (by omega) (by omega) (by omega) (by omega)
  · have hnc : nc f = true := by simp only [nc, decide_eq_true_eq]; omega
    rw [← nd_a (σ := Ur ρ') hnc, ← nd_a (σ := Ur ρ) hnc]
    exact w2.2.2.2.2.2.2.2 f 0 (by omega) (by omega) (by omega) (by omega) (by omega)
theorem fl_2 {rq : Prop} {B zc zc' M k : Nat} {σ : CS} {ρ : RS} (hk : k < 7) (hM : M ≤ 4) (hzc : zc ≤ 512) (h : NR rq B zc M (nd σ k) (nd (Ur ρ) k)) : ∃ σ' ρ', F_X3_carryOutAll σ k = some (σ', σ 83 k 0) ∧ F_X6_flush ρ (nI k) = some (ρ', ()) ∧ Xr ρ' = Xr ρ ∧ Fr k σ σ' ∧ Fr k (Ur ρ) (Ur ρ') ∧ NR rq B zc' M (nd σ' k) (nd (Ur ρ') k) ∧ (∀ f, 25 ≤ f → f ≤ 29 → σ' f k 0 = σ f k 0) ∧ (∀ j, Ur ρ' 41 k j = Ur ρ 41 k j) ∧ (∀ f j, nc f = true → Ur ρ' f (7 + k) j = Ur ρ f (7 + k) j) ∧ ∀ f, 25 ≤ f → f ≤ 29 → Ur ρ' f k 0 = Ur ρ f k 0 := by
  obtain ⟨z, C, h1, h2, h3, h4, h5, h6, h7, h8⟩ := h.2.wf hM
  have hz : σ 83 k 0 = nI z := by rw [← nd_a (σ := σ) (f := 83) rfl]; exact h2
  have hzr : Ur ρ 83 k 0 = nI z := by rw [← nd_a (σ := Ur ρ) (f := 83) rfl, ← h.1.1.2.2.2.2.2.2.2]; exact h2
  have t83 : tn (nd σ k 83 0) = z := by rw [h2]; exact tn_nI (by omega)
  have hC := cap_le h3
  obtain ⟨σ', e1, f1, w0⟩ := coa hz h4 hC (by rw [← nd_a (σ := σ) (f := 47) rfl]; exact h5) (by rw [← nd_a (σ := σ) (f := 48) rfl]; exact h6) (by rw [← nd_a (σ := σ) (f := 49) rfl]; exact h7) (fun t ht => by rw [← nd_a (σ := σ) (f := 44) rfl]; exact h8 t ht)
  obtain ⟨ρ', e2, hX, f2, w2⟩ := fl_r hk hzr (by omega) (fun t ht => by rw [← nd_a (σ := Ur ρ) (f := 44) rfl, ← (h.1.2.2.1 t (by omega)).1]; exact h8 t ht)
  have w1 := fl_kc h.2 h2 (by omega) w0
  refine ⟨σ', ρ', e1, e2, hX, f1, f2, kp_nr hM h h2 (by omega) (Nat.le_refl z) w1 (fl_kp h h2 (by omega) w2), fun f g1 g2 => ?_, fun j => ?_, fun f j hf => ?_, fun f g1 g2 => ?_⟩
  · have hnc : nc f = true := by simp only [nc, decide_eq_true_eq]; omega
    rw [← nd_a (σ := σ') hnc, ← nd_a (σ := σ) hnc]
    exact w1.2.2.2.2 f 0 (by omega) (by omega) (by omega) (by omega) (by omega) (by omega) (by omega)
  · rw [← nd_a (σ := Ur ρ') (f := 41) rfl, ← nd_a (σ := Ur ρ) (f := 41) rfl]
    exact w2.2.2.2 41 j (by omega) (by omega) (by omega) (by omega)
  · have := nc_lt hf
    rw [← nd_b (σ := Ur ρ') hf, ← nd_b (σ := Ur ρ) hf]
    exact w2.2.2.2 _ j (by omega) (by omega) (by omega) (by omega)
  · have hnc : nc f = true := by simp only [nc, decide_eq_true_eq]; omega
    rw [← nd_a (σ := Ur ρ') hnc, ← nd_a (σ := Ur ρ) hnc]
    exact w2.2.2.2 f 0 (by omega) (by omega) (by omega) (by omega)
