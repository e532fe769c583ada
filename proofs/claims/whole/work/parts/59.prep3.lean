def PP (c N M L o bb : Nat) (X0 : (Nat → Nat → Int32) × Int64) (σ0 : CS) (i : Nat) (σ : CS) (b p : Int32) (ρ : RS) (b' p' : Int32) : Prop := b = nI bb ∧ b' = nI bb ∧ p' = p ∧ GR (7 * c + i) N M L σ (Ur ρ) ∧ JJN (fun _ => True) (8 * c + 24) (fun j => if j < i then c + 1 else c) M σ (Ur ρ) ∧ (∀ s, s < 4 → DR c s σ (Ur ρ)) ∧ Xr ρ = X0 ∧ (∀ f j, (70 ≤ f ∧ f ≤ 76 ∨ f = 40) → σ f 0 j = σ0 f 0 j) ∧ (σ 29 o 0 = -1 ∧ σ 25 o 0 = 1 ∧ σ 26 o 0 = 1) ∧ ∀ s, s < 4 → σ 42 14 s = Ur ρ 42 14 s ∧ σ 43 14 s = Ur ρ 41 o s ∧ dk (8 * c + 24) M s (σ 42 14 s) (σ 43 14 s)
theorem zc_up {c i : Nat} : ∀ j, (if j < i then c + 1 else c) ≤ (if j < i + 1 then c + 1 else c) := fun j => by
  by_cases h : j < i
  · rw [if_pos h, if_pos (by omega)]
    exact Nat.le_refl _
  · rw [if_neg h]
    split <;> omega
theorem nc_r {f : Nat} (h : 70 ≤ f ∧ f ≤ 76 ∨ f = 40) : nc f = false := by simp only [nc, decide_eq_false_iff_not]; omega
theorem Fr.tn1 {k o : Nat} {σ σ' : CS} (h : Fr k σ σ') (hk : k < 7) (ho : o < 7) (h2 : ∀ f, 25 ≤ f → f ≤ 29 → σ' f k 0 = σ f k 0) : ∀ f, 25 ≤ f → f ≤ 29 → σ' f o 0 = σ f o 0 := fun f h3 h4 => by
  by_cases e : o = k
  · subst e; exact h2 f h3 h4
  · exact h f o 0 (fun q => by omega)
theorem dk_le {B M s : Nat} {b v b2 v2 : Int32} (hB : B < 2 ^ 31) (h : dk B M s b v) (h2 : dk B M s b2 v2) (hs : M ≤ s) : b ≤ b2 := by
  have e : b = 0 := by
    rcases h with ⟨h, _⟩ | ⟨_, _, h⟩
    · exact h
    · omega
  rw [e]
  rcases h2 with ⟨h, _⟩ | ⟨⟨q, _, h3, h4⟩, _, _⟩
  · rw [h]; exact Int32.le_refl _
  · rw [h4]; exact nI_pos' (by omega)
set_option maxHeartbeats 4000000 in
/-- a node that gets the message and refuses -/
theorem rf_2 {rqf : Nat → Prop} {B c zc N M L mb o i : Nat} {σ : CS} {ρ : RS} (ho : o < 7) (hi : i < 7) (hB : B < 2 ^ 31) (hc : zc ≤ 512) (hM : M ≤ 4) (zf : Nat → Nat) (hz : ∀ j, j < 7 → zf j ≤ zc) (hG : GR mb N M L σ (Ur ρ)) (hJ : JJN rqf B zf M σ (Ur ρ)) (hD : ∀ s, s < 4 → DR c s σ (Ur ρ)) : ∃ σ' ρ', (∀ x3 x4 x5, B_X5_agrees_41 i o x3 x4 x5 σ (σ 60 (7 + i) 0) 0 = some (σ', 0)) ∧ (∀ {T : Type} (kk : RS → Option T), (lt (rp ρ 24 0 (ρ.1 24 0 + 1)) fun ρ1 => bd (F_X6_tell ρ1 (nI o) (ρ1.1 11 i)) fun ρ2 _ => if ρ2.1 3 0 = 0 then kk ρ2 else bd (F_X6_flush ρ2 (nI i)) fun a _ => kk a) = kk ρ') ∧ GR (mb + 1) N M L σ' (Ur ρ') ∧ JJN rqf B zf M σ' (Ur ρ') ∧ (∀ s, s < 4 → DR c s σ' (Ur ρ')) ∧ Xr ρ' = Xr ρ ∧ (∀ f j, (70 ≤ f ∧ f ≤ 76 ∨ f = 40) → σ' f 0 j = σ f 0 j) ∧ (∀ f, 25 ≤ f → f ≤ 29 → f ≠ 28 → ∀ k, k < 7 → σ' f k 0 = σ f k 0) ∧ (∀ f j, σ' f 14 j = σ f 14 j) ∧ (∀ f j, Ur ρ' f 14 j = Ur ρ f 14 j) ∧ ∀ k, k < 7 → ∀ j, Ur ρ' 41 k j = Ur ρ 41 k j := by
  have hNi := hJ i hi
  have evp := hNi.1.q.2.2.2.2.2.2.1
  have hvp : b0 B (σ 60 (7 + i) 0) := by
    have := hNi.2.vp
    rw [show (160 : Nat) = 100 + 60 from rfl, nd_b rfl] at this
    exact this
  have hU1 : Ur (rp ρ 24 0 (ρ.1 24 0 + 1)) = pt (Ur ρ) 9 0 0 (Ur ρ 9 0 0 + 1) := by rw [Ur_rp um_24, Ur_rd um_24]
  have hG1 := GRm hG
  generalize hs1 : pt σ 9 0 0 (σ 9 0 0 + 1) = σ1 at hG1
  generalize hr1 : rp ρ 24 0 (ρ.1 24 0 + 1) = ρ1 at hU1
  rw [← hU1] at hG1
  have hX1 : Xr ρ1 = Xr ρ := by rw [← hr1]; exact Xr_rp (by decide)
  have n1 : ∀ k, nd σ1 k = nd σ k := fun k => by rw [← hs1]; exact nd_pf rfl
  have m1 : ∀ k, nd (Ur ρ1) k = nd (Ur ρ) k := fun k => by rw [hU1]; exact nd_pf rfl
  have hJ1 : JJN rqf B zf M σ1 (Ur ρ1) := hJ.cg (fun k _ => n1 k) (fun k _ => m1 k) (fun _ => Nat.le_refl _)
  have s1 : ∀ f o j, f ≠ 9 → σ1 f o j = σ f o j := fun f o j hf => by rw [← hs1]; simp [pt, hf]
  have u1 : ∀ f o j, f ≠ 9 → Ur ρ1 f o j = Ur ρ f o j := fun f o j hf => by rw [hU1]; simp [pt, hf]
  have hvp1 : σ1 60 (7 + i) 0 = σ 60 (7 + i) 0 := s1 _ _ _ (by decide)
  have r11 : ρ1.1 11 i = σ 60 (7 + i) 0 := by rw [Ur_rd (um_11 hi), u1 _ _ _ (by decide), evp]
  obtain ⟨t1, t2, t3, t4, t5⟩ := tl_2 ho hB (hJ1 o ho) hvp
  generalize hs2 : pt σ1 28 o 0 (imax (σ1 28 o 0) (σ 60 (7 + i) 0)) = σ2 at t1 t5
  generalize hr2 : rp ρ1 7 o (imax (σ1 28 o 0) (σ 60 (7 + i) 0)) = ρ2 at t2 t3 t4
  rw [← t3] at t5
  have f1 : Fr o σ1 σ2 := by rw [← hs2]; exact Fr.pa rfl
  have f2 : Fr o (Ur ρ1) (Ur ρ2) := by rw [t3]; exact Fr.pa rfl
  have hJ2 : JJN rqf B zf M σ2 (Ur ρ2) := hJ1.fr ho f1 f2 (fun _ _ => Nat.le_refl _) t5
  have hG2 := hG1.fr f1 f2
  have s2 : ∀ f o j, f ≠ 28 → σ2 f o j = σ1 f o j := fun f o j hf => by rw [← hs2]; simp [pt, hf]
  have u2 : ∀ f o j, f ≠ 28 → Ur ρ2 f o j = Ur ρ1 f o j := fun f o j hf => by rw [t3]; simp [pt, hf]
  obtain ⟨σ3, ρ3, e1, e2, hX3, f3, f4, hN3, h25, h41, hvw⟩ := fin_2 hi hM (Nat.le_trans (hz i hi) hc) hG2.2.2.2.1.1 (hJ2 i hi)
  refine ⟨σ3, ρ3, fun x3 x4 x5 => ?_, fun {T} kk => ?_, hG2.fr f3 f4, hJ2.fr hi f3 f4 (fun _ _ => Nat.le_refl _) hN3, fun s hs => ?_, hX3.trans (t4.trans hX1), fun f j g1 => ?_, fun f g1 g2 g3 k hk => ?_, fun f j => ?_, fun f j => ?_, fun k hk j => ?_⟩
  · unfold B_X5_agrees_41
    rw [hs1, lt_eq, if_pos rfl, t1, bd_s]
    exact e1 o x3 x4 x5 0 (Or.inl rfl)
  · rw [lt_eq, r11, t2, bd_s]
    exact e2 kk
  · refine (DR.fr (DR.fr (DR.cg (hD s hs) (fun f a b => s1 f s 0 (by omega)) (fun f a b => u1 f s 0 (by omega))) f1 f2) f3 f4)
  · rw [f3.o (nc_r g1), f1.o (nc_r g1), s1 _ _ _ (by omega)]
  · rw [f3.tn1 hi hk h25 f g1 g2, s2 _ _ _ g3, s1 _ _ _ (by omega)]
  · rw [f3.s hi, f1.s ho]
    by_cases hf : f = 9
    · subst hf; rw [← hs1]; simp [pt]
    · exact s1 _ _ _ hf
  · rw [f4.s hi, f2.s ho]
    by_cases hf : f = 9
    · subst hf; rw [hU1]; simp [pt]
    · exact u1 _ _ _ hf
  · have : Ur ρ3 41 k j = Ur ρ2 41 k j := by
      by_cases e : k = i
      · subst e; exact h41 j
      · exact f4 41 k j (fun q => by omega)
    rw [this, u2 _ _ _ (by decide), u1 _ _ _ (by decide)]
