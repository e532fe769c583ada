/-! ===== an accept on both sides ===== -/
section LIT3
variable {A B C D E A' B' C' R R' : Type}
theorem lo65_it {sc : (A → B → C → D → E → Int32 → Option R) → A → B → C → D → E → Int32 → Option R} {sr : (A' → B' → C' → D → Int32 → Option R') → A' → B' → C' → D → Int32 → Option R'} (N : Nat) (P : Nat → A → B → C → D → E → A' → B' → C' → D → Prop) (Z : Option R → Option R' → Prop) (hs : ∀ i a b c d e a' b' c' d', i < N → P i a b c d e a' b' c' d' → ∃ a1 b1 c1 d1 e1 a2 b2 c2 d2, P (i + 1) a1 b1 c1 d1 e1 a2 b2 c2 d2 ∧ (∀ K, sc K a b c d e (nI i) = K a1 b1 c1 d1 e1 (nI (i + 1))) ∧ ∀ K, sr K a' b' c' d' (nI i) = K a2 b2 c2 d2 (nI (i + 1))) (he : ∀ a b c d e a' b' c' d' K K', P N a b c d e a' b' c' d' → Z (sc K a b c d e (nI N)) (sr K' a' b' c' d' (nI N))) : ∀ (n i f f' : Nat) (a : A) (b : B) (c : C) (d : D) (e : E) (a' : A') (b' : B') (c' : C') (d' : D), i + n = N → n < f → n < f' → P i a b c d e a' b' c' d' → Z (lo6 sc f a b c d e (nI i)) (lo5 sr f' a' b' c' d' (nI i)) := by
  intro n
  induction n with
  | zero =>
    intro i f f' a b c d e a' b' c' d' h1 h2 h3 hP
    obtain ⟨f, rfl⟩ : ∃ g, f = g + 1 := ⟨f - 1, by omega⟩
    obtain ⟨f', rfl⟩ : ∃ g, f' = g + 1 := ⟨f' - 1, by omega⟩
    have e : i = N := by omega
    subst e
    exact he a b c d _ a' b' c' d' _ _ hP
  | succ n ih =>
    intro i f f' a b c d e a' b' c' d' h1 h2 h3 hP
    obtain ⟨f, rfl⟩ : ∃ g, f = g + 1 := ⟨f - 1, by omega⟩
    obtain ⟨f', rfl⟩ : ∃ g, f' = g + 1 := ⟨f' - 1, by omega⟩
    obtain ⟨a1, b1, c1, d1, e1, a2, b2, c2, d2, hP', hc, hr⟩ := hs i a b c d e a' b' c' d' (by omega) hP
    show Z (sc (lo6 sc f) a b c d e (nI i)) (sr (lo5 sr f') a' b' c' d' (nI i))
    rw [hc, hr]
    exact ih (i + 1) f f' a1 b1 c1 d1 e1 a2 b2 c2 d2 (by omega) (by omega) (by omega) hP'
end LIT3
theorem nr_w {rq rq' : Prop} {B zc M : Nat} {n m : ND} (hq : rq' → rq) (h : NR rq B zc M n m) : NR rq' B zc M n m := by
  obtain ⟨⟨⟨e1, e2, e3, e4, e5, e6, e7, e8⟩, e9, e10, e11⟩, hI⟩ := h
  exact ⟨⟨⟨e1, e2, e3, e4, fun q => e5 (hq q), e6, e7, e8⟩, e9, e10, fun q => e11 (hq q)⟩, hI⟩
theorem nr_f29 {rq rq' : Prop} {B zc M : Nat} {n m : ND} {v : Int32} (hq : ¬ rq') (h : NR rq B zc M n m) : NR rq' B zc M n (nu m 29 0 v) := by
  obtain ⟨⟨⟨e1, e2, e3, e4, e5, e6, e7, e8⟩, e9, e10, e11⟩, hI⟩ := h
  unfold NR EN
  simp only [nu_n (show (25 : Nat) ≠ 29 by decide), nu_n (show (26 : Nat) ≠ 29 by decide), nu_n (show (27 : Nat) ≠ 29 by decide), nu_n (show (28 : Nat) ≠ 29 by decide), nu_n (show (60 : Nat) ≠ 29 by decide), nu_n (show (160 : Nat) ≠ 29 by decide), nu_n (show (83 : Nat) ≠ 29 by decide), nu_n (show (42 : Nat) ≠ 29 by decide), nu_n (show (43 : Nat) ≠ 29 by decide), nu_n (show (142 : Nat) ≠ 29 by decide), nu_n (show (143 : Nat) ≠ 29 by decide), nu_n (show (44 : Nat) ≠ 29 by decide), nu_n (show (45 : Nat) ≠ 29 by decide), nu_n (show (46 : Nat) ≠ 29 by decide), nu_n (show (41 : Nat) ≠ 29 by decide)]
  exact ⟨⟨⟨e1, e2, e3, e4, fun q => absurd q hq, e6, e7, e8⟩, e9, e10, fun q => absurd q hq⟩, hI⟩
theorem nu_id {n : ND} {f j : Nat} {v : Int32} (h : n f j = v) : nu n f j v = n := by
  funext g i
  simp only [nu]
  by_cases e : g = f ∧ i = j
  · rw [if_pos e]; obtain ⟨rfl, rfl⟩ := e; exact h.symm
  · rw [if_neg e]
theorem nr_fin {rq rq' : Prop} {B zc M : Nat} {n m : ND} (hm : m 29 0 = -1) (h : NR rq B zc M n m) : NR rq' B zc M (nu n 29 0 (-1)) m := by
  have h1 : NR False B zc M n m := nr_w False.elim h
  have h2 := nr_29 h1
  rw [nu_id hm] at h2
  obtain ⟨⟨⟨e1, e2, e3, e4, e5, e6, e7, e8⟩, e9, e10, e11⟩, hI⟩ := h2
  exact ⟨⟨⟨e1, e2, e3, e4, fun _ => by rw [nu_s, hm], e6, e7, e8⟩, e9, e10, fun _ q => absurd nu_s q⟩, hI⟩
theorem nr_w41 {rq : Prop} {B zc M s : Nat} {n m : ND} {w : Int32} (hw : vl w) (h : NR rq B zc M n m) : NR rq B zc M (nu n 41 s w) (nu m 41 s w) := by
  obtain ⟨⟨⟨e1, e2, e3, e4, e5, e6, e7, e8⟩, e9, e10, e11⟩, z, ⟨a1, a2, a3, a4⟩, ⟨c1, c2, c3, c4, c5⟩, hww, ⟨v1, v2⟩, hj, hr⟩ := h
  unfold NR EN IN IA IC IW IV IJ IR
  unfold IW at hww; unfold IJ at hj; unfold IR at hr
  simp only [nu_n (show (25 : Nat) ≠ 41 by decide), nu_n (show (26 : Nat) ≠ 41 by decide), nu_n (show (27 : Nat) ≠ 41 by decide), nu_n (show (28 : Nat) ≠ 41 by decide), nu_n (show (29 : Nat) ≠ 41 by decide), nu_n (show (60 : Nat) ≠ 41 by decide), nu_n (show (160 : Nat) ≠ 41 by decide), nu_n (show (83 : Nat) ≠ 41 by decide), nu_n (show (42 : Nat) ≠ 41 by decide), nu_n (show (43 : Nat) ≠ 41 by decide), nu_n (show (142 : Nat) ≠ 41 by decide), nu_n (show (143 : Nat) ≠ 41 by decide), nu_n (show (44 : Nat) ≠ 41 by decide), nu_n (show (45 : Nat) ≠ 41 by decide), nu_n (show (46 : Nat) ≠ 41 by decide), nu_n (show (47 : Nat) ≠ 41 by decide), nu_n (show (48 : Nat) ≠ 41 by decide), nu_n (show (49 : Nat) ≠ 41 by decide), nu_P (show (41 : Nat) ≠ 45 by decide), nu_B (show (41 : Nat) ≠ 44 by decide) (show (41 : Nat) ≠ 45 by decide), nu_V (show (41 : Nat) ≠ 44 by decide) (show (41 : Nat) ≠ 46 by decide)]
  refine ⟨⟨⟨e1, e2, e3, e4, e5, e6, e7, e8⟩, e9, e10, fun q hne s' hs' => ?_⟩, z, ⟨a1, a2, a3, a4⟩, ⟨c1, c2, c3, c4, c5⟩, hww, ⟨v1, v2⟩, hj, hr.imp id (fun k => ⟨k.1, k.2.1, k.2.2.1, fun s' hs' => ?_⟩)⟩
  · by_cases e : s' = s
    · subst e; rw [nu_s, nu_s]
    · simp [nu, e]; exact e11 q hne s' hs'
  · by_cases e : s' = s
    · subst e; rw [nu_s]; exact Or.inr hw
    · simp [nu, e]; exact k.2.2.2 s' hs'
set_option maxHeartbeats 4000000 in
/-- a node that gets an accept and refuses: the sender's round is over -/
theorem rf_3 {rqf : Nat → Prop} {B c zc N M L mb o i : Nat} {σ : CS} {ρ : RS} (ho : o < 7) (hi : i < 7) (hB : B < 2 ^ 31) (hc : zc ≤ 512) (hM : M ≤ 4) (zf : Nat → Nat) (hz : ∀ j, j < 7 → zf j ≤ zc) (hG : GR mb N M L σ (Ur ρ)) (hJ : JJN rqf B zf M σ (Ur ρ)) (hq : ∀ k, k ≠ o → rqf k) (hD : ∀ s, s < 4 → DR c s σ (Ur ρ)) : ∃ σ' ρ', (∀ x3 x4 x5, B_X5_agrees_41 i o x3 x4 x5 σ (σ 60 (7 + i) 0) 0 = some (σ', 0)) ∧ (∀ {T : Type} (kk : RS → Option T), (bd (F_X6_tell (rp ρ 24 0 (ρ.1 24 0 + 1)) (nI o) ((rp ρ 24 0 (ρ.1 24 0 + 1)).1 11 i)) fun ρ2 _ => lt (rp ρ2 18 o (-1)) fun ρ3 => if ρ3.1 3 0 = 0 then kk ρ3 else bd (F_X6_flush ρ3 (nI i)) fun a _ => kk a) = kk ρ') ∧ GR (mb + 1) N M L σ' (Ur ρ') ∧ JJN (fun k => k ≠ o) B zf M σ' (Ur ρ') ∧ (∀ s, s < 4 → DR c s σ' (Ur ρ')) ∧ Xr ρ' = Xr ρ ∧ (∀ f j, (70 ≤ f ∧ f ≤ 76 ∨ f = 40) → σ' f 0 j = σ f 0 j) ∧ (∀ f, 25 ≤ f → f ≤ 29 → f ≠ 28 → ∀ k, k < 7 → σ' f k 0 = σ f k 0) ∧ Ur ρ' 29 o 0 = -1 := by
  have hNi := hJ i hi
  have evp := hNi.1.q.2.2.2.2.2.2.1
  have hvp : b0 B (σ 60 (7 + i) 0) := by
    have := hNi.2.vp
    rw [show (160 : Nat) = 100 + 60 from rfl, nd_b rfl] at this
    exact this
  have hU1 : Ur (rp ρ 24 0 (ρ.1 24 0 + 1)) = pt (Ur ρ) 9 0 0 (Ur ρ 9 0 0 + 1) := by rw [Ur_rp um_24, Ur_rd um_24]
  have hG1 := GRm hG
  generalize hs1 : pt σ 9 0 0 (σ 9 0 0 + 1) = σ1 at hG1
  have hX1 : Xr (rp ρ 24 0 (ρ.1 24 0 + 1)) = Xr ρ := Xr_rp (by decide)
  generalize hr1 : rp ρ 24 0 (ρ.1 24 0 + 1) = ρ1 at hU1 hX1 ⊢
  rw [← hU1] at hG1
  have n1 : ∀ k, nd σ1 k = nd σ k := fun k => by rw [← hs1]; exact nd_pf rfl
  have m1 : ∀ k, nd (Ur ρ1) k = nd (Ur ρ) k := fun k => by rw [hU1]; exact nd_pf rfl
  have hJ1 : JJN rqf B zf M σ1 (Ur ρ1) := hJ.cg (fun k _ => n1 k) (fun k _ => m1 k) (fun _ => Nat.le_refl _)
  have s1 : ∀ f o j, f ≠ 9 → σ1 f o j = σ f o j := fun f o j hf => by rw [← hs1]; simp [pt, hf]
  have u1 : ∀ f o j, f ≠ 9 → Ur ρ1 f o j = Ur ρ f o j := fun f o j hf => by rw [hU1]; simp [pt, hf]
  have hvp1 : σ1 60 (7 + i) 0 = σ 60 (7 + i) 0 := s1 _ _ _ (by decide)
  have r11 : ρ1.1 11 i = σ 60 (7 + i) 0 := by rw [Ur_rd (um_11 hi), u1 _ _ _ (by decide), evp]
  obtain ⟨t1, t2, t3, t4, t5⟩ := tl_2 ho hB (hJ1 o ho) hvp
  generalize hs2 : pt σ1 28 o 0 (imax (σ1 28 o 0) (σ 60 (7 + i) 0)) = σ2 at t1 t5
  generalize hr2 : rp ρ1 7 o (imax (σ1 28 o 0) (σ 60 (7 + i) 0)) = ρ2 at t2 t3 t4
  rw [← t3] at t5
  have f1 : Fr o σ1 σ2 := by rw [← hs2]; exact Fr.pa rfl
  have hU3 : Ur (rp ρ2 18 o (-1)) = pt (Ur ρ2) 29 o 0 (-1) := Ur_rp (um_18 ho)
  have hX3 : Xr (rp ρ2 18 o (-1)) = Xr ρ2 := Xr_rp (by decide)
  have m3 : nd (Ur (rp ρ2 18 o (-1))) o = nu (nd (Ur ρ2) o) 29 0 (-1) := by rw [hU3]; exact nd_pa rfl
  have f2 : Fr o (Ur ρ1) (Ur (rp ρ2 18 o (-1))) := by rw [hU3, t3]; exact Fr.tr (Fr.pa rfl) (Fr.pa rfl)
  have h29 : Ur (rp ρ2 18 o (-1)) 29 o 0 = -1 := by rw [hU3]; simp [pt]
  generalize hr3 : rp ρ2 18 o (-1) = ρ3 at hU3 hX3 m3 f2 h29
  have hJ2 : JJN (fun k => k ≠ o) B zf M σ2 (Ur ρ3) := by
    have hb : JJN (fun k => k ≠ o) B zf M σ1 (Ur ρ1) := fun k hk => nr_w (fun e => hq k e) (hJ1 k hk)
    refine hb.fr ho f1 f2 (fun _ _ => Nat.le_refl _) ?_
    rw [m3]
    exact nr_f29 (fun q => q rfl) t5
  have hG2 := hG1.fr f1 f2
  have s2 : ∀ f o j, f ≠ 28 → σ2 f o j = σ1 f o j := fun f o j hf => by rw [← hs2]; simp [pt, hf]
  obtain ⟨σ3, ρ4, e1, e2, hX4, f3, f4, hN3, h25, h41, hvw⟩ := fin_2 hi hM (Nat.le_trans (hz i hi) hc) hG2.2.2.2.1.1 (hJ2 i hi)
  refine ⟨σ3, ρ4, fun x3 x4 x5 => ?_, fun {T} kk => ?_, hG2.fr f3 f4, hJ2.fr hi f3 f4 (fun _ _ => Nat.le_refl _) hN3, fun s hs => ?_, hX4.trans (hX3.trans (t4.trans hX1)), fun f j g1 => ?_, fun f g1 g2 g3 k hk => ?_, ?_⟩
  · unfold B_X5_agrees_41
    rw [hs1, lt_eq, if_pos rfl, t1, bd_s]
    exact e1 o x3 x4 x5 0 (Or.inl rfl)
  · rw [r11, t2, bd_s, lt_eq, hr3]
    exact e2 kk
  · refine (DR.fr (DR.fr (DR.cg (hD s hs) (fun f a b => s1 f s 0 (by omega)) (fun f a b => u1 f s 0 (by omega))) f1 f2) f3 f4)
  · rw [f3.o (nc_r g1), f1.o (nc_r g1), s1 _ _ _ (by omega)]
  · rw [f3.tn1 hi hk h25 f g1 g2, s2 _ _ _ g3, s1 _ _ _ (by omega)]
  · by_cases e : o = i
    · subst e
      rw [hvw.2 29 (by omega) (by omega), h29]
    · rw [f4 29 o 0 (fun q => by omega), h29]
