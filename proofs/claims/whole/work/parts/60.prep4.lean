set_option maxHeartbeats 4000000 in
/-- a node that gets a prepare and promises -/
theorem pr_2 {rqf : Nat → Prop} {B c zc N M L mb o i : Nat} {σ : CS} {ρ : RS} {b : Int32} (ho : o < 7) (hi : i < 7) (hB : B < 2 ^ 31) (hc : zc < 512) (hM : M ≤ 4) (zf zf' : Nat → Nat) (hz : zf i ≤ zc) (hz' : zf i + 1 ≤ zf' i) (hz2 : ∀ j, j ≠ i → zf j ≤ zf' j) (hG : GR mb N M L σ (Ur ρ)) (hJ : JJN rqf B zf M σ (Ur ρ)) (hD : ∀ s, s < 4 → DR c s σ (Ur ρ)) (hb : bl B b) (hup : σ 25 i 0 = 1) (hjn : σ 26 i 0 = 1) (h29 : σ 29 o 0 = -1) (hSR : ∀ s, s < 4 → σ 42 14 s = Ur ρ 42 14 s ∧ σ 43 14 s = Ur ρ 41 o s ∧ dk B M s (σ 42 14 s) (σ 43 14 s)) :
    ∃ σ2 σ' ρ', (∀ p, B_X5_agrees_41 i o (-1) b (-1) σ p 1 = some (σ2, 1)) ∧ F_X1_takeNewer σ2 14 (7 + i) = some (σ', ()) ∧ (∀ {T : Type} (kk : RS → Option T), (lt (rp ρ 24 0 (ρ.1 24 0 + 1)) fun ρ1 => bd (F_X6_write ρ1 (nI i) (-1) b (-1)) fun ρ2 _ => bd (F_X6_hear ρ2 (nI o) (nI i)) fun ρ3 _ => lt (rp ρ3 25 0 (ρ3.1 25 0 + 1)) fun ρ4 => if ρ4.1 3 0 = 0 then kk ρ4 else bd (F_X6_flush ρ4 (nI i)) fun a _ => kk a) = kk ρ') ∧ GR (mb + 1) N M L σ' (Ur ρ') ∧ JJN rqf B zf' M σ' (Ur ρ') ∧ (∀ s, s < 4 → DR c s σ' (Ur ρ')) ∧ Xr ρ' = Xr ρ ∧ (∀ f j, (70 ≤ f ∧ f ≤ 76 ∨ f = 40) → σ' f 0 j = σ f 0 j) ∧ (∀ f, 25 ≤ f → f ≤ 29 → ∀ k, k < 7 → σ' f k 0 = σ f k 0) ∧ ∀ s, s < 4 → σ' 42 14 s = Ur ρ' 42 14 s ∧ σ' 43 14 s = Ur ρ' 41 o s ∧ dk B M s (σ' 42 14 s) (σ' 43 14 s) := by
  have hU1 : Ur (rp ρ 24 0 (ρ.1 24 0 + 1)) = pt (Ur ρ) 9 0 0 (Ur ρ 9 0 0 + 1) := by rw [Ur_rp um_24, Ur_rd um_24]
  have hGm := GRma hG
  generalize hr1 : rp ρ 24 0 (ρ.1 24 0 + 1) = ρ1 at hU1
  have hX1 : Xr ρ1 = Xr ρ := by rw [← hr1]; exact Xr_rp (by decide)
  have m1 : ∀ k, nd (Ur ρ1) k = nd (Ur ρ) k := fun k => by rw [hU1]; exact nd_pf rfl
  have u1 : ∀ f o j, f ≠ 9 → Ur ρ1 f o j = Ur ρ f o j := fun f o j hf => by rw [hU1]; simp [pt, hf]
  have s1 : ∀ f o j, f ≠ 9 → f ≠ 10 → pt (pt σ 9 0 0 (σ 9 0 0 + 1)) 10 0 0 (pt σ 9 0 0 (σ 9 0 0 + 1) 10 0 0 + 1) f o j = σ f o j := fun f o j h1 h2 => by simp [pt, h1, h2]
  have n1 : ∀ k, nd (pt (pt σ 9 0 0 (σ 9 0 0 + 1)) 10 0 0 (pt σ 9 0 0 (σ 9 0 0 + 1) 10 0 0 + 1)) k = nd σ k := fun k => by rw [nd_pf rfl, nd_pf rfl]
  have c9 : pt (pt σ 9 0 0 (σ 9 0 0 + 1)) 10 0 0 (pt σ 9 0 0 (σ 9 0 0 + 1) 10 0 0 + 1) 9 0 0 = σ 9 0 0 + 1 := by simp [pt]
  have c10 : pt (pt σ 9 0 0 (σ 9 0 0 + 1)) 10 0 0 (pt σ 9 0 0 (σ 9 0 0 + 1) 10 0 0 + 1) 10 0 0 = σ 10 0 0 + 1 := by simp [pt]
  generalize hs1 : pt (pt σ 9 0 0 (σ 9 0 0 + 1)) 10 0 0 (pt σ 9 0 0 (σ 9 0 0 + 1) 10 0 0 + 1) = σc at s1 n1 c9 c10
  have hNi : NR (rqf i) B (zf i) M (nd σc i) (nd (Ur ρ1) i) := by rw [n1, m1]; exact hJ i hi
  obtain ⟨σ1, ρ2, e1, e2, hX2, f1, f2, hN1, h25, h41⟩ := wr_2 (σ := σc) (x := -1) (b := b) (v := -1) hi hM (by omega) hNi ⟨hb, Or.inl rfl⟩ (by rw [s1 _ _ _ (by decide) (by decide)]; exact hup) (by rw [s1 _ _ _ (by decide) (by decide)]; exact hjn)
  have rM : Ur ρ2 7 0 0 = nI M := by rw [f2.o (nc_g (by omega)), u1 _ _ _ (by decide)]; exact hG.2.1.2.1
  obtain ⟨ρ3, e3, hX3, hr3, hr4⟩ := hear_r (k := i) ho hi rM hM
  have hU4 : Ur (rp ρ3 25 0 (ρ3.1 25 0 + 1)) = pt (Ur ρ3) 10 0 0 (Ur ρ3 10 0 0 + 1) := by rw [Ur_rp um_25, Ur_rd um_25]
  generalize hr5 : rp ρ3 25 0 (ρ3.1 25 0 + 1) = ρ4 at hU4
  have hX4 : Xr ρ4 = Xr ρ3 := by rw [← hr5]; exact Xr_rp (by decide)
  have u4 : ∀ f o j, f ≠ 10 → Ur ρ4 f o j = Ur ρ3 f o j := fun f o j hf => by rw [hU4]; simp [pt, hf]
  have p9 : Ur ρ4 9 0 0 = Ur ρ 9 0 0 + 1 := by rw [u4 _ _ _ (by decide), hr3 _ _ _ (by omega), f2.o (nc_g (by omega)), hU1]; simp [pt]
  have p10 : Ur ρ4 10 0 0 = Ur ρ 10 0 0 + 1 := by rw [hU4]; simp [pt]; rw [hr3 _ _ _ (by omega), f2.o (nc_g (by omega)), u1 _ _ _ (by decide)]
  have hG4 : GR (mb + 1) N M L σ1 (Ur ρ4) := by
    refine hGm.cg (fun f j hf => ?_) (fun f j hf => ?_)
    · by_cases e9 : f = 9
      · subst e9
        by_cases ej : j = 0
        · subst ej; rw [f1.o (nc_g hf), c9]; simp [pt]
        · rw [f1.o (nc_g hf), ← hs1]; simp [pt, ej]
      · by_cases e10 : f = 10
        · subst e10
          by_cases ej : j = 0
          · subst ej; rw [f1.o (nc_g hf), c10]; simp [pt]
          · rw [f1.o (nc_g hf), ← hs1]; simp [pt, ej]
        · rw [f1.o (nc_g hf), s1 f 0 j e9 e10]; simp [pt, e9, e10]
    · by_cases e9 : f = 9
      · subst e9
        by_cases ej : j = 0
        · subst ej; rw [p9]; simp [pt]
        · rw [u4 _ _ _ (by decide), hr3 _ _ _ (by omega), f2.o (nc_g hf), hU1]; simp [pt, ej]
      · by_cases e10 : f = 10
        · subst e10
          by_cases ej : j = 0
          · subst ej; rw [p10]; simp [pt]
          · rw [hU4]; simp [pt, ej]; rw [hr3 _ _ _ (by omega), f2.o (nc_g hf), u1 _ _ _ (by decide)]
        · rw [u4 _ _ _ e10, hr3 _ _ _ (by omega), f2.o (nc_g hf), u1 _ _ _ e9]; simp [pt, e9, e10]
  -- the nodes
  have h29' : nd σ1 o 29 0 = -1 := by rw [nd_a rfl, f1.tn1 hi ho h25 29 (by omega) (by omega), s1 _ _ _ (by decide) (by decide)]; exact h29
  have m4 : ∀ k, k < 7 → ∀ f, f ≠ 41 → ∀ j, nd (Ur ρ4) k f j = nd (Ur ρ2) k f j := fun k hk f hf j => by
    have e0 : nd (Ur ρ4) k = nd (Ur ρ3) k := by rw [hU4]; exact nd_pf rfl
    rw [e0]
    simp only [nd]
    by_cases hnc : nc f = true
    · simp only [hnc, if_true]; exact hr3 f k j (by omega)
    · by_cases hn2 : 100 ≤ f ∧ nc (f - 100) = true
      · simp only [hnc, hn2, if_true, and_self]; simp; exact hr3 _ _ _ (by omega)
      · simp [hnc, hn2]
  have m41 : ∀ k, k < 7 → k ≠ o → ∀ j, nd (Ur ρ4) k 41 j = nd (Ur ρ2) k 41 j := fun k hk hne j => by
    rw [nd_a rfl, nd_a rfl, u4 _ _ _ (by decide)]; exact hr3 _ _ _ (by omega)
  have hJ4 : JJN rqf B zf' M σ1 (Ur ρ4) := fun k hk => by
    have base : NR (rqf k) B (zf' k) M (nd σ1 k) (nd (Ur ρ2) k) := by
      by_cases e : k = i
      · subst e; exact hN1.mono (Nat.le_refl _) hz'
      · rw [f1.node hk hi e, n1, f2.node hk hi e, m1]
        exact (hJ k hk).mono (Nat.le_refl _) (hz2 k e)
    refine nr_41' base ?_ (m4 k hk)
    by_cases e : k = o
    · subst e; exact Or.inl h29'
    · exact Or.inr (m41 k hk e)
  obtain ⟨σ3, ρ5, g1, g2, hX5, f3, f4, hN5, k25, k41, kvw⟩ := fin_2 (zc := zf i + 1) hi hM (by omega) hG4.2.2.2.1.1 (by
    refine nr_41' (m := nd (Ur ρ2) i) hN1 ?_ (m4 i hi)
    by_cases e : i = o
    · subst e; exact Or.inl h29'
    · exact Or.inr (m41 i hi e))
  obtain ⟨σ', t1, t2, t3⟩ := tk_c (σ := σ3) (o1 := 7 + i) (by omega)
  have hJ5 : JJN rqf B zf' M σ3 (Ur ρ5) := hJ4.fr hi f3 f4 (fun _ _ => Nat.le_refl _) (hN5.mono (Nat.le_refl _) hz')
  have n5 : ∀ k, k < 7 → nd σ' k = nd σ3 k := fun k hk => nd_ext (fun f j _ => t2 f k j (by omega)) (fun f j _ => t2 f (7 + k) j (by omega))
  have v14 : ∀ s, s < 4 → σ3 42 14 s = σ 42 14 s ∧ σ3 43 14 s = σ 43 14 s := fun s hs => by
    rw [f3.s hi, f3.s hi, f1.s hi, f1.s hi, s1 _ _ _ (by decide) (by decide), s1 _ _ _ (by decide) (by decide)]; exact ⟨rfl, rfl⟩
  have w14 : ∀ s, Ur ρ2 42 14 s = Ur ρ 42 14 s := fun s => by rw [f2.s hi, u1 _ _ _ (by decide)]
  have w41 : ∀ s, Ur ρ2 41 o s = Ur ρ 41 o s := fun s => by
    by_cases e : o = i
    · subst e; rw [h41.1, u1 _ _ _ (by decide)]
    · rw [f2 41 o s (fun q => by omega), u1 _ _ _ (by decide)]
  have x14 : ∀ s, Ur ρ5 42 14 s = Ur ρ3 42 14 s := fun s => by rw [f4.s hi, u4 _ _ _ (by decide)]
  have x41 : ∀ s, Ur ρ5 41 o s = Ur ρ3 41 o s := fun s => by
    by_cases e : o = i
    · subst e; rw [k41, u4 _ _ _ (by decide)]
    · rw [f4 41 o s (fun q => by omega), u4 _ _ _ (by decide)]
  have vv : ∀ s, s < 4 → σ3 42 (7 + i) s = Ur ρ2 42 (7 + i) s ∧ σ3 43 (7 + i) s = Ur ρ2 43 (7 + i) s := fun s hs => by
    obtain ⟨_, _, q3, q4⟩ := hN5.1.s hs
    rw [q3, q4, kvw.1 42 s rfl, kvw.1 43 s rfl, u4 _ _ _ (by decide), u4 _ _ _ (by decide), hr3 _ _ _ (by omega), hr3 _ _ _ (by omega)]
    exact ⟨rfl, rfl⟩
  have vdk : ∀ s, s < 4 → dk B M s (σ3 42 (7 + i) s) (σ3 43 (7 + i) s) := fun s hs => by
    have := hN5.2.vd hM s hs
    rw [show (142 : Nat) = 100 + 42 from rfl, show (143 : Nat) = 100 + 43 from rfl, nd_b rfl, nd_b rfl] at this
    exact this
  refine ⟨σ3, σ', ρ5, fun p => ?_, t1, fun {T} kk => ?_, ?_, hJ5.cg n5 (fun _ _ => rfl) (fun _ => Nat.le_refl _), fun s hs => ?_, hX5.trans (hX4.trans (hX3.trans (hX2.trans hX1))), fun f j a1 => ?_, fun f a1 a2 k hk => ?_, fun s hs => ?_⟩
  · unfold B_X5_agrees_41
    rw [lt_eq, if_neg (by decide), lt_eq, hs1, e1, bd_s]
    exact g1 _ _ _ _ 1 (Or.inr rfl)
  · rw [lt_eq, e2, bd_s, e3, bd_s, lt_eq, hr5]
    exact g2 kk
  · exact (hG4.fr f3 f4).cg (fun f j hf => t2 f 0 j (by omega)) (fun _ _ _ => rfl)
  · refine DR.cg (DR.fr (DR.cg (DR.fr (DR.cg (hD s hs) (fun f a b => s1 f s 0 (by omega) (by omega)) (fun f a b => u1 f s 0 (by omega))) f1 f2) (fun _ _ _ => rfl) (fun f a b => ?_)) f3 f4) (fun f a b => t2 f s 0 (by omega)) (fun _ _ _ => rfl)
    rw [u4 _ _ _ (by omega), hr3 _ _ _ (by omega)]
  · rw [t2 _ _ _ (by omega), f3.o (nc_r a1), f1.o (nc_r a1), s1 _ _ _ (by omega) (by omega)]
  · rw [t2 _ _ _ (by omega), f3.tn1 hi hk k25 f a1 a2, f1.tn1 hi hk h25 f a1 a2, s1 _ _ _ (by omega) (by omega)]
  · obtain ⟨z1, z2, z3⟩ := hSR s hs
    obtain ⟨y1, y2⟩ := t3 s hs
    obtain ⟨q1, q2⟩ := v14 s hs
    obtain ⟨q3, q4⟩ := vv s hs
    rw [y1, y2, x14, x41, q1, q2]
    by_cases hsM : s < M
    · obtain ⟨r1, r2⟩ := hr4 s hsM
      rw [r1, r2, w14, w41, ← q3, ← q4, ← z1, ← z2]
      refine ⟨rfl, rfl, ?_⟩
      by_cases hcmp : σ3 42 (7 + i) s ≤ σ 42 14 s
      · rw [if_pos hcmp, if_pos hcmp]; exact z3
      · rw [if_neg hcmp, if_neg hcmp]; exact vdk s hs
    · have hcmp : σ3 42 (7 + i) s ≤ σ 42 14 s := dk_le hB (vdk s hs) z3 (by omega)
      rw [if_pos hcmp, if_pos hcmp, hr3 _ _ _ (by omega), hr3 _ _ _ (by omega), w14, w41]
      exact ⟨z1, z2, z3⟩
