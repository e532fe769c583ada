theorem nu_comm {n : ND} {f j f' j' : Nat} {v v' : Int32} (h : f ≠ f') : nu (nu n f j v) f' j' v' = nu (nu n f' j' v') f j v := by
  funext g i
  simp only [nu]
  by_cases h1 : g = f' ∧ i = j'
  · rw [if_pos h1, if_neg (fun q => h (q.1.symm.trans h1.1)), if_pos h1]
  · rw [if_neg h1]
    by_cases h2 : g = f ∧ i = j
    · rw [if_pos h2, if_pos h2]
    · rw [if_neg h2, if_neg h2, if_neg h1]
theorem pt_id {σ : CS} {f i j : Nat} {v : Int32} (h : σ f i j = v) : pt σ f i j v = σ := by
  funext f' i' j'
  simp only [pt]
  by_cases e : f' = f ∧ i' = i ∧ j' = j
  · rw [if_pos e]; obtain ⟨rfl, rfl, rfl⟩ := e; exact h.symm
  · rw [if_neg e]
/-- the reference clears what it will hear -/
theorem pclr_r {ρ : RS} {o : Nat} {x b : Int32} (ho : o < 7) : ∃ ρ', B_X6_doPrepare_25 (nI o) x 4096 ρ b 0 0 = B_X6_doPrepare_60 (nI o) x 4096 ρ' b 0 0 ∧ Xr ρ' = Xr ρ ∧ (∀ f o' j, ¬ (((f = 42 ∧ o' = 14) ∨ (f = 41 ∧ o' = o)) ∧ j < 4) → Ur ρ' f o' j = Ur ρ f o' j) ∧ ∀ s, s < 4 → Ur ρ' 42 14 s = 0 ∧ Ur ρ' 41 o s = -1 := by
  unfold B_X6_doPrepare_25
  refine lo4_it 4 (fun i a v3 v4 => v3 = b ∧ v4 = 0 ∧ Xr a = Xr ρ ∧ (∀ f o' j, ¬ (((f = 42 ∧ o' = 14) ∨ (f = 41 ∧ o' = o)) ∧ j < i) → Ur a f o' j = Ur ρ f o' j) ∧ ∀ s, s < i → Ur a 42 14 s = 0 ∧ Ur a 41 o s = -1) (fun r => ∃ ρ', r = B_X6_doPrepare_60 (nI o) x 4096 ρ' b 0 0 ∧ Xr ρ' = Xr ρ ∧ (∀ f o' j, ¬ (((f = 42 ∧ o' = 14) ∨ (f = 41 ∧ o' = o)) ∧ j < 4) → Ur ρ' f o' j = Ur ρ f o' j) ∧ ∀ s, s < 4 → Ur ρ' 42 14 s = 0 ∧ Ur ρ' 41 o s = -1) ?_ ?_ 4 0 4096 ρ b 0 (by omega) (by omega) ⟨rfl, rfl, rfl, fun _ _ _ _ => rfl, fun s hs => by omega⟩
  · rintro i a v3 v4 hi ⟨rfl, rfl, hX, h1, h2⟩
    refine ⟨rp (rp a 29 i 0) 19 (4 * o + i) (-1), v3, 0, ⟨rfl, rfl, by rw [Xr_rp (by decide), Xr_rp (by decide), hX], fun f o' j hq => ?_, fun s hs => ?_⟩, fun K => ?_⟩
    · rw [Ur_rp (um_19 ho hi), Ur_rp (um_29 hi)]
      simp only [pt]
      rw [if_neg (by omega), if_neg (by omega)]
      exact h1 f o' j (by omega)
    · rw [Ur_rp (um_19 ho hi), Ur_rp (um_29 hi)]
      by_cases e : s = i
      · subst e
        simp [pt]
      · simp [pt, e]
        exact h2 s (by omega)
    · rw [if_neg (show ¬ (4 : Int32) ≤ nI i from nI_ge hi (by decide)), g4 hi, lt_eq, t4 hi, at_eq, bd_s, g28 ho hi, t28 ho hi, lt_eq, lt_eq, nI_1]
  · rintro a v3 v4 K ⟨rfl, rfl, hX, h1, h2⟩
    rw [if_pos (show (4 : Int32) ≤ nI 4 by decide)]
    exact ⟨a, rfl, hX, h1, h2⟩
theorem rs14 {σ : CS} : ∃ σ', F_X1_reset σ 14 = some (σ', ()) ∧ (∀ f o j, o ≠ 14 → σ' f o j = σ f o j) ∧ σ' 60 14 0 = 0 ∧ ∀ s, s < 4 → σ' 42 14 s = 0 ∧ σ' 43 14 s = -1 := by
  refine ⟨_, rfl, fun f o j ho => ?_, ?_, fun s hs => ?_⟩
  · simp [pf, pt, ho]
  · simp [pf, pt]
  · simp [pf, pt, hs]
set_option maxHeartbeats 4000000 in
theorem prep_2 {c N M L o : Nat} {x : Int32} {σ : CS} {ρ : RS} (ho : o < 7) (hc : c < 512) (h : Jc c N M L σ ρ) (hup : σ 25 o 0 = 1) (hjn : σ 26 o 0 = 1) : ∃ σ' ρ' r, F_X5_sendPrepare σ o x = some (σ', r) ∧ F_X6_doPrepare ρ (nI o) x = some (ρ', r) ∧ Xr ρ' = Xr ρ ∧ Jc (c + 1) N M L σ' ρ' ∧ ∀ f j, (70 ≤ f ∧ f ≤ 76 ∨ f = 40) → σ' f 0 j = σ f 0 j := by
  obtain ⟨hG, hJ, hD⟩ := h
  have hM : M ≤ 4 := hG.2.1.2.2.2
  have hN7 : N ≤ 7 := hG.1.2.2.2
  obtain ⟨⟨eE, z0, ⟨a1, a2, ⟨a, ha, ea⟩, a4⟩, _⟩, hvp0⟩ := And.intro (hJ o ho) (hJ o ho).2.vp
  obtain ⟨p, hp, ep⟩ := hvp0
  rw [nd_a rfl] at ea
  rw [show (160 : Nat) = 100 + 60 from rfl, nd_b rfl] at ep
  have q := eE.q
  have hbb := nb_le (a := max a p) ho
  have hbb0 := (nb_gt (a := max a p) (k := o)).1
  have hcB := next_c ho (show a < 2 ^ 30 by omega) (show p < 2 ^ 30 by omega) ea ep
  have hrB := next_r (ρ := ρ) ho (show a < 2 ^ 30 by omega) (show p < 2 ^ 30 by omega) (by rw [← q.2.2.2.1]; exact ea) (by rw [← q.2.2.2.2.2.2.1]; exact ep)
  generalize hbn : nb (max a p) o = bb at hbb hbb0 hcB hrB
  have hbB : bb ≤ 8 * c + 24 := by omega
  have hblB : bl (8 * c + 24) (nI bb) := ⟨bb, by omega, hbB, rfl⟩
  have hJ0 : JJN (fun _ => True) (8 * c + 24) (fun _ => c) M σ (Ur ρ) := hJ.mono (by omega) (fun _ => Nat.le_refl _)
  -- the class: round off, told, scratch clear
  have f1 : Fr o σ (pt σ 29 o 0 (-1)) := Fr.pa rfl
  have s1 : ∀ f i j, f ≠ 29 → pt σ 29 o 0 (-1) f i j = σ f i j := fun f i j hf => by simp [pt, hf]
  have n1 : nd (pt σ 29 o 0 (-1)) o = nu (nd σ o) 29 0 (-1) := nd_pa rfl
  have s29 : pt σ 29 o 0 (-1) 29 o 0 = -1 := by simp [pt]
  generalize hs1 : pt σ 29 o 0 (-1) = σ1 at f1 s1 n1 s29
  have e28 : σ1 28 o 0 = σ 28 o 0 := s1 _ _ _ (by decide)
  have f2 : Fr o σ1 (pt σ1 28 o 0 (imax (σ1 28 o 0) (nI bb))) := Fr.pa rfl
  have s2 : ∀ f i j, f ≠ 28 → pt σ1 28 o 0 (imax (σ1 28 o 0) (nI bb)) f i j = σ1 f i j := fun f i j hf => by simp [pt, hf]
  have n2 : nd (pt σ1 28 o 0 (imax (σ1 28 o 0) (nI bb))) o = nu (nd σ1 o) 28 0 (imax (σ1 28 o 0) (nI bb)) := nd_pa rfl
  generalize hs2 : pt σ1 28 o 0 (imax (σ1 28 o 0) (nI bb)) = σ2 at f2 s2 n2
  obtain ⟨σ3, er, r1, r2, r3⟩ := rs14 (σ := σ2)
  -- the reference: told, round off, row clear
  have r7 : ρ.1 7 o = σ 28 o 0 := by rw [Ur_rd (um_7 ho)]; exact q.2.2.2.1.symm
  have ht : F_X6_tell ρ (nI o) (nI bb) = some (rp ρ 7 o (imax (σ 28 o 0) (nI bb)), ()) := by rw [tell_r ho, r7]
  have hU2 : Ur (rp (rp ρ 7 o (imax (σ 28 o 0) (nI bb))) 18 o (-1)) = pt (pt (Ur ρ) 28 o 0 (imax (σ 28 o 0) (nI bb))) 29 o 0 (-1) := by rw [Ur_rp (um_18 ho), Ur_rp (um_7 ho)]
  have hX2 : Xr (rp (rp ρ 7 o (imax (σ 28 o 0) (nI bb))) 18 o (-1)) = Xr ρ := by rw [Xr_rp (by decide), Xr_rp (by decide)]
  have g2 : Fr o (Ur ρ) (Ur (rp (rp ρ 7 o (imax (σ 28 o 0) (nI bb))) 18 o (-1))) := by rw [hU2]; exact Fr.tr (Fr.pa rfl) (Fr.pa rfl)
  have m2 : nd (Ur (rp (rp ρ 7 o (imax (σ 28 o 0) (nI bb))) 18 o (-1))) o = nu (nu (nd (Ur ρ) o) 29 0 (-1)) 28 0 (imax (σ 28 o 0) (nI bb)) := by rw [hU2, nd_pa rfl, nd_pa rfl, nu_comm (by decide)]
  generalize hr2 : rp (rp ρ 7 o (imax (σ 28 o 0) (nI bb))) 18 o (-1) = ρ2 at hU2 hX2 g2 m2
  obtain ⟨ρ3, eb, hX3, k1, k2⟩ := pclr_r (ρ := ρ2) (x := x) (b := nI bb) ho
  have hNo : NR True (8 * c + 24) c M (nd σ2 o) (nd (Ur ρ2) o) := by
    rw [n2, n1, m2, e28]
    exact nr_28 (imax_b0 (by omega) ⟨a, by omega, ea⟩ hblB.b0) (nr_29 (hJ0 o ho))
  have hJ2 : JJN (fun _ => True) (8 * c + 24) (fun _ => c) M σ2 (Ur ρ2) := hJ0.fr ho (Fr.tr f1 f2) g2 (fun _ _ => Nat.le_refl _) hNo
  have n3 : ∀ k, k < 7 → nd σ3 k = nd σ2 k := fun k hk => nd_ext (fun f j _ => r1 f k j (by omega)) (fun f j _ => r1 f (7 + k) j (by omega))
  have h29 : σ2 29 o 0 = -1 := (s2 _ _ _ (by decide)).trans s29
  have hJ3 : JJN (fun _ => True) (8 * c + 24) (fun _ => c) M σ3 (Ur ρ3) := fun k hk => by
    rw [n3 k hk]
    refine nr_41' (hJ2 k hk) ?_ (fun f hf j => ?_)
    · by_cases e : k = o
      · subst e; exact Or.inl (by rw [nd_a rfl]; exact h29)
      · exact Or.inr (fun j => by rw [nd_a rfl, nd_a rfl]; exact k1 _ _ _ (by omega))
    · simp only [nd]
      by_cases hnc : nc f = true
      · simp only [hnc, if_true]; exact k1 f k j (by omega)
      · by_cases hn2 : 100 ≤ f ∧ nc (f - 100) = true
        · simp only [hnc, hn2, if_true, and_self]; simp; exact k1 _ _ _ (by omega)
        · simp [hnc, hn2]
  have hG3 : GR (7 * c) N M L σ3 (Ur ρ3) := (hG.fr (Fr.tr f1 f2) g2).cg (fun f j hf => r1 f 0 j (by decide)) (fun f j hf => k1 f 0 j (by omega))
  have hD3 : ∀ s, s < 4 → DR c s σ3 (Ur ρ3) := fun s hs => ((hD s hs).fr (Fr.tr f1 f2) g2).cg (fun f a b => r1 f s 0 (by omega)) (fun f a b => k1 f s 0 (by omega))
  have hrd3 : ∀ f j, (70 ≤ f ∧ f ≤ 76 ∨ f = 40) → σ3 f 0 j = σ f 0 j := fun f j a => by rw [r1 f 0 j (by decide), f2.o (nc_r a), f1.o (nc_r a)]
  have hsb : ∀ f, f ≠ 28 → f ≠ 29 → ∀ i, i < 7 → ∀ j, σ3 f i j = σ f i j := fun f h8 h9 i hi j => by rw [r1 f i j (by omega), s2 _ _ _ h8, s1 _ _ _ h9]
  unfold F_X5_sendPrepare F_X6_doPrepare
  rw [hcB, bd_s, lt_eq, hs1, show F_X3_tell σ1 o (nI bb) = some (σ2, ()) by unfold F_X3_tell; rw [hs2, lt_eq], bd_s, er, bd_s, hrB, bd_s, ht, bd_s, g7 ho, t7 ho, lt_eq, hr2, eb]
  unfold B_X5_sendPrepare_28 B_X6_doPrepare_60
  refine lo44_it N (PP c N M L o bb (Xr ρ) σ) (fun r1 r2 => ∃ (σ' : CS) (ρ' : RS) (r : Int32), r1 = some (σ', r) ∧ r2 = some (ρ', r) ∧ Xr ρ' = Xr ρ ∧ Jc (c + 1) N M L σ' ρ' ∧ ∀ f j, (70 ≤ f ∧ f ≤ 76 ∨ f = 40) → σ' f 0 j = σ f 0 j) ?_ ?_ N 0 8 4096 σ3 (nI bb) 0 ρ3 (nI bb) 0 (by omega) (by omega) (by omega) ⟨rfl, rfl, rfl, hG3, hJ3.mono (Nat.le_refl _) (fun _ => by rw [if_neg (by omega)]; exact Nat.le_refl _), hD3, hX3.trans hX2, hrd3, ⟨by rw [r1 _ _ _ (by omega)]; exact h29, by rw [hsb _ (by decide) (by decide) o ho]; exact hup, by rw [hsb _ (by decide) (by decide) o ho]; exact hjn⟩, fun s hs => by rw [(r3 s hs).1, (r3 s hs).2, (k2 s hs).1, (k2 s hs).2]; exact ⟨rfl, rfl, Or.inl ⟨rfl, rfl⟩⟩⟩
  · -- a step
    rintro i σ b pm ρ b' pm' hi ⟨rfl, rfl, rfl, hG, hJ, hD, hX, hrd, ⟨h29, h25, h26⟩, hSR⟩
    have hi7 : i < 7 := by omega
    have c6 : σ 6 0 0 = nI N := hG.1.1
    have d6 : ρ.1 1 0 = nI N := by rw [Ur_rd um_1]; exact hG.1.2.1
    have hNi := hJ i hi7
    have qi := hNi.1.q
    have hgl : gt x i (σ 25 i 0) (σ 26 i 0) ↔ gt x i (Ur ρ 25 i 0) (Ur ρ 26 i 0) := by rw [qi.1, qi.2.1]
    by_cases hg : gt x i (σ 25 i 0) (σ 26 i 0)
    · have hgr := hgl.mp hg
      obtain ⟨zi, ⟨b1, b2, _, _⟩, _⟩ := hNi.2
      rw [nd_a rfl] at b1 b2
      have u25 := isb_nz b1 hg.2.1
      have u26 := isb_nz b2 hg.2.2
      have evp := qi.2.2.2.2.2.2.1
      have r11 : ρ.1 11 i = σ 60 (7 + i) 0 := by rw [Ur_rd (um_11 hi7), evp]
      by_cases hle : nI bb ≤ σ 60 (7 + i) 0
      · obtain ⟨σ', ρ', e1, e2, hG', hJ', hD', hX', hrd', h2529, h14, h14r, h41⟩ := rf_2 (c := c) (zc := 512) (N := N) (L := L) ho hi7 (by omega) (Nat.le_refl _) hM _ (fun j _ => by split <;> omega) hG hJ hD
        refine ⟨σ', nI bb, pm', ρ', nI bb, pm', ⟨rfl, rfl, rfl, hG', hJ'.mono (Nat.le_refl _) zc_up, hD', hX'.trans hX, fun f a b => (hrd' f a b).trans (hrd f a b), ⟨(h2529 29 (by omega) (by omega) (by decide) o ho).trans h29, (h2529 25 (by omega) (by omega) (by decide) o ho).trans h25, (h2529 26 (by omega) (by omega) (by decide) o ho).trans h26⟩, fun s hs => by rw [h14, h14, h14r, h41 o ho]; exact hSR s hs⟩, fun K => ?_, fun K => ?_⟩
        · rw [c6, if_neg (nI_ge hi (by omega)), (gets_c hi7).1 hg, bd_s, if_neg (by decide), g7 hi7, t7 hi7]
          unfold F_X5_agrees
          rw [lt_eq, if_pos rfl, if_pos hle, e1, bd_s, if_pos rfl]
          unfold B_X5_sendPrepare_85
          rw [lt_eq, nI_1]
        · rw [d6, if_neg (nI_ge hi (by omega)), (gets_r hi7).1 hgr, bd_s, if_neg (by decide), g7 hi7, t7 hi7, r11, if_pos hle]
          have e3 := e2 (fun a => B_X6_doPrepare_169 (nI o) x K a (nI bb) pm' (nI i))
          rw [lt_eq] at e3
          unfold B_X6_doPrepare_95
          rw [lt_eq, if_pos rfl, g7 hi7, t7 hi7]
          unfold B_X6_doPrepare_156
          refine e3.trans ?_
          unfold B_X6_doPrepare_169
          rw [lt_eq, nI_1]
      · obtain ⟨σ2, σ', ρ', e1, et, e2, hG', hJ', hD', hX', hrd', h2529, hSR'⟩ := pr_2 (c := c) (zc := c) (N := N) (L := L) ho hi7 (by omega) hc hM _ (fun j => if j < i + 1 then c + 1 else c) (by rw [if_neg (by omega)]; exact Nat.le_refl _) (by rw [if_neg (by omega), if_pos (by omega)]; exact Nat.le_refl _) (fun j _ => zc_up j) hG hJ hD hblB u25 u26 h29 hSR
        refine ⟨σ', nI bb, pm' + 1, ρ', nI bb, pm' + 1, ⟨rfl, rfl, rfl, hG', hJ', hD', hX'.trans hX, fun f a b => (hrd' f a b).trans (hrd f a b), ⟨(h2529 29 (by omega) (by omega) o ho).trans h29, (h2529 25 (by omega) (by omega) o ho).trans h25, (h2529 26 (by omega) (by omega) o ho).trans h26⟩, hSR'⟩, fun K => ?_, fun K => ?_⟩
        · rw [c6, if_neg (nI_ge hi (by omega)), (gets_c hi7).1 hg, bd_s, if_neg (by decide), g7 hi7, t7 hi7]
          unfold F_X5_agrees
          rw [lt_eq, if_pos rfl, if_neg hle, e1, bd_s, if_neg (by decide), g7 hi7, et, bd_s, lt_eq]
          unfold B_X5_sendPrepare_85
          rw [lt_eq, nI_1]
        · rw [d6, if_neg (nI_ge hi (by omega)), (gets_r hi7).1 hgr, bd_s, if_neg (by decide), g7 hi7, t7 hi7, r11, if_neg hle]
          have e3 := e2 (fun a => B_X6_doPrepare_169 (nI o) x K a (nI bb) (pm' + 1) (nI i))
          rw [lt_eq] at e3
          unfold B_X6_doPrepare_95
          rw [lt_eq, if_neg (show ¬ (1 : Int32) = 0 by decide)]
          unfold B_X6_doPrepare_156
          refine e3.trans ?_
          unfold B_X6_doPrepare_169
          rw [lt_eq, nI_1]
    · have hgr : ¬ gt x i (Ur ρ 25 i 0) (Ur ρ 26 i 0) := fun q => hg (hgl.mpr q)
      refine ⟨σ, nI bb, pm', ρ, nI bb, pm', ⟨rfl, rfl, rfl, hG.mono (by omega), hJ.mono (Nat.le_refl _) zc_up, hD, hX, hrd, ⟨h29, h25, h26⟩, hSR⟩, fun K => ?_, fun K => ?_⟩
      · rw [c6, if_neg (nI_ge hi (by omega)), (gets_c hi7).2 hg, bd_s, if_pos rfl]
        unfold B_X5_sendPrepare_85
        rw [lt_eq, nI_1]
      · rw [d6, if_neg (nI_ge hi (by omega)), (gets_r hi7).2 hgr, bd_s, if_pos rfl]
        unfold B_X6_doPrepare_169
        rw [lt_eq, nI_1]
  · -- the end
    rintro σ b pm ρ b' pm' K K' ⟨rfl, rfl, rfl, hG, hJ, hD, hX, hrd, ⟨h29, h25, h26⟩, hSR⟩
    have c6 : σ 6 0 0 = nI N := hG.1.1
    have d6 : ρ.1 1 0 = nI N := by rw [Ur_rd um_1]; exact hG.1.2.1
    have hJe : JJN (fun _ => True) (8 * (c + 1) + 16) (fun _ => c + 1) M σ (Ur ρ) := hJ.mono (by omega) (fun j => by split <;> omega)
    rw [c6, d6, if_pos (nI_le (Nat.le_refl N) (by omega)), if_pos (nI_le (Nat.le_refl N) (by omega))]
    unfold F_X5_quorum F_X6_q
    rw [c6, d6, bd_s, bd_s]
    by_cases hq : pm' < nI N / 2 + 1
    · rw [if_pos hq, if_pos hq]
      unfold B_X5_sendPrepare_112 B_X6_doPrepare_194
      rw [g7 ho, t7 ho, lt_eq]
      have hid : Ur (rp ρ 18 o (-1)) = Ur ρ := by
        rw [Ur_rp (um_18 ho)]
        exact pt_id (((hJ o ho).1.q.2.2.2.2.1 trivial).symm.trans h29)
      exact ⟨σ, _, pm', rfl, rfl, (Xr_rp (by decide)).trans hX, ⟨by rw [hid]; exact hG.mono (by omega), by rw [hid]; exact hJe, fun s hs => by rw [hid]; exact (hD s hs).mono (by omega)⟩, hrd⟩
    · rw [if_neg hq, if_neg hq]
      unfold F_X3_openRound
      rw [lt_eq, lt_eq, bd_s]
      unfold B_X5_sendPrepare_112 B_X6_doPrepare_194
      rw [g7 ho, t7 ho, lt_eq]
      have hU : Ur (rp ρ 18 o (nI bb)) = pt (Ur ρ) 29 o 0 (nI bb) := Ur_rp (um_18 ho)
      have fr1 : Fr o σ (pcp (pt σ 29 o 0 (nI bb)) 41 o 43 14 4) := fun f i j hq => by
        simp only [pcp, pt]
        rw [if_neg (fun z => hq ⟨by rw [z.1]; rfl, Or.inl z.2.1⟩), if_neg (fun z => hq ⟨by rw [z.1]; rfl, Or.inl z.2.1⟩)]
      have fr2 : Fr o (Ur ρ) (Ur (rp ρ 18 o (nI bb))) := by rw [hU]; exact Fr.pa rfl
      refine ⟨_, _, pm', rfl, rfl, (Xr_rp (by decide)).trans hX, ⟨(hG.mono (by omega)).fr fr1 fr2, hJe.fr ho fr1 fr2 (fun _ _ => Nat.le_refl _) ?_, fun s hs => ((hD s hs).mono (by omega)).fr fr1 fr2⟩, fun f j a => by rw [fr1.o (nc_r a)]; exact hrd f j a⟩
      refine nr_rd (hJe o ho) (hblB.mono (by omega)) (by rw [nd_a rfl]; exact h25) (by rw [nd_a rfl]; exact h26) (fun f h1 h2 => ?_) (fun f h1 h2 => ?_) ?_ ?_ (fun s hs => ?_)
      · funext j
        simp only [nd, pcp, pt, h1, h2, false_and, if_false]
        by_cases hnc : nc f = true
        · simp [hnc]
        · by_cases hn2 : 100 ≤ f ∧ nc (f - 100) = true
          · have h7 : ¬ (7 + o = o) := by omega
            simp [hnc, hn2, h7]
          · simp [hnc, hn2]
      · rw [hU, nd_pa rfl]
        exact nu_n h2
      · rw [nd_a rfl]; simp [pcp, pt]
      · rw [hU, nd_pa rfl]; exact nu_s
      · rw [hU, nd_pa rfl, nu_n (by decide), nd_a rfl, nd_a rfl]
        obtain ⟨_, z2, z3⟩ := hSR s hs
        have e41 : pcp (pt σ 29 o 0 (nI bb)) 41 o 43 14 4 41 o s = σ 43 14 s := by simp [pcp, pt, hs]
        rw [e41]
        refine ⟨z2, ?_⟩
        rcases z3 with ⟨_, h2⟩ | ⟨_, h2, _⟩
        · exact Or.inl h2
        · exact Or.inr h2
