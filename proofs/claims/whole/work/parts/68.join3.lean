set_option maxHeartbeats 4000000 in
theorem join_2 {c N M L o : Nat} {x : Int32} {σ : CS} {ρ : RS} (ho : o < 7) (hc : c ≤ 512) (h : Jc c N M L σ ρ) (hjn : σ 26 o 0 = 0) : ∃ σ' ρ' r, F_X5_readFromOthers σ o x = some (σ', r) ∧ F_X6_doJoin ρ (nI o) x = some (ρ', r) ∧ Xr ρ' = Xr ρ ∧ Jc c N M L σ' ρ' ∧ ∀ f j, (70 ≤ f ∧ f ≤ 76 ∨ f = 40) → σ' f 0 j = σ f 0 j := by
  obtain ⟨hG, hJ, hD⟩ := h
  have hM : M ≤ 4 := hG.2.1.2.2.2
  have hN7 : N ≤ 7 := hG.1.2.2.2
  have d6 : ρ.1 1 0 = nI N := by rw [Ur_rd um_1]; exact hG.1.2.1
  have hB : 8 * c + 16 < 2 ^ 31 := by omega
  have hgo : ¬ gt x o (σ 25 o 0) (σ 26 o 0) := fun q => q.2.2 hjn
  have hgl : ∀ i, i < 7 → (gt x i (σ 25 i 0) (σ 26 i 0) ↔ gt x i (Ur ρ 25 i 0) (Ur ρ 26 i 0)) := fun i hi => by rw [(hJ i hi).1.q.1, (hJ i hi).1.q.2.1]
  obtain ⟨σ1, k1, k2, k3, hcl⟩ := rd_c (o := o) (x := x) hG.1.1 hN7
  have hcnt : F_X6_doJoin ρ (nI o) x = (if nI N / 2 + 1 ≤ sm N (gn x σ) then B_X6_doJoin_64 (nI o) x 4096 (rp ρ 8 o 0) (sm N (gn x σ)) 0 else some (ρ, sm N (gn x σ))) := by
    unfold F_X6_doJoin B_X6_doJoin_5
    refine lo3_sum ρ N (gn x σ) (fun acc => if nI N / 2 + 1 ≤ acc then B_X6_doJoin_64 (nI o) x 4096 (rp ρ 8 o 0) acc 0 else some (ρ, acc)) (fun K acc i hi => ?_) (fun K acc => ?_) 4096 (by omega)
    · have hi7 : i < 7 := by omega
      rw [d6, if_neg (nI_ge hi (by omega))]
      unfold B_X6_doJoin_35 B_X6_doJoin_36
      by_cases e : i = o
      · subst e
        rw [if_pos rfl, lt_eq, lt_eq, nI_1, gn_f hgo]
      · rw [if_neg (fun q => e (nI_inj (by omega) (by omega) q))]
        rcases gt_dec x i (σ 25 i 0) (σ 26 i 0) with hg | hg
        · rw [(gets_r hi7).1 ((hgl i hi7).mp hg), bd_s, if_neg (by decide), lt_eq, lt_eq, nI_1, gn_t hg]
        · rw [(gets_r hi7).2 (fun q => hg ((hgl i hi7).mpr q)), bd_s, if_pos rfl, lt_eq, lt_eq, nI_1, gn_f hg]
    · rw [d6, if_pos (nI_le (Nat.le_refl N) (by omega))]
      unfold F_X6_q
      rw [d6, bd_s, g7 ho, t7 ho, lt_eq]
  have n1 : ∀ k, k < 7 → nd σ1 k = nd σ k := fun k hk => nd_ext (fun f j _ => k1 f k j (by omega)) (fun f j _ => k1 f (7 + k) j (by omega))
  rw [hcl, hcnt]
  by_cases hq : sm N (gn x σ) < nI N / 2 + 1
  · rw [if_pos hq, if_neg (fun z => Int32.lt_irrefl (Int32.lt_of_lt_of_le hq z))]
    exact ⟨σ1, ρ, _, rfl, rfl, rfl, ⟨hG.cg (fun f j hf => k1 f 0 j (by decide)) (fun _ _ _ => rfl), hJ.cg n1 (fun _ _ => rfl) (fun _ => Nat.le_refl _), fun s hs => (hD s hs).cg (fun f a b => k1 f s 0 (by omega)) (fun _ _ _ => rfl)⟩, fun f j a => k1 f 0 j (by decide)⟩
  · rw [if_neg hq, if_pos (Int32.not_lt.mp hq)]
    generalize sm N (gn x σ) = S
    -- the reference
    have hNo := hJ o ho
    have qo := hNo.1.q
    obtain ⟨⟨⟨e1, e2, e3, e4, e5, e6, e7, e8⟩, e9, e10, e11⟩, z, ⟨a1, a2, a3, a4⟩, ⟨c1, c2, c3, c4, c5⟩, ⟨w1, w2⟩, ⟨v1, v2⟩, hij, hr⟩ := hNo
    have hz0 : z = 0 := c5 (by rw [nd_a rfl]; exact hjn)
    subst hz0
    have hr0 : nd σ o 29 0 = -1 := by
      rcases hr with h | ⟨_, _, h3, _⟩
      · exact h
      · rw [nd_a rfl, hjn] at h3; exact absurd h3 (by decide)
    obtain ⟨i1, i2⟩ := hij (by rw [nd_a rfl]; exact hjn)
    have a3' : b0 (8 * c + 16) (σ 28 o 0) := by rw [nd_a rfl] at a3; exact a3
    have hU1 : Ur (rp ρ 8 o 0) = pt (Ur ρ) 60 o 0 0 := Ur_rp (um_8 ho)
    have hX1 : Xr (rp ρ 8 o 0) = Xr ρ := Xr_rp (by decide)
    obtain ⟨ρ2, eg, hX2, g1, g2⟩ := gclr_r (ρ := rp ρ 8 o 0) (o := o) (x := x) (v := S)
    rw [eg]
    have b1 : ∀ f i j, ¬ ((f = 60 ∧ i = o ∧ j = 0) ∨ (f = 42 ∧ i = 14 ∧ j < 4)) → Ur ρ2 f i j = Ur ρ f i j := fun f i j hq => by rw [g1 f i j (by omega), hU1]; simp only [pt]; rw [if_neg (by omega)]
    have b60 : Ur ρ2 60 o 0 = 0 := by rw [g1 _ _ _ (by omega), hU1]; simp [pt]
    have hloop : ∃ a : RS, B_X6_doJoin_87 (nI o) x 4096 ρ2 S 0 = bd (F_X6_showDisk (rp a 5 o 1) (nI o)) (fun b _ => some (b, S)) ∧ Xr a = Xr ρ ∧ (∀ f i j, ¬ ((f = 60 ∧ i = o ∧ j = 0) ∨ (f = 28 ∧ i = o ∧ j = 0) ∨ (f = 42 ∧ i = 14 ∧ j < 4) ∨ ((f = 42 ∨ f = 43) ∧ i = o ∧ j < M)) → Ur a f i j = Ur ρ f i j) ∧ Ur a 60 o 0 = jP x σ N ∧ Ur a 28 o 0 = jS x σ (σ 28 o 0) N ∧ ∀ s, s < M → Ur a 42 14 s = jB x σ N s ∧ Ur a 42 o s = jB x σ N s ∧ Ur a 43 o s = jV x σ N s := by
      unfold B_X6_doJoin_87
      refine lo3_it N (fun i a v => v = S ∧ Xr a = Xr ρ ∧ (∀ f i' j, ¬ ((f = 60 ∧ i' = o ∧ j = 0) ∨ (f = 28 ∧ i' = o ∧ j = 0) ∨ (f = 42 ∧ i' = 14 ∧ j < 4) ∨ ((f = 42 ∨ f = 43) ∧ i' = o ∧ j < M)) → Ur a f i' j = Ur ρ f i' j) ∧ Ur a 60 o 0 = jP x σ i ∧ Ur a 28 o 0 = jS x σ (σ 28 o 0) i ∧ ∀ s, s < M → Ur a 42 14 s = jB x σ i s ∧ Ur a 42 o s = jB x σ i s ∧ Ur a 43 o s = jV x σ i s) (fun r => ∃ a : RS, r = bd (F_X6_showDisk (rp a 5 o 1) (nI o)) (fun b _ => some (b, S)) ∧ Xr a = Xr ρ ∧ (∀ f i j, ¬ ((f = 60 ∧ i = o ∧ j = 0) ∨ (f = 28 ∧ i = o ∧ j = 0) ∨ (f = 42 ∧ i = 14 ∧ j < 4) ∨ ((f = 42 ∨ f = 43) ∧ i = o ∧ j < M)) → Ur a f i j = Ur ρ f i j) ∧ Ur a 60 o 0 = jP x σ N ∧ Ur a 28 o 0 = jS x σ (σ 28 o 0) N ∧ ∀ s, s < M → Ur a 42 14 s = jB x σ N s ∧ Ur a 42 o s = jB x σ N s ∧ Ur a 43 o s = jV x σ N s) ?_ ?_ N 0 4096 ρ2 S (by omega) (by omega) ⟨rfl, hX2.trans hX1, fun f i j hq => b1 f i j (by omega), b60, by rw [b1 _ _ _ (by omega)]; exact qo.2.2.2.1.symm, fun s hs => ?_⟩
      · rintro i a v hi ⟨rfl, hX, h1, h2, h3, h4⟩
        have hi7 : i < 7 := by omega
        have da : a.1 1 0 = nI N := by rw [Ur_rd um_1, h1 _ _ _ (by omega)]; exact hG.1.2.1
        have e25 : Ur a 25 i 0 = σ 25 i 0 := by rw [h1 _ _ _ (by omega)]; exact (hJ i hi7).1.q.1.symm
        have e26 : Ur a 26 i 0 = σ 26 i 0 := by rw [h1 _ _ _ (by omega)]; exact (hJ i hi7).1.q.2.1.symm
        rcases gt_dec x i (σ 25 i 0) (σ 26 i 0) with hg | hg
        · have hne : i ≠ o := fun e => hgo (e ▸ hg)
          have g0 : ¬ gn x σ i = 0 := by rw [gn_t hg]; decide
          obtain ⟨a', t1, tX, t2, t3, t4, t5⟩ := read_r (ρ := a) (k := i) ho hi7 (by rw [h1 _ _ _ (by omega)]; exact hG.2.1.2.1) hM
          have ev : Ur a 60 (7 + i) 0 = σ 60 (7 + i) 0 := by rw [h1 _ _ _ (by omega)]; exact (hJ i hi7).1.q.2.2.2.2.2.2.1.symm
          refine ⟨a', v, ⟨rfl, tX.trans hX, fun f i' j hq => by rw [t2 f i' j (by omega)]; exact h1 f i' j hq, ?_, ?_, fun s hs => ?_⟩, fun K => ?_⟩
          · simp only [jP]; rw [if_neg g0, t3, h2, ev]
          · simp only [jS]; rw [if_neg g0, t4, h3, ev]
          · obtain ⟨y1, y2, y3⟩ := t5 s hs
            obtain ⟨x1, x2, x3⟩ := h4 s hs
            obtain ⟨_, _, p3, p4⟩ := (hJ i hi7).1.s (show s < 4 by omega)
            have eb : Ur a 42 (7 + i) s = σ 42 (7 + i) s := by rw [h1 _ _ _ (by omega)]; exact p3.symm
            have ec : Ur a 43 (7 + i) s = σ 43 (7 + i) s := by rw [h1 _ _ _ (by omega)]; exact p4.symm
            simp only [jB, jV]
            rw [if_neg g0, if_neg g0, y1, y2, y3, x1, x2, x3, eb, ec]
            exact ⟨rfl, rfl, rfl⟩
          · rw [da, if_neg (nI_ge hi (by omega)), if_neg (fun q => hne (nI_inj (by omega) (by omega) q)), (gets_r hi7).1 (by rw [e25, e26]; exact hg), bd_s, if_neg (by decide), t1, bd_s]
            unfold B_X6_doJoin_119
            rw [lt_eq, nI_1]
        · have g0 := gn_f hg
          refine ⟨a, v, ⟨rfl, hX, h1, by simp only [jP]; rw [if_pos g0]; exact h2, by simp only [jS]; rw [if_pos g0]; exact h3, fun s hs => by simp only [jB, jV]; rw [if_pos g0, if_pos g0]; exact h4 s hs⟩, fun K => ?_⟩
          unfold B_X6_doJoin_119
          rw [da, if_neg (nI_ge hi (by omega))]
          by_cases e : i = o
          · subst e; rw [if_pos rfl, lt_eq, nI_1]
          · rw [if_neg (fun q => e (nI_inj (by omega) (by omega) q)), (gets_r hi7).2 (by rw [e25, e26]; exact hg), bd_s, if_pos rfl, lt_eq, nI_1]
      · rintro a v K ⟨rfl, hX, h1, h2, h3, h4⟩
        have da : a.1 1 0 = nI N := by rw [Ur_rd um_1, h1 _ _ _ (by omega)]; exact hG.1.2.1
        refine ⟨a, ?_, hX, h1, h2, h3, h4⟩
        rw [da, if_pos (nI_le (Nat.le_refl N) (by omega)), g7 ho, t7 ho, lt_eq]
      · have := i2 s (by omega)
        rw [(e9 s (by omega)).1, (e9 s (by omega)).2.1, nd_a rfl, nd_a rfl] at this
        refine ⟨g2 s (by omega), ?_, ?_⟩
        · rw [b1 _ _ _ (by omega)]; exact this.1
        · rw [b1 _ _ _ (by omega)]; exact this.2
    obtain ⟨a, el, hXa, l1, l2, l3, l4⟩ := hloop
    have hU5 : Ur (rp a 5 o 1) = pt (Ur a) 26 o 0 1 := Ur_rp (um_5 ho)
    obtain ⟨ρ3, es, hX3, f3, s1, s2, s3⟩ := show_r (ρ := rp a 5 o 1) ho
    rw [el, es, bd_s]
    -- what the rows of slots that are not used keep
    have tail : ∀ i, i ≤ 7 → ∀ s, M ≤ s → s < 4 → jB x σ i s = 0 ∧ jV x σ i s = -1 := fun i hi s h1 h2 => by
      rcases jdk (x := x) hM hJ i hi s h2 with q | ⟨_, _, q⟩
      · exact q
      · omega
    have ln : ∀ s, s < 4 → Ur a 42 o s = jB x σ N s ∧ Ur a 43 o s = jV x σ N s := fun s hs => by
      by_cases hsM : s < M
      · exact ⟨(l4 s hsM).2.1, (l4 s hsM).2.2⟩
      · have := i2 s hs
        rw [(e9 s hs).1, (e9 s hs).2.1, nd_a rfl, nd_a rfl] at this
        rw [(tail N hN7 s (by omega) hs).1, (tail N hN7 s (by omega) hs).2, l1 _ _ _ (by omega), l1 _ _ _ (by omega)]
        exact this
    have m3 : ∀ f j, f ≠ 160 → f ≠ 142 → f ≠ 143 → f ≠ 26 → nd (Ur ρ3) o f j = nd (Ur a) o f j := fun f j p1 p2 p3 p4 => by rw [s3 f j p1 p2 p3, hU5, nd_pa rfl, nu_n p4]
    have mo : ∀ f j, f ≠ 160 → f ≠ 142 → f ≠ 143 → f ≠ 26 → f ≠ 60 → f ≠ 28 → f ≠ 42 → f ≠ 43 → nd (Ur ρ3) o f j = nd (Ur ρ) o f j := fun f j p1 p2 p3 p4 p5 p6 p7 p8 => by
      rw [m3 f j p1 p2 p3 p4]
      simp only [nd]
      by_cases hf : nc f = true
      · simp only [hf, if_true]; exact l1 _ _ _ (by omega)
      · by_cases hf2 : 100 ≤ f ∧ nc (f - 100) = true
        · simp only [hf, hf2, if_true, and_self]; simp; exact l1 _ _ _ (by omega)
        · simp [hf, hf2]
    have m60 : nd (Ur ρ3) o 60 0 = jP x σ N := by rw [m3 _ _ (by decide) (by decide) (by decide) (by decide), nd_a rfl]; exact l2
    have m28 : nd (Ur ρ3) o 28 0 = imax (σ 28 o 0) (jP x σ N) := by rw [m3 _ _ (by decide) (by decide) (by decide) (by decide), nd_a rfl, l3]; exact jSP hB a3' hJ N hN7
    have m26 : nd (Ur ρ3) o 26 0 = 1 := by rw [s3 _ _ (by decide) (by decide) (by decide), hU5, nd_pa rfl]; exact nu_s
    have m160 : nd (Ur ρ3) o 160 0 = jP x σ N := by rw [s1, hU5, nd_pa rfl, nu_n (by decide), nd_a rfl]; exact l2
    have ms : ∀ s, s < 4 → nd (Ur ρ3) o 42 s = jB x σ N s ∧ nd (Ur ρ3) o 43 s = jV x σ N s ∧ nd (Ur ρ3) o 142 s = jB x σ N s ∧ nd (Ur ρ3) o 143 s = jV x σ N s := fun s hs => by
      rw [m3 _ _ (by decide) (by decide) (by decide) (by decide), m3 _ _ (by decide) (by decide) (by decide) (by decide), (s2 s hs).1, (s2 s hs).2, hU5, nd_pa rfl, nu_n (by decide), nu_n (by decide), nd_a rfl, nd_a rfl]
      exact ⟨(ln s hs).1, (ln s hs).2, (ln s hs).1, (ln s hs).2⟩
    -- the class
    have h7 : ¬ (7 + o = o) := by omega
    have h7' : ¬ (o = 7 + o) := by omega
    have h14 : ¬ (14 = o) := by omega
    have h14' : ¬ (14 = 7 + o) := by omega
    have k2' : σ1 60 14 0 = jP x σ N := k2
    obtain ⟨σ', ej, fr, q26, q28, q60, q160, qs, qq⟩ : ∃ σ', F_X3_join σ1 o 14 = some (σ', ()) ∧ Fr o σ1 σ' ∧ nd σ' o 26 0 = 1 ∧ nd σ' o 28 0 = imax (σ 28 o 0) (jP x σ N) ∧ nd σ' o 60 0 = jP x σ N ∧ nd σ' o 160 0 = jP x σ N ∧ (∀ s, s < 4 → nd σ' o 42 s = jB x σ N s ∧ nd σ' o 43 s = jV x σ N s ∧ nd σ' o 142 s = jB x σ N s ∧ nd σ' o 143 s = jV x σ N s) ∧ ∀ f j, f ≠ 160 → f ≠ 142 → f ≠ 143 → f ≠ 26 → f ≠ 60 → f ≠ 28 → f ≠ 42 → f ≠ 43 → nd σ' o f j = nd σ o f j := by
      have b60 : ∀ s, σ1 60 o s = σ 60 o s := fun s => k1 _ _ _ (by omega)
      refine ⟨_, rfl, fun f i j hq => ?_, ?_, ?_, ?_, ?_, fun s hs => ?_, fun f j p1 p2 p3 p4 p5 p6 p7 p8 => ?_⟩
      · simp only [pt, pcp]
        rw [if_neg (fun z => hq ⟨by rw [z.1]; rfl, Or.inl z.2.1⟩), if_neg (fun z => hq ⟨by rw [z.1]; rfl, Or.inl z.2.1⟩), if_neg (fun z => hq ⟨by rw [z.1]; rfl, Or.inr z.2.1⟩), if_neg (fun z => hq ⟨by rw [z.1]; rfl, Or.inr z.2.1⟩), if_neg (fun z => hq ⟨by rw [z.1]; rfl, Or.inr z.2.1⟩), if_neg (fun z => hq ⟨by rw [z.1]; rfl, Or.inl z.2.1⟩), if_neg (fun z => hq ⟨by rw [z.1]; rfl, Or.inl z.2.1⟩), if_neg (fun z => hq ⟨by rw [z.1]; rfl, Or.inl z.2.1⟩)]
      · rw [nd_a rfl]; simp [pt, pcp]
      · rw [nd_a rfl]; simp [pt, pcp, h14, h14']; rw [k2', k1 _ _ _ (by omega)]
      · rw [nd_a rfl]; simp [pt, pcp, h14, h14', h7']; exact k2'
      · rw [show (160 : Nat) = 100 + 60 from rfl, nd_b rfl]; simp [pt, pcp, h14, h14', h7]; exact k2'
      · obtain ⟨y1, y2⟩ := k3 s hs
        rw [show (142 : Nat) = 100 + 42 from rfl, show (143 : Nat) = 100 + 43 from rfl, nd_b rfl, nd_b rfl, nd_a rfl, nd_a rfl]
        simp [pt, pcp, h14, h14', h7, h7', hs]
        exact ⟨y1, y2, y1, y2⟩
      · rw [← n1 o ho]
        simp only [nd]
        by_cases hf : nc f = true
        · simp only [hf, if_true]; simp [pt, pcp, p4, p5, p6, p7, p8]
        · by_cases hf2 : 100 ≤ f ∧ nc (f - 100) = true
          · have y1 : ¬ f - 100 = 60 := by omega
            have y2 : ¬ f - 100 = 42 := by omega
            have y3 : ¬ f - 100 = 43 := by omega
            simp only [hf, hf2, if_true, and_self]; simp; simp [pt, pcp, y1, y2, y3, h7]
          · simp [hf, hf2]
    rw [ej, bd_s]
    have hDa : ∀ f i j, i ≠ o → i ≠ 14 → Ur a f i j = Ur ρ f i j := fun f i j p1 p2 => l1 f i j (by omega)
    have fa : ∀ f i j, i ≠ 14 → ¬ (nc f = true ∧ (i = o ∨ i = 7 + o)) → Ur ρ3 f i j = Ur ρ f i j := fun f i j p1 p2 => by
      rw [f3 f i j p2, hU5]
      simp only [pt]
      rw [if_neg (fun z => p2 ⟨by rw [z.1]; rfl, Or.inl z.2.1⟩)]
      refine l1 f i j (fun z => p2 ?_)
      rcases z with ⟨rfl, rfl, _⟩ | ⟨rfl, rfl, _⟩ | ⟨_, rfl, _⟩ | ⟨rfl | rfl, rfl, _⟩
      · exact ⟨rfl, Or.inl rfl⟩
      · exact ⟨rfl, Or.inl rfl⟩
      · exact absurd rfl p1
      · exact ⟨rfl, Or.inl rfl⟩
      · exact ⟨rfl, Or.inl rfl⟩
    refine ⟨σ', ρ3, S, rfl, rfl, hX3.trans ((Xr_rp (by decide)).trans hXa), ⟨?_, fun k hk => ?_, fun s hs => ?_⟩, fun f j p1 => by rw [fr.o (nc_r p1)]; exact k1 f 0 j (by decide)⟩
    · exact hG.cg (fun f j hf => by rw [fr.o (nc_g hf)]; exact k1 f 0 j (by decide)) (fun f j hf => fa f 0 j (by decide) (fun q => by rw [nc_g hf] at q; cases q.1))
    · by_cases e : k = o
      · subst e
        have t0 : tn (nd σ k 83 0) = 0 := by rw [c2]; rfl
        refine ⟨⟨⟨?_, by rw [q26, m26], ?_, by rw [q28, m28], fun _ => ?_, by rw [q60, m60], by rw [q160, m160], ?_⟩, fun s hs => ?_, fun j hj2 => ?_, fun _ hne => ?_⟩, 0, ⟨?_, by rw [q26]; rfl, ?_, ?_⟩, ⟨Nat.zero_le _, ?_, ?_, fun _ => rfl, fun _ => rfl⟩, ⟨fun j hj2 => by omega, fun s hs => ?_⟩, ⟨?_, fun s hs => ?_⟩, fun q => ?_, Or.inl ?_⟩
        · rw [qq _ _ (by decide) (by decide) (by decide) (by decide) (by decide) (by decide) (by decide) (by decide), mo _ _ (by decide) (by decide) (by decide) (by decide) (by decide) (by decide) (by decide) (by decide)]; exact e1
        · rw [qq _ _ (by decide) (by decide) (by decide) (by decide) (by decide) (by decide) (by decide) (by decide), mo _ _ (by decide) (by decide) (by decide) (by decide) (by decide) (by decide) (by decide) (by decide)]; exact e3
        · rw [qq _ _ (by decide) (by decide) (by decide) (by decide) (by decide) (by decide) (by decide) (by decide), mo _ _ (by decide) (by decide) (by decide) (by decide) (by decide) (by decide) (by decide) (by decide)]; exact e5 trivial
        · rw [qq _ _ (by decide) (by decide) (by decide) (by decide) (by decide) (by decide) (by decide) (by decide), mo _ _ (by decide) (by decide) (by decide) (by decide) (by decide) (by decide) (by decide) (by decide)]; exact e8
        · obtain ⟨y1, y2, y3, y4⟩ := qs s hs
          obtain ⟨u1, u2, u3, u4⟩ := ms s hs
          rw [y1, y2, y3, y4, u1, u2, u3, u4]
          exact ⟨rfl, rfl, rfl, rfl⟩
        · rw [qq _ _ (by decide) (by decide) (by decide) (by decide) (by decide) (by decide) (by decide) (by decide), t0] at hj2
          omega
        · rw [qq _ _ (by decide) (by decide) (by decide) (by decide) (by decide) (by decide) (by decide) (by decide)] at hne
          exact absurd hr0 hne
        · rw [qq _ _ (by decide) (by decide) (by decide) (by decide) (by decide) (by decide) (by decide) (by decide)]; exact a1
        · rw [q28]; exact imax_b0 hB a3' (jPb hB hJ N hN7)
        · rw [q60]; exact jPb hB hJ N hN7
        · rw [qq _ _ (by decide) (by decide) (by decide) (by decide) (by decide) (by decide) (by decide) (by decide)]; exact c2
        · obtain ⟨C, r1, r2, r3, r4, r5⟩ := c3
          refine ⟨C, r1, r2, ?_, ?_, ?_⟩
          · rw [qq _ _ (by decide) (by decide) (by decide) (by decide) (by decide) (by decide) (by decide) (by decide)]; exact r3
          · rw [qq _ _ (by decide) (by decide) (by decide) (by decide) (by decide) (by decide) (by decide) (by decide)]; exact r4
          · rw [qq _ _ (by decide) (by decide) (by decide) (by decide) (by decide) (by decide) (by decide) (by decide)]; exact r5
        · rw [(qs s hs).1, (qs s hs).2.1]; exact jdk hM hJ N hN7 s hs
        · simp only [apP]; rw [q160, q60]
        · simp only [apB, apV]; obtain ⟨y1, y2, y3, y4⟩ := qs s hs; rw [y1, y2, y3, y4]; exact ⟨rfl, rfl⟩
        · rw [q26] at q; exact absurd q (by decide)
        · rw [qq _ _ (by decide) (by decide) (by decide) (by decide) (by decide) (by decide) (by decide) (by decide)]; exact hr0
      · rw [fr.node hk ho e, n1 k hk]
        have : nd (Ur ρ3) k = nd (Ur ρ) k := nd_ext (fun f j hf => fa f k j (by omega) (fun q => by omega)) (fun f j hf => fa f (7 + k) j (by omega) (fun q => by omega))
        rw [this]
        exact hJ k hk
    · exact (hD s hs).cg (fun f p1 p2 => by rw [fr.o (nc_d ⟨p1, p2⟩)]; exact k1 f s 0 (by omega)) (fun f p1 p2 => fa f s 0 (by omega) (fun q => by rw [nc_d ⟨p1, p2⟩] at q; cases q.1))
