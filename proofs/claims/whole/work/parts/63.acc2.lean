set_option maxHeartbeats 4000000 in
/-- a node that gets an accept and accepts -/
theorem ac_2 {rqf : Nat → Prop} {B c zc N M L mb o i : Nat} {σ : CS} {ρ : RS} {x b v : Int32} (ho : o < 7) (hi : i < 7) (hc : zc < 512) (hM : M ≤ 4) (zf zf' : Nat → Nat) (hz : zf i ≤ zc) (hz' : zf i + 1 ≤ zf' i) (hz2 : ∀ j, j ≠ i → zf j ≤ zf' j) (hG : GR mb N M L σ (Ur ρ)) (hJ : JJN rqf B zf M σ (Ur ρ)) (hD : ∀ s, s < 4 → DR c s σ (Ur ρ)) (hb : wok B M x b v) (hup : σ 25 i 0 = 1) (hjn : σ 26 i 0 = 1) :
    ∃ σ' ρ', (∀ p, B_X5_agrees_41 i o x b v σ p 1 = some (σ', 1)) ∧ (∀ {T : Type} (kk : RS → Option T), (bd (F_X6_write (rp ρ 24 0 (ρ.1 24 0 + 1)) (nI i) x b v) fun ρ2 _ => lt (rp ρ2 25 0 (ρ2.1 25 0 + 1)) fun ρ4 => if ρ4.1 3 0 = 0 then kk ρ4 else bd (F_X6_flush ρ4 (nI i)) fun a _ => kk a) = kk ρ') ∧ GR (mb + 1) N M L σ' (Ur ρ') ∧ JJN rqf B zf' M σ' (Ur ρ') ∧ (∀ s, s < 4 → DR c s σ' (Ur ρ')) ∧ Xr ρ' = Xr ρ ∧ (∀ f j, (70 ≤ f ∧ f ≤ 76 ∨ f = 40) → σ' f 0 j = σ f 0 j) ∧ (∀ f, 25 ≤ f → f ≤ 29 → ∀ k, k < 7 → σ' f k 0 = σ f k 0) ∧ ∀ f, 25 ≤ f → f ≤ 29 → ∀ k, k < 7 → Ur ρ' f k 0 = Ur ρ f k 0 := by
  have hU1 : Ur (rp ρ 24 0 (ρ.1 24 0 + 1)) = pt (Ur ρ) 9 0 0 (Ur ρ 9 0 0 + 1) := by rw [Ur_rp um_24, Ur_rd um_24]
  have hGm := GRma hG
  have hX1 : Xr (rp ρ 24 0 (ρ.1 24 0 + 1)) = Xr ρ := Xr_rp (by decide)
  generalize hr1 : rp ρ 24 0 (ρ.1 24 0 + 1) = ρ1 at hU1 hX1 ⊢
  have m1 : ∀ k, nd (Ur ρ1) k = nd (Ur ρ) k := fun k => by rw [hU1]; exact nd_pf rfl
  have u1 : ∀ f o j, f ≠ 9 → Ur ρ1 f o j = Ur ρ f o j := fun f o j hf => by rw [hU1]; simp [pt, hf]
  have s1 : ∀ f o j, f ≠ 9 → f ≠ 10 → pt (pt σ 9 0 0 (σ 9 0 0 + 1)) 10 0 0 (pt σ 9 0 0 (σ 9 0 0 + 1) 10 0 0 + 1) f o j = σ f o j := fun f o j h1 h2 => by simp [pt, h1, h2]
  have n1 : ∀ k, nd (pt (pt σ 9 0 0 (σ 9 0 0 + 1)) 10 0 0 (pt σ 9 0 0 (σ 9 0 0 + 1) 10 0 0 + 1)) k = nd σ k := fun k => by rw [nd_pf rfl, nd_pf rfl]
  have c9 : pt (pt σ 9 0 0 (σ 9 0 0 + 1)) 10 0 0 (pt σ 9 0 0 (σ 9 0 0 + 1) 10 0 0 + 1) 9 0 0 = σ 9 0 0 + 1 := by simp [pt]
  have c10 : pt (pt σ 9 0 0 (σ 9 0 0 + 1)) 10 0 0 (pt σ 9 0 0 (σ 9 0 0 + 1) 10 0 0 + 1) 10 0 0 = σ 10 0 0 + 1 := by simp [pt]
  generalize hs1 : pt (pt σ 9 0 0 (σ 9 0 0 + 1)) 10 0 0 (pt σ 9 0 0 (σ 9 0 0 + 1) 10 0 0 + 1) = σc at s1 n1 c9 c10
  have hNi : NR (rqf i) B (zf i) M (nd σc i) (nd (Ur ρ1) i) := by rw [n1, m1]; exact hJ i hi
  obtain ⟨σ1, ρ2, e1, e2, hX2, f1, f2, hN1, h25, h41⟩ := wr_2 (σ := σc) (x := x) (b := b) (v := v) hi hM (by omega) hNi hb (by rw [s1 _ _ _ (by decide) (by decide)]; exact hup) (by rw [s1 _ _ _ (by decide) (by decide)]; exact hjn)
  have hU4 : Ur (rp ρ2 25 0 (ρ2.1 25 0 + 1)) = pt (Ur ρ2) 10 0 0 (Ur ρ2 10 0 0 + 1) := by rw [Ur_rp um_25, Ur_rd um_25]
  have hX4 : Xr (rp ρ2 25 0 (ρ2.1 25 0 + 1)) = Xr ρ2 := Xr_rp (by decide)
  generalize hr5 : rp ρ2 25 0 (ρ2.1 25 0 + 1) = ρ4 at hU4 hX4
  have u4 : ∀ f o j, f ≠ 10 → Ur ρ4 f o j = Ur ρ2 f o j := fun f o j hf => by rw [hU4]; simp [pt, hf]
  have m4 : ∀ k, nd (Ur ρ4) k = nd (Ur ρ2) k := fun k => by rw [hU4]; exact nd_pf rfl
  have p9 : Ur ρ4 9 0 0 = Ur ρ 9 0 0 + 1 := by rw [u4 _ _ _ (by decide), f2.o (nc_g (by omega)), hU1]; simp [pt]
  have p10 : Ur ρ4 10 0 0 = Ur ρ 10 0 0 + 1 := by rw [hU4]; simp [pt]; rw [f2.o (nc_g (by omega)), u1 _ _ _ (by decide)]
  have hG4 : GR (mb + 1) N M L σ1 (Ur ρ4) := by
    refine hGm.cg (fun f j hf => ?_) (fun f j hf => ?_)
    · by_cases e9 : f = 9
      · subst e9
        by_cases ej : j = 0
        · subst ej; rw [f1.o (nc_g hf), c9]; simp [pt]
        · rw [f1.o (nc_g hf), ← hs1]; simp [pt, ej]
      · by_cases e10 : f = 10
        · subst e10
          by_cases ej : j = 0
          · subst ej; rw [f1.o (nc_g hf), c10]; simp [pt]
          · rw [f1.o (nc_g hf), ← hs1]; simp [pt, ej]
        · rw [f1.o (nc_g hf), s1 f 0 j e9 e10]; simp [pt, e9, e10]
    · by_cases e9 : f = 9
      · subst e9
        by_cases ej : j = 0
        · subst ej; rw [p9]; simp [pt]
        · rw [u4 _ _ _ (by decide), f2.o (nc_g hf), hU1]; simp [pt, ej]
      · by_cases e10 : f = 10
        · subst e10
          by_cases ej : j = 0
          · subst ej; rw [p10]; simp [pt]
          · rw [hU4]; simp [pt, ej]; rw [f2.o (nc_g hf), u1 _ _ _ (by decide)]
        · rw [u4 _ _ _ e10, f2.o (nc_g hf), u1 _ _ _ e9]; simp [pt, e9, e10]
  have hJ4 : JJN rqf B zf' M σ1 (Ur ρ4) := fun k hk => by
    rw [m4]
    by_cases e : k = i
    · subst e; exact hN1.mono (Nat.le_refl _) hz'
    · rw [f1.node hk hi e, n1, f2.node hk hi e, m1]
      exact (hJ k hk).mono (Nat.le_refl _) (hz2 k e)
  obtain ⟨σ3, ρ5, g1, g2, hX5, f3, f4, hN5, k25, k41, kvw⟩ := fin_2 (zc := zf i + 1) hi hM (by omega) hG4.2.2.2.1.1 (by rw [m4]; exact hN1)
  refine ⟨σ3, ρ5, fun p => ?_, fun {T} kk => ?_, hG4.fr f3 f4, hJ4.fr hi f3 f4 (fun _ _ => Nat.le_refl _) (hN5.mono (Nat.le_refl _) hz'), fun s hs => ?_, hX5.trans (hX4.trans (hX2.trans hX1)), fun f j a1 => ?_, fun f a1 a2 k hk => ?_, fun f a1 a2 k hk => ?_⟩
  · unfold B_X5_agrees_41
    rw [lt_eq, if_neg (by decide), lt_eq, hs1, e1, bd_s]
    exact g1 _ _ _ _ 1 (Or.inr rfl)
  · rw [e2, bd_s, lt_eq, hr5]
    exact g2 kk
  · exact DR.fr (DR.cg (DR.fr (DR.cg (hD s hs) (fun f a b => s1 f s 0 (by omega) (by omega)) (fun f a b => u1 f s 0 (by omega))) f1 f2) (fun _ _ _ => rfl) (fun f a b => u4 _ _ _ (by omega))) f3 f4
  · rw [f3.o (nc_r a1), f1.o (nc_r a1), s1 _ _ _ (by omega) (by omega)]
  · rw [f3.tn1 hi hk k25 f a1 a2, f1.tn1 hi hk h25 f a1 a2, s1 _ _ _ (by omega) (by omega)]
  · rw [f4.tn1 hi hk kvw.2 f a1 a2, u4 _ _ _ (by omega), f2.tn1 hi hk h41.2 f a1 a2, u1 _ _ _ (by omega)]
theorem dec_2 {tc s : Nat} {σ : CS} {ρ : RS} {b w : Int32} (hs : s < 4) (htc : tc < 2 ^ 30) (h : DR tc s σ (Ur ρ)) : ∃ σ' ρ', F_X0_decide σ s b w = some (σ', ()) ∧ F_X6_decide ρ (nI s) b w = some (ρ', ()) ∧ Xr ρ' = Xr ρ ∧ (∀ f o j, ¬ (50 ≤ f ∧ f ≤ 53 ∧ o = s ∧ j = 0) → σ' f o j = σ f o j) ∧ (∀ f o j, ¬ (50 ≤ f ∧ f ≤ 53 ∧ o = s ∧ j = 0) → Ur ρ' f o j = Ur ρ f o j) ∧ DR (tc + 1) s σ' (Ur ρ') := by
  obtain ⟨d1, d2, d3, d4, t, ht, d5, d6⟩ := h
  have r20 : ρ.1 20 s = nI t := by rw [Ur_rd (um_20 hs), d6]
  have r22 : ρ.1 22 s = σ 51 s 0 := by rw [Ur_rd (um_22 hs), d2]
  have r23 : ρ.1 23 s = σ 53 s 0 := by rw [Ur_rd (um_23 hs), d3]
  unfold F_X0_decide F_X0_isMade F_X6_decide
  rw [d5, g4 hs, t4 hs, r20]
  by_cases h0 : t = 0
  · subst h0
    rw [if_pos (show nI 0 ≤ (0 : Int32) by decide), bd_s, if_pos rfl, if_pos (show nI 0 = (0 : Int32) by decide)]
    unfold B_X0_decide_33 B_X6_decide_23 B_X6_decide_57 B_X6_decide_62
    simp only [lt_eq, g4 hs, t4 hs]
    have e1 : (rp (rp (rp ρ 21 s b) 22 s w) 20 s ((rp (rp ρ 21 s b) 22 s w).1 20 s + 1)).1 23 s = σ 53 s 0 := by
      simp only [rp_n2 (show (23 : Nat) ≠ 20 by decide), rp_n2 (show (23 : Nat) ≠ 22 by decide), rp_n2 (show (23 : Nat) ≠ 21 by decide), r23]
    have e2 : (rp (rp (rp ρ 21 s b) 22 s w) 20 s ((rp (rp ρ 21 s b) 22 s w).1 20 s + 1)).1 22 s = w := by
      rw [rp_n2 (by decide), rp_se]
    have e3 : (rp (rp ρ 21 s b) 22 s w).1 20 s = nI 0 := by rw [rp_n2 (by decide), rp_n2 (by decide), r20]
    have e4 : pt (pt σ 50 s 0 b) 51 s 0 w 52 s 0 = nI 0 := by simp [pt, d5]
    rw [e1, e2, e3, e4, if_pos rfl]
    have hU : ∀ c : Int32, Ur (rp (rp (rp (rp ρ 21 s b) 22 s w) 20 s (nI 0 + 1)) 23 s c) = pt (pt (pt (pt (Ur ρ) 50 s 0 b) 51 s 0 w) 52 s 0 (nI 0 + 1)) 53 s 0 c := fun c => by rw [Ur_rp (um_23 hs), Ur_rp (um_20 hs), Ur_rp (um_22 hs), Ur_rp (um_21 hs)]
    have hX : ∀ c : Int32, Xr (rp (rp (rp (rp ρ 21 s b) 22 s w) 20 s (nI 0 + 1)) 23 s c) = Xr ρ := fun c => by rw [Xr_rp (by decide), Xr_rp (by decide), Xr_rp (by decide), Xr_rp (by decide)]
    have fin : ∃ σ' ρ', some (pt (pt (pt σ 50 s 0 b) 51 s 0 w) 52 s 0 (nI 0 + 1), ()) = some (σ', ()) ∧ some (rp (rp (rp (rp ρ 21 s b) 22 s w) 20 s (nI 0 + 1)) 23 s (σ 53 s 0), ()) = some (ρ', ()) ∧ Xr ρ' = Xr ρ ∧ (∀ f o j, ¬ (50 ≤ f ∧ f ≤ 53 ∧ o = s ∧ j = 0) → σ' f o j = σ f o j) ∧ (∀ f o j, ¬ (50 ≤ f ∧ f ≤ 53 ∧ o = s ∧ j = 0) → Ur ρ' f o j = Ur ρ f o j) ∧ DR (tc + 1) s σ' (Ur ρ') := by
      refine ⟨_, _, rfl, rfl, hX _, fun f o j hq => ?_, fun f o j hq => ?_, ?_⟩
      · simp only [pt]
        rw [if_neg (by omega), if_neg (by omega), if_neg (by omega)]
      · rw [hU]
        simp only [pt]
        rw [if_neg (by omega), if_neg (by omega), if_neg (by omega), if_neg (by omega)]
      · rw [hU]
        unfold DR
        simp only [pt]
        simp
        exact ⟨d4, 1, by omega, rfl⟩
    rcases isb_or d4 with hc | hc
    · rw [hc, if_pos rfl, gd_isb0]; rw [hc] at fin; exact fin
    · rw [hc, if_neg (by decide), gd_isb1]; rw [hc] at fin; exact fin
  · rw [if_neg (show ¬ nI t ≤ (0 : Int32) from nI_nle (by omega) (by omega)), bd_s, if_neg (by decide), if_neg (show ¬ nI t = (0 : Int32) from nI_ne0 (by omega) (by omega))]
    unfold B_X0_decide_33 B_X6_decide_23 B_X6_decide_57 B_X6_decide_62
    simp only [lt_eq, g4 hs, t4 hs]
    have e1 : (rp ρ 20 s (ρ.1 20 s + 1)).1 23 s = σ 53 s 0 := by rw [rp_n2 (by decide), r23]
    have e2 : (rp ρ 20 s (ρ.1 20 s + 1)).1 22 s = σ 51 s 0 := by rw [rp_n2 (by decide), r22]
    have hU : ∀ c : Int32, Ur (rp (rp ρ 20 s (nI (t + 1))) 23 s c) = pt (pt (Ur ρ) 52 s 0 (nI (t + 1))) 53 s 0 c := fun c => by rw [Ur_rp (um_23 hs), Ur_rp (um_20 hs)]
    have hX : ∀ c : Int32, Xr (rp (rp ρ 20 s (nI (t + 1))) 23 s c) = Xr ρ := fun c => by rw [Xr_rp (by decide), Xr_rp (by decide)]
    rw [e1, e2, r20, d5, nI_1]
    by_cases hw : w = σ 51 s 0
    · rw [if_pos hw, if_pos hw]
      have fin : ∃ σ' ρ', some (pt σ 52 s 0 (nI (t + 1)), ()) = some (σ', ()) ∧ some (rp (rp ρ 20 s (nI (t + 1))) 23 s (σ 53 s 0), ()) = some (ρ', ()) ∧ Xr ρ' = Xr ρ ∧ (∀ f o j, ¬ (50 ≤ f ∧ f ≤ 53 ∧ o = s ∧ j = 0) → σ' f o j = σ f o j) ∧ (∀ f o j, ¬ (50 ≤ f ∧ f ≤ 53 ∧ o = s ∧ j = 0) → Ur ρ' f o j = Ur ρ f o j) ∧ DR (tc + 1) s σ' (Ur ρ') := by
        refine ⟨_, _, rfl, rfl, hX _, fun f o j hq => ?_, fun f o j hq => ?_, ?_⟩
        · simp only [pt]
          rw [if_neg (by omega)]
        · rw [hU]
          simp only [pt]
          rw [if_neg (by omega), if_neg (by omega)]
        · rw [hU]
          unfold DR
          simp only [pt]
          simp
          exact ⟨d1, d2, d4, t + 1, by omega, rfl⟩
      rcases isb_or d4 with hc | hc
      · rw [hc, if_pos rfl, gd_isb0]; rw [hc] at fin; exact fin
      · rw [hc, if_neg (by decide), gd_isb1]; rw [hc] at fin; exact fin
    · rw [if_neg hw, if_neg hw]
      have e3 : pt σ 53 s 0 1 52 s 0 = nI t := by simp [pt, d5]
      rw [e3, nI_1]
      have fin : ∃ σ' ρ', some (pt (pt σ 53 s 0 1) 52 s 0 (nI (t + 1)), ()) = some (σ', ()) ∧ some (rp (rp ρ 20 s (nI (t + 1))) 23 s 1, ()) = some (ρ', ()) ∧ Xr ρ' = Xr ρ ∧ (∀ f o j, ¬ (50 ≤ f ∧ f ≤ 53 ∧ o = s ∧ j = 0) → σ' f o j = σ f o j) ∧ (∀ f o j, ¬ (50 ≤ f ∧ f ≤ 53 ∧ o = s ∧ j = 0) → Ur ρ' f o j = Ur ρ f o j) ∧ DR (tc + 1) s σ' (Ur ρ') := by
        refine ⟨_, _, rfl, rfl, hX _, fun f o j hq => ?_, fun f o j hq => ?_, ?_⟩
        · simp only [pt]
          rw [if_neg (by omega), if_neg (by omega)]
        · rw [hU]
          simp only [pt]
          rw [if_neg (by omega), if_neg (by omega)]
        · rw [hU]
          unfold DR
          simp only [pt]
          simp
          exact ⟨d1, d2, rfl, t + 1, by omega, rfl⟩
      rw [gd_isb1]
      by_cases hc : σ 53 s 0 = 0
      · rw [if_pos hc]; exact fin
      · rw [if_neg hc]; exact fin
