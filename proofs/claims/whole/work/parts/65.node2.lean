/-! ===== barrier, crash, wipe, restart on both sides ===== -/
theorem bar_2 {c N M L k : Nat} {σ : CS} {ρ : RS} (hk : k < 7) (hc : c ≤ 512) (h : Jc c N M L σ ρ) : ∃ σ' ρ' r, F_X3_carryOutAll σ k = some (σ', r) ∧ F_X6_doBarrier ρ (nI k) = some (ρ', r) ∧ Xr ρ' = Xr ρ ∧ Jc c N M L σ' ρ' ∧ ∀ f j, (70 ≤ f ∧ f ≤ 76 ∨ f = 40) → σ' f 0 j = σ f 0 j := by
  obtain ⟨hG, hJ, hD⟩ := h
  have hM : M ≤ 4 := hG.2.1.2.2.2
  obtain ⟨σ', ρ', e1, e2, hX, f1, f2, hN, -⟩ := fl_2 (zc' := c) hk hM hc (hJ k hk)
  refine ⟨σ', ρ', σ 83 k 0, e1, ?_, hX, ⟨hG.fr f1 f2, hJ.fr hk f1 f2 (fun _ _ => Nat.le_refl _) hN, fun s hs => (hD s hs).fr f1 f2⟩, fun f j a => f1.o (nc_r a)⟩
  unfold F_X6_doBarrier
  have r14 : ρ.1 14 k = σ 83 k 0 := by rw [Ur_rd (um_14 hk)]; exact (hJ k hk).1.q.2.2.2.2.2.2.2.symm
  rw [g7 hk, t7 hk, lt_eq, e2, bd_s, r14]
theorem KpN.of_show {n n1 n2 : ND} {q : Nat} (h1 : FlN n q n1) (h2 : n2 160 0 = n1 60 0) (h3 : ∀ s, s < 4 → n2 142 s = n1 42 s ∧ n2 143 s = n1 43 s) (h4 : ∀ f j, f ≠ 160 → f ≠ 142 → f ≠ 143 → n2 f j = n1 f j) : KpN n q n2 := by
  obtain ⟨a1, a2, a3, a4⟩ := h1
  refine ⟨by rw [h4 _ _ (by decide) (by decide) (by decide)]; exact a1, by rw [h4 _ _ (by decide) (by decide) (by decide)]; exact a2, by rw [h2]; exact a2, fun s hs => ⟨?_, ?_, ?_, ?_⟩, fun f j g1 g2 g3 g4 g5 g6 g7 => by rw [h4 f j g3 g6 g7]; exact a4 f j g1 g2 g4 g5⟩
  · rw [h4 _ _ (by decide) (by decide) (by decide)]; exact (a3 s hs).1
  · rw [h4 _ _ (by decide) (by decide) (by decide)]; exact (a3 s hs).2
  · rw [(h3 s hs).1]; exact (a3 s hs).1
  · rw [(h3 s hs).2]; exact (a3 s hs).2
theorem FlN.nu83 {n n1 : ND} {q : Nat} {v : Int32} (h : FlN (nu n 83 0 v) q n1) : FlN n q n1 := by
  obtain ⟨a1, a2, a3, a4⟩ := h
  refine ⟨a1, ?_, fun s hs => ?_, fun f j g1 g2 g3 g4 => ?_⟩
  · rw [a2, nu_P (by decide), nu_n (by decide)]
  · obtain ⟨b1, b2⟩ := a3 s hs
    rw [b1, b2, nu_B (by decide) (by decide), nu_V (by decide) (by decide), nu_n (by decide), nu_n (by decide)]
    exact ⟨rfl, rfl⟩
  · rw [a4 f j g1 g2 g3 g4, nu_n g1]
theorem tn_sub {a b : Nat} (h : b ≤ a) : nI a - nI b = nI (a - b) := pk_sub h
theorem imin_nI {a b : Nat} (ha : a < 2 ^ 31) (hb : b < 2 ^ 31) : imin (nI a) (nI b) = nI (min a b) := by
  unfold imin
  by_cases h : b < a
  · rw [if_pos (nI_lt h ha), Nat.min_eq_right (by omega)]
  · rw [if_neg (nI_nlt (by omega) hb), Nat.min_eq_left (by omega)]
set_option maxHeartbeats 4000000 in
theorem crash_2 {c N M L k l : Nat} {σ : CS} {ρ : RS} (hk : k < 7) (hc : c ≤ 512) (hl : l < 2 ^ 31) (h : Jc c N M L σ ρ) : ∃ σ' ρ' r, F_X5_bringDown σ k (nI l) = some (σ', r) ∧ F_X6_doCrash ρ (nI k) (nI l) = some (ρ', r) ∧ Xr ρ' = Xr ρ ∧ Jc c N M L σ' ρ' ∧ ∀ f j, (70 ≤ f ∧ f ≤ 76 ∨ f = 40) → σ' f 0 j = σ f 0 j := by
  obtain ⟨hG, hJ, hD⟩ := h
  have hM : M ≤ 4 := hG.2.1.2.2.2
  have hN := hJ k hk
  obtain ⟨z, C, h1, h2, h3, h4, h5, h6, h7, h8⟩ := hN.2.wf hM
  have hz : σ 83 k 0 = nI z := by rw [← nd_a (σ := σ) (f := 83) rfl]; exact h2
  have hzr : Ur ρ 83 k 0 = nI z := by rw [← hN.1.q.2.2.2.2.2.2.2]; exact hz
  have hC := cap_le h3
  have t83 : tn (nd σ k 83 0) = z := by rw [h2]; exact tn_nI (by omega)
  have hw : ∀ t, t < z → Ur ρ 44 k t = -1 ∨ ∃ s, s < 4 ∧ Ur ρ 44 k t = nI s := fun t ht => by rw [← nd_a (σ := Ur ρ) (f := 44) rfl, ← (hN.1.2.2.1 t (by omega)).1]; exact h8 t ht
  obtain ⟨gone, hgo, hgz⟩ : ∃ g, g = min l z ∧ g ≤ z := ⟨_, rfl, by omega⟩
  obtain ⟨σ1, e1, f1, w1⟩ := kpo (q := z - gone) hz (by omega) h4 hC (by rw [← nd_a (σ := σ) (f := 47) rfl]; exact h5) (by rw [← nd_a (σ := σ) (f := 48) rfl]; exact h6) (by rw [← nd_a (σ := σ) (f := 49) rfl]; exact h7) (fun t ht => by rw [← nd_a (σ := σ) (f := 44) rfl]; exact h8 t (by omega))
  -- the class
  have hcl : F_X5_bringDown σ k (nI l) = some (pt (pt (pt (pt σ1 25 k 0 0) 29 k 0 (-1)) 28 k 0 0) 11 0 0 (σ 11 0 0 + nI gone), nI gone) := by
    unfold F_X5_bringDown F_X3_fall F_X4_keptOf
    rw [hz, imin_nI (by omega) (by omega), ← hgo, tn_sub hgz, lt_eq, bd_s, e1, lt_eq, lt_eq, lt_eq, bd_s, lt_eq, tn_sub (show z - gone ≤ z by omega), show z - (z - gone) = gone by omega]
    have : pt (pt (pt σ1 25 k 0 0) 29 k 0 (-1)) 28 k 0 0 11 0 0 = σ 11 0 0 := by simp [pt]; exact f1.o (nc_g (by omega))
    rw [this]
  -- the reference
  have r14 : ρ.1 14 k = nI z := by rw [Ur_rd (um_14 hk), hzr]
  have hU1 : Ur (rp ρ 14 k (nI (z - gone))) = pt (Ur ρ) 83 k 0 (nI (z - gone)) := Ur_rp (um_14 hk)
  have hX1 : Xr (rp ρ 14 k (nI (z - gone))) = Xr ρ := Xr_rp (by decide)
  have hm : F_X6_doCrash ρ (nI k) (nI l) = B_X6_doCrash_20 (nI k) (nI l) ρ (nI gone) := by
    unfold F_X6_doCrash
    rw [g7 hk, t7 hk, r14]
    by_cases hle : z ≤ l
    · rw [if_pos (nI_le hle hl), g7 hk, show gone = z by omega]
    · rw [if_neg (nI_ge (by omega) (by omega)), show gone = l by omega]
  generalize hr1 : rp ρ 14 k (nI (z - gone)) = ρ1 at hU1 hX1
  obtain ⟨ρ2, e2, hX2, f2, w2⟩ := fl_r (ρ := ρ1) (z := z - gone) hk (by rw [hU1]; simp [pt]) (by omega) (fun t ht => by rw [hU1]; simp [pt]; exact hw t (by omega))
  obtain ⟨ρ3, e3, hX3, f3, s1, s2, s3⟩ := show_r (ρ := ρ2) hk
  have hrr : F_X6_doCrash ρ (nI k) (nI l) = some (rp (rp (rp (rp ρ3 4 k 0) 18 k (-1)) 7 k 0) 26 0 (ρ3.1 26 0 + nI gone), nI gone) := by
    rw [hm]
    unfold B_X6_doCrash_20
    rw [g7 hk, g7 hk, lt_eq, t7 hk, r14, tn_sub hgz, hr1, e2, bd_s, e3, bd_s, g7 hk, lt_eq, g7 hk, lt_eq, g7 hk, lt_eq, lt_eq]
    rw [rp_n2 (show (26 : Nat) ≠ 7 by decide), rp_n2 (show (26 : Nat) ≠ 18 by decide), rp_n2 (show (26 : Nat) ≠ 4 by decide)]
  have f23 : Fr k (Ur ρ) (Ur ρ3) := Fr.tr (σ' := Ur ρ1) (by rw [hU1]; exact Fr.pa rfl) (Fr.tr f2 f3)
  have r26 : ρ3.1 26 0 = σ 11 0 0 := by rw [Ur_rd um_26, f23.o (nc_g (by omega))]; exact hG.2.2.2.2.1.symm
  have hk2 : KpN (nd (Ur ρ) k) (z - gone) (nd (Ur ρ3) k) := by
    refine KpN.of_show (n1 := nd (Ur ρ2) k) ?_ s1 s2 s3
    rw [hU1, nd_pa rfl] at w2
    exact w2.nu83
  have hNk : NR True (8 * c + 16) c M (nd σ1 k) (nd (Ur ρ3) k) := kp_nr hM hN h2 (by omega) (show z - gone ≤ z by omega) w1 hk2
  have hU4 : Ur (rp (rp (rp (rp ρ3 4 k 0) 18 k (-1)) 7 k 0) 26 0 (ρ3.1 26 0 + nI gone)) = pt (pt (pt (pt (Ur ρ3) 25 k 0 0) 29 k 0 (-1)) 28 k 0 0) 11 0 0 (σ 11 0 0 + nI gone) := by rw [Ur_rp um_26, Ur_rp (um_7 hk), Ur_rp (um_18 hk), Ur_rp (um_4 hk), r26]
  refine ⟨_, _, nI gone, hcl, hrr, by rw [Xr_rp (by decide), Xr_rp (by decide), Xr_rp (by decide), Xr_rp (by decide), hX3, hX2, hX1], ⟨?_, ?_, fun s hs => ?_⟩, fun f j a => ?_⟩
  · rw [hU4]
    have hb := hG.fr (Fr.tr f1 (Fr.tr (Fr.pa (f := 25) (j := 0) (v := 0) rfl) (Fr.tr (Fr.pa (f := 29) (j := 0) (v := -1) rfl) (Fr.pa (f := 28) (j := 0) (v := 0) rfl)))) (Fr.tr f23 (Fr.tr (Fr.pa (f := 25) (j := 0) (v := 0) rfl) (Fr.tr (Fr.pa (f := 29) (j := 0) (v := -1) rfl) (Fr.pa (f := 28) (j := 0) (v := 0) rfl))))
    obtain ⟨g1, g2, g3, g4, g5, g6, g7⟩ := hb
    unfold GR
    refine ⟨?_, ?_, ?_, ?_, by simp [pt], ?_, fun j hj => ?_⟩
    · simpa [pt] using g1
    · simpa [pt] using g2
    · simpa [pt] using g3
    · simpa [pt] using g4
    · simpa [pt] using g6
    · simpa [pt] using g7 j hj
  · rw [hU4]
    intro i hi
    rw [nd_pf (f := 11) rfl, nd_pf (f := 11) rfl]
    by_cases e : i = k
    · subst e
      rw [nd_pa rfl, nd_pa rfl, nd_pa rfl, nd_pa rfl, nd_pa rfl, nd_pa rfl]
      have hA := nr_29 hNk
      rw [nu_comm (n := nd σ1 i) (by decide), nu_comm (n := nd (Ur ρ3) i) (by decide)]
      exact nr_28 ⟨0, by omega, rfl⟩ (nr_dn (by rw [nu_n (by decide)]; exact w1.1) nu_s hA)
    · have hf : ∀ τ : CS, nd (pt (pt (pt τ 25 k 0 0) 29 k 0 (-1)) 28 k 0 0) i = nd τ i := fun τ => by rw [nd_pn (by omega) (by omega), nd_pn (by omega) (by omega), nd_pn (by omega) (by omega)]
      rw [hf, hf, f1.node hi hk e, f23.node hi hk e]
      exact hJ i hi
  · rw [hU4]
    refine ((hD s hs).fr f1 f23).cg (fun f a b => ?_) (fun f a b => ?_)
    · simp only [pt]; rw [if_neg (by omega), if_neg (by omega), if_neg (by omega), if_neg (by omega)]
    · simp only [pt]; rw [if_neg (by omega), if_neg (by omega), if_neg (by omega), if_neg (by omega)]
  · simp only [pt]; rw [if_neg (by omega), if_neg (by omega), if_neg (by omega), if_neg (by omega)]
    exact f1.o (nc_r a)
/-- the slots that a disk has accepted: both counts -/
theorem acs_c {σ : CS} {k : Nat} : F_X1_acceptedSlots σ k = some (σ, sm 4 (fun s => if σ 43 k s = -1 then 0 else 1)) := by
  unfold F_X1_acceptedSlots B_X1_acceptedSlots_4
  refine lo3_sum σ 4 (fun s => if σ 43 k s = -1 then 0 else 1) (fun acc => some (σ, acc)) (fun K acc i hi => ?_) (fun K acc => ?_) 4096 (by decide)
  · rw [if_neg (show ¬ (4 : Int32) ≤ nI i from nI_ge hi (by decide)), g4 hi, t4 hi]
    unfold B_X1_acceptedSlots_25 F_X5_asNumber
    by_cases h : σ 43 k i = -1
    · rw [if_pos h, if_pos rfl, bd_s, lt_eq, lt_eq, nI_1]
      simp only [if_pos h]
    · rw [if_neg h, if_neg (by decide), bd_s, lt_eq, lt_eq, nI_1]
      simp only [if_neg h]
  · rw [if_pos (show (4 : Int32) ≤ nI 4 by decide)]
theorem add0 (x : Int32) : x + 0 = x := Int32.add_zero x
theorem sm_tail {n m : Nat} {f : Nat → Int32} (h : n ≤ m) (hz : ∀ i, n ≤ i → i < m → f i = 0) : sm m f = sm n f := by
  induction m with
  | zero =>
    have : n = 0 := by omega
    subst this; rfl
  | succ m ih =>
    by_cases e : n = m + 1
    · subst e; rfl
    · simp only [sm]
      rw [hz m (by omega) (by omega), add0]
      exact ih (by omega) (fun i h1 h2 => hz i h1 (by omega))
set_option maxHeartbeats 4000000 in
theorem wipe_2 {c N M L k : Nat} {σ : CS} {ρ : RS} (hk : k < 7) (hc : c ≤ 512) (h : Jc c N M L σ ρ) (hdn : σ 25 k 0 = 0) : ∃ σ' ρ' r, F_X3_loseDisk σ k = some (σ', r) ∧ F_X6_doWipe ρ (nI k) = some (ρ', r) ∧ Xr ρ' = Xr ρ ∧ Jc c N M L σ' ρ' ∧ ∀ f j, (70 ≤ f ∧ f ≤ 76 ∨ f = 40) → σ' f 0 j = σ f 0 j := by
  obtain ⟨hG, hJ, hD⟩ := h
  have hM : M ≤ 4 := hG.2.1.2.2.2
  have hN := hJ k hk
  have h7 : ¬ (7 + k = k) := by omega
  have h7' : ¬ (k = 7 + k) := by omega
  obtain ⟨⟨⟨e1, e2, e3, e4, e5, e6, e7, e8⟩, e9, e10, e11⟩, z, ⟨a1, a2, a3, a4⟩, ⟨c1, c2, c3, c4, c5⟩, ⟨w1, w2⟩, ⟨v1, v2⟩, hj, hr⟩ := hN
  have hz0 : z = 0 := c4 (by rw [nd_a rfl]; exact hdn)
  subst hz0
  have hr0 : nd σ k 29 0 = -1 := by
    rcases hr with h | ⟨_, h2, _⟩
    · exact h
    · rw [nd_a rfl, hdn] at h2; exact absurd h2 (by decide)
  -- the counts
  have hcnt : sm 4 (fun s => if σ 43 k s = -1 then (0 : Int32) else 1) = sm M (fun s => if Ur ρ 42 k s ≤ 0 then (0 : Int32) else 1) := by
    rw [sm_tail hM (fun i h1 h2 => ?_)]
    · refine sm_cong (fun i hi => ?_)
      have hd := w2 i (by omega)
      have he := (e9 i (by omega)).1
      rw [nd_a rfl, nd_a rfl] at he hd
      rw [← he]
      rcases hd with ⟨q1, q2⟩ | ⟨⟨b, q1, q2, q3⟩, ⟨v, q4, q5⟩, _⟩
      · rw [q1, q2, if_pos rfl, if_pos (by decide)]
      · rw [q3, q5, if_neg (nI_m1 (by omega)), if_neg (nI_nle q1 (by omega))]
    · have hd := w2 i h2
      rw [nd_a rfl, nd_a rfl] at hd
      rcases hd with ⟨_, q2⟩ | ⟨_, _, q3⟩
      · rw [if_pos q2]
      · omega
  obtain ⟨ρ1, ew, hX1, f1, x1, x2, x3, x4⟩ := wipe_r (ρ := ρ) hk
  have hrr : F_X6_doWipe ρ (nI k) = some (rp ρ1 5 k 0, sm M (fun s => if Ur ρ 42 k s ≤ 0 then (0 : Int32) else 1)) := by
    unfold F_X6_doWipe B_X6_doWipe_4
    refine lo3_sum ρ M (fun s => if Ur ρ 42 k s ≤ 0 then (0 : Int32) else 1) (fun acc => some (rp ρ1 5 k 0, acc)) (fun K acc i hi => ?_) (fun K acc => ?_) 4096 (by omega)
    · have hM2 : ρ.1 2 0 = nI M := by rw [Ur_rd um_2]; exact hG.2.1.2.1
      have r9 : ρ.1 9 (4 * k + i) = Ur ρ 42 k i := Ur_rd (um_9 hk (by omega))
      rw [hM2, if_neg (nI_ge hi (by omega)), at_eq, bd_s, g28 hk (by omega), t28 hk (by omega), r9]
      unfold B_X6_doWipe_31
      by_cases hb : Ur ρ 42 k i ≤ 0
      · rw [if_pos hb, lt_eq, lt_eq, nI_1]; simp only [if_pos hb]
      · rw [if_neg hb, lt_eq, lt_eq, nI_1]; simp only [if_neg hb]
    · have hM2 : ρ.1 2 0 = nI M := by rw [Ur_rd um_2]; exact hG.2.1.2.1
      rw [hM2, if_pos (nI_le (Nat.le_refl M) (by omega)), ew, bd_s, g7 hk, t7 hk, lt_eq]
  have hcl : F_X3_loseDisk σ k = some (pt (pf (pf (pt (pf (pf (pt σ 60 k 0 0) 42 k 4 0) 43 k 4 (-1)) 60 (7 + k) 0 0) 42 (7 + k) 4 0) 43 (7 + k) 4 (-1)) 26 k 0 0, sm 4 (fun s => if σ 43 k s = -1 then 0 else 1)) := by
    unfold F_X3_loseDisk
    rw [acs_c, bd_s]
    rfl
  have hU : Ur (rp ρ1 5 k 0) = pt (Ur ρ1) 26 k 0 0 := Ur_rp (um_5 hk)
  have f2 : Fr k (Ur ρ) (Ur (rp ρ1 5 k 0)) := by rw [hU]; exact Fr.tr f1 (Fr.pa rfl)
  rw [hcl, hrr, hcnt]
  generalize hs : pt (pf (pf (pt (pf (pf (pt σ 60 k 0 0) 42 k 4 0) 43 k 4 (-1)) 60 (7 + k) 0 0) 42 (7 + k) 4 0) 43 (7 + k) 4 (-1)) 26 k 0 0 = σ'
  have fr : Fr k σ σ' := fun f o j hq => by
    rw [← hs]
    simp only [pt, pf]
    have n60 : nc 60 = true := rfl
    have n42 : nc 42 = true := rfl
    have n43 : nc 43 = true := rfl
    have n26 : nc 26 = true := rfl
    rw [if_neg (fun z => hq ⟨by rw [z.1]; rfl, Or.inl z.2.1⟩), if_neg (fun z => hq ⟨by rw [z.1]; rfl, Or.inr z.2.1⟩), if_neg (fun z => hq ⟨by rw [z.1]; rfl, Or.inr z.2.1⟩), if_neg (fun z => hq ⟨by rw [z.1]; rfl, Or.inr z.2.1⟩), if_neg (fun z => hq ⟨by rw [z.1]; rfl, Or.inl z.2.1⟩), if_neg (fun z => hq ⟨by rw [z.1]; rfl, Or.inl z.2.1⟩), if_neg (fun z => hq ⟨by rw [z.1]; rfl, Or.inl z.2.1⟩)]
  have q26 : nd σ' k 26 0 = 0 := by rw [nd_a rfl, ← hs]; simp [pt]
  have q60 : nd σ' k 60 0 = 0 := by rw [nd_a rfl, ← hs]; simp [pt, pf, h7']
  have q160 : nd σ' k 160 0 = 0 := by rw [show (160 : Nat) = 100 + 60 from rfl, nd_b rfl, ← hs]; simp [pt, pf, h7]
  have qs : ∀ s, s < 4 → nd σ' k 42 s = 0 ∧ nd σ' k 43 s = -1 ∧ nd σ' k 142 s = 0 ∧ nd σ' k 143 s = -1 := fun s hs' => by
    rw [show (142 : Nat) = 100 + 42 from rfl, show (143 : Nat) = 100 + 43 from rfl, nd_b rfl, nd_b rfl, nd_a rfl, nd_a rfl, ← hs]
    simp [pt, pf, h7, h7', hs']
  have qo : ∀ f j, f ≠ 26 → f ≠ 60 → f ≠ 42 → f ≠ 43 → f ≠ 160 → f ≠ 142 → f ≠ 143 → nd σ' k f j = nd σ k f j := fun f j g1 g2 g3 g4 g5 g6 g7 => by
    simp only [nd]
    by_cases hf : nc f = true
    · simp only [hf, if_true]; rw [← hs]; simp [pt, pf, g1, g2, g3, g4]
    · by_cases hf2 : 100 ≤ f ∧ nc (f - 100) = true
      · have y1 : ¬ f - 100 = 60 := by omega
        have y2 : ¬ f - 100 = 42 := by omega
        have y3 : ¬ f - 100 = 43 := by omega
        simp only [hf, hf2, if_true, and_self]; simp; rw [← hs]; simp [pt, pf, y1, y2, y3, h7]
      · simp [hf, hf2]
  have m26 : nd (Ur (rp ρ1 5 k 0)) k 26 0 = 0 := by rw [hU, nd_pa rfl]; exact nu_s
  have mo : ∀ f j, f ≠ 26 → nd (Ur (rp ρ1 5 k 0)) k f j = nd (Ur ρ1) k f j := fun f j hf => by rw [hU, nd_pa rfl, nu_n hf]
  refine ⟨σ', _, _, rfl, rfl, (Xr_rp (by decide)).trans hX1, ⟨hG.fr fr f2, hJ.fr hk fr f2 (fun _ _ => Nat.le_refl _) ?_, fun s hs => (hD s hs).fr fr f2⟩, fun f j a => fr.o (nc_r a)⟩
  have go : ∀ f j, f ≠ 26 → f ≠ 60 → f ≠ 42 → f ≠ 43 → f ≠ 160 → f ≠ 142 → f ≠ 143 → nd (Ur (rp ρ1 5 k 0)) k f j = nd (Ur ρ) k f j := fun f j g1 g2 g3 g4 g5 g6 g7 => by rw [mo f j g1]; exact x4 f j g5 g6 g7 g2 g3 g4
  have t0 : tn (nd σ k 83 0) = 0 := by rw [c2]; rfl
  refine ⟨⟨⟨?_, by rw [q26, m26], ?_, ?_, fun _ => ?_, ?_, ?_, ?_⟩, fun s hs' => ?_, fun j hj2 => ?_, fun _ hne => ?_⟩, 0, ⟨?_, by rw [q26]; rfl, ?_, ?_⟩, ⟨Nat.zero_le _, ?_, ?_, fun _ => rfl, fun _ => rfl⟩, ⟨fun j hj2 => by omega, fun s hs' => ?_⟩, ⟨?_, fun s hs' => ?_⟩, fun _ => ⟨q60, fun s hs' => ⟨(qs s hs').1, (qs s hs').2.1⟩⟩, Or.inl ?_⟩
  · rw [qo _ _ (by decide) (by decide) (by decide) (by decide) (by decide) (by decide) (by decide), go _ _ (by decide) (by decide) (by decide) (by decide) (by decide) (by decide) (by decide)]; exact e1
  · rw [qo _ _ (by decide) (by decide) (by decide) (by decide) (by decide) (by decide) (by decide), go _ _ (by decide) (by decide) (by decide) (by decide) (by decide) (by decide) (by decide)]; exact e3
  · rw [qo _ _ (by decide) (by decide) (by decide) (by decide) (by decide) (by decide) (by decide), go _ _ (by decide) (by decide) (by decide) (by decide) (by decide) (by decide) (by decide)]; exact e4
  · rw [qo _ _ (by decide) (by decide) (by decide) (by decide) (by decide) (by decide) (by decide), go _ _ (by decide) (by decide) (by decide) (by decide) (by decide) (by decide) (by decide)]; exact e5 trivial
  · rw [q60, mo _ _ (by decide), x2]
  · rw [q160, mo _ _ (by decide), x1]
  · rw [qo _ _ (by decide) (by decide) (by decide) (by decide) (by decide) (by decide) (by decide), go _ _ (by decide) (by decide) (by decide) (by decide) (by decide) (by decide) (by decide)]; exact e8
  · obtain ⟨y1, y2, y3, y4⟩ := qs s hs'
    obtain ⟨u1, u2, u3, u4⟩ := x3 s hs'
    rw [y1, y2, y3, y4, mo _ _ (by decide), mo _ _ (by decide), mo _ _ (by decide), mo _ _ (by decide), u1, u2, u3, u4]
    exact ⟨rfl, rfl, rfl, rfl⟩
  · rw [qo _ _ (by decide) (by decide) (by decide) (by decide) (by decide) (by decide) (by decide), t0] at hj2
    omega
  · rw [qo _ _ (by decide) (by decide) (by decide) (by decide) (by decide) (by decide) (by decide)] at hne
    exact absurd hr0 hne
  · rw [qo _ _ (by decide) (by decide) (by decide) (by decide) (by decide) (by decide) (by decide)]; exact a1
  · rw [qo _ _ (by decide) (by decide) (by decide) (by decide) (by decide) (by decide) (by decide)]; exact a3
  · rw [q60]; exact ⟨0, by omega, rfl⟩
  · rw [qo _ _ (by decide) (by decide) (by decide) (by decide) (by decide) (by decide) (by decide)]; exact c2
  · obtain ⟨C, k1, k2, k3, k4, k5⟩ := c3
    refine ⟨C, k1, k2, ?_, ?_, ?_⟩
    · rw [qo _ _ (by decide) (by decide) (by decide) (by decide) (by decide) (by decide) (by decide)]; exact k3
    · rw [qo _ _ (by decide) (by decide) (by decide) (by decide) (by decide) (by decide) (by decide)]; exact k4
    · rw [qo _ _ (by decide) (by decide) (by decide) (by decide) (by decide) (by decide) (by decide)]; exact k5
  · rw [(qs s hs').1, (qs s hs').2.1]; exact Or.inl ⟨rfl, rfl⟩
  · simp only [apP]; rw [q160, q60]
  · simp only [apB, apV]; obtain ⟨y1, y2, y3, y4⟩ := qs s hs'; rw [y1, y2, y3, y4]; exact ⟨rfl, rfl⟩
  · rw [qo _ _ (by decide) (by decide) (by decide) (by decide) (by decide) (by decide) (by decide)]; exact hr0
theorem up_2 {c N M L k : Nat} {σ : CS} {ρ : RS} (hk : k < 7) (h : Jc c N M L σ ρ) : ∃ σ' ρ' r, F_X3_bringUp σ k = some (σ', r) ∧ F_X6_doRestart ρ (nI k) = some (ρ', r) ∧ Xr ρ' = Xr ρ ∧ Jc c N M L σ' ρ' ∧ ∀ f j, (70 ≤ f ∧ f ≤ 76 ∨ f = 40) → σ' f 0 j = σ f 0 j := by
  obtain ⟨hG, hJ, hD⟩ := h
  have q := (hJ k hk).1.q
  have r6 : ρ.1 6 k = σ 27 k 0 := by rw [Ur_rd (um_6 hk)]; exact q.2.2.1.symm
  have hcl : F_X3_bringUp σ k = some (pt (pt σ 25 k 0 1) 27 k 0 (σ 27 k 0 + 1), σ 27 k 0 + 1) := by
    unfold F_X3_bringUp
    rw [lt_eq, lt_eq]
    simp [pt]
  have hrr : F_X6_doRestart ρ (nI k) = some (rp (rp ρ 4 k 1) 6 k (σ 27 k 0 + 1), σ 27 k 0 + 1) := by
    unfold F_X6_doRestart
    rw [g7 hk, lt_eq, g7 hk, g7 hk, t7 hk, rp_n2 (show (6 : Nat) ≠ 4 by decide), r6, lt_eq, g7 hk, rp_se]
  have hU : Ur (rp (rp ρ 4 k 1) 6 k (σ 27 k 0 + 1)) = pt (pt (Ur ρ) 25 k 0 1) 27 k 0 (σ 27 k 0 + 1) := by rw [Ur_rp (um_6 hk), Ur_rp (um_4 hk)]
  have f1 : ∀ τ : CS, Fr k τ (pt (pt τ 25 k 0 1) 27 k 0 (σ 27 k 0 + 1)) := fun τ => Fr.tr (Fr.pa rfl) (Fr.pa rfl)
  refine ⟨_, _, _, hcl, hrr, by rw [Xr_rp (by decide), Xr_rp (by decide)], ⟨by rw [hU]; exact hG.fr (f1 _) (f1 _), ?_, fun s hs => by rw [hU]; exact (hD s hs).fr (f1 _) (f1 _)⟩, fun f j a => (f1 σ).o (nc_r a)⟩
  rw [hU]
  refine hJ.fr hk (f1 _) (f1 _) (fun _ _ => Nat.le_refl _) ?_
  rw [nd_pa rfl, nd_pa rfl, nd_pa rfl, nd_pa rfl]
  exact nr_27 (nr_up (hJ k hk))
