/-! ===== what would be held after a crash ===== -/
def O14 (σ σ' : CS) : Prop := ∀ f o j, o ≠ 14 → σ' f o j = σ f o j
theorem O14.trans {a b d : CS} (h : O14 a b) (h' : O14 b d) : O14 a d := fun f o j q => (h' f o j q).trans (h f o j q)
theorem O14.n {σ σ' : CS} {i : Nat} (h : O14 σ σ') (hi : i < 7) : nd σ' i = nd σ i := nd_ext (fun f j _ => h f i j (by omega)) (fun f j _ => h f (7 + i) j (by omega))
theorem Jc.o14 {c N M L : Nat} {σ σ' : CS} {ρ : RS} (h : Jc c N M L σ ρ) (q : O14 σ σ') : Jc c N M L σ' ρ :=
  ⟨h.1.cg (fun f j _ => q f 0 j (by decide)) (fun _ _ _ => rfl), h.2.1.cg (fun i hi => q.n hi) (fun _ _ => rfl) (fun _ => Nat.le_refl _), fun s hs => (h.2.2 s hs).cg (fun f _ _ => q f s 0 (by omega)) (fun _ _ _ => rfl)⟩
theorem O14.v {σ σ' : CS} {s : Nat} {b v : Int32} (h : O14 σ σ') (hs : s < 4) : hv σ' s b v = hv σ s b v := by
  unfold hv
  rw [h 52 s 0 (by omega), h 51 s 0 (by omega), h 50 s 0 (by omega)]
theorem O14.d {σ σ' : CS} {o s : Nat} (h : O14 σ σ') (hs : s < 4) (ho : o ≠ 14) : hdv σ' o s = hdv σ o s := by
  unfold hdv
  rw [h.v hs, h 42 o s ho, h 43 o s ho]
theorem O14.c {σ σ' : CS} {N s : Nat} (h : O14 σ σ') (hN : N ≤ 7) (hs : s < 4) : hcv σ' N s = hcv σ N s := sm_cong (fun i hi => h.d hs (by omega))
theorem O14.p {σ σ' : CS} {N s : Nat} (h : O14 σ σ') (hN : N ≤ 7) (hs : s < 4) : prt σ' N s = prt σ N s := by
  unfold prt
  rw [h 52 s 0 (by omega), h.c hN hs]
def hqv (σ : CS) (k q s : Nat) : Int32 := hv σ s (apB (nd σ k) (σ 42 k) q s) (apV (nd σ k) (σ 43 k) q s)
def lossv (σ : CS) (N k q s : Nat) : Int32 := hcv σ N s - hdv σ (7 + k) s + hqv σ k q s
/-- the scratch disk holds node k's disk and its first q writes -/
def Sc (k q : Nat) (σ a : CS) : Prop := O14 σ a ∧ ∀ s, s < 4 → a 42 14 s = apB (nd σ k) (σ 42 k) q s ∧ a 43 14 s = apV (nd σ k) (σ 43 k) q s
theorem Sc.h {k q s : Nat} {σ a : CS} (h : Sc k q σ a) (hs : s < 4) : hdv a 14 s = hqv σ k q s := by
  unfold hdv hqv
  rw [h.1.v hs, (h.2 s hs).1, (h.2 s hs).2]
theorem cp14 {σ : CS} {k : Nat} (hk : k < 7) : ∃ a, F_X1_copyFrom σ 14 k = some (a, ()) ∧ Sc k 0 σ a := by
  unfold F_X1_copyFrom
  simp only [lt_eq]
  refine ⟨_, rfl, fun f o j ho => ?_, fun s hs => ?_⟩
  · simp [pcp, pt, ho]
  · have e : ¬ k = 14 := by omega
    simp [pcp, pt, hs, apB, apV, e]
theorem Jc.ws {c N M L k : Nat} {σ : CS} {ρ : RS} (hJ : Jc c N M L σ ρ) (hk7 : k < 7) : ∃ z C, z ≤ c ∧ σ 83 k 0 = nI z ∧ cap C ∧ z ≤ C ∧ σ 47 k 0 = nI C ∧ σ 48 k 0 = nI C ∧ σ 49 k 0 = nI C ∧ ∀ t, t < z → σ 44 k t = -1 ∨ ∃ s, s < 4 ∧ σ 44 k t = nI s := by
  obtain ⟨z, C, h1, h2, h3, h4, h5, h6, h7, h8⟩ := (hJ.2.1 k hk7).2.wf hJ.1.2.1.2.2.2
  rw [nd_a rfl] at h2 h5 h6 h7
  refine ⟨z, C, h1, h2, h3, h4, h5, h6, h7, fun t ht => ?_⟩
  have := h8 t ht
  rw [nd_a rfl] at this
  exact this
theorem Ap.sc {k q0 q : Nat} {σ a a' : CS} (hk : k < 7) (h : Sc k 0 σ a) (hA : Ap k 14 q a a') : Sc k q σ a' := by
  have hO : O14 σ a' := h.1.trans (fun f o j ho => hA.1 f o j (fun e => ho e.1))
  refine ⟨hO, fun s hs => ?_⟩
  rw [(hA.2.2 s hs).1, (hA.2.2 s hs).2, h.1.n hk]
  exact ⟨apB_cong (h.2 s hs).1 (fun _ _ => ⟨rfl, rfl⟩), apV_cong (h.2 s hs).2 (fun _ _ => ⟨rfl, rfl⟩)⟩
theorem hal_c {c N M L k l s z : Nat} {σ : CS} {ρ : RS} (hJ : Jc c N M L σ ρ) (hk7 : k < 7) (hs : s < 4) (hl : l < 2 ^ 31) (hz : σ 83 k 0 = nI z) (hz5 : z < 2 ^ 30) : ∃ σ', F_X5_holdersAfterLoss σ k (nI l) (nI s) = some (σ', lossv σ N k (z - l) s) ∧ O14 σ σ' := by
  have h6 := hJ.1.1.1
  have hN := hJ.1.1.2.2.2
  obtain ⟨z', C, h1, h2, h3, h4, h5, h6', h7, h8⟩ := hJ.ws hk7
  have hC := cap_le h3
  have ez : z' = z := nI_inj (by omega) (by omega) (h2.symm.trans hz)
  subst ez
  obtain ⟨a, ea, hS⟩ := cp14 (σ := σ) hk7
  have g : ∀ f j, a f k j = σ f k j := fun f j => hS.1 f k j (by omega)
  obtain ⟨b, eb, hA⟩ := coo (σ := a) (k := k) (o := 14) (q := z' - l) (by rw [g]; exact hz) (by omega) h4 hC (by rw [g]; exact h5) (by rw [g]; exact h6') (by rw [g]; exact h7) (fun t ht => by rw [g]; exact h8 t (by omega))
  have hB := hA.sc (q0 := 0) hk7 hS
  refine ⟨b, ?_, hB.1⟩
  unfold F_X5_holdersAfterLoss F_X4_keptOf
  rw [ea, bd_s, bd_s, g, hz, imin_nI hl (by omega), tn_sub (Nat.min_le_right l z'), show z' - min l z' = z' - l by omega, eb, bd_s, hs_c (by rw [hB.1 6 0 0 (by decide)]; exact h6) hN hs, bd_s, hld_c hs, bd_s, asn_c, bd_s, hld_c hs, bd_s, asn_c, bd_s, hB.h hs, hB.1.c hN hs, hB.1.d hs (by omega)]
  unfold lossv hqv hdv
  rw [hv_a, hv_a]
theorem Jc.wr {c N M L k t z : Nat} {σ : CS} {ρ : RS} (hJ : Jc c N M L σ ρ) (hk7 : k < 7) (hz : σ 83 k 0 = nI z) (hz5 : z < 2048) (ht : t < z) : ρ.1 15 (2048 * k + t) = σ 44 k t ∧ ρ.1 16 (2048 * k + t) = σ 45 k t ∧ ρ.1 17 (2048 * k + t) = σ 46 k t := by
  have hj2 : t < 2048 := by omega
  obtain ⟨e1, e2, e3⟩ := (hJ.2.1 k hk7).1.2.2.1 t (by rw [nd_a rfl, hz, tn_nI (by omega)]; exact ht)
  simp only [nd_a (show nc 44 = true from rfl), nd_a (show nc 45 = true from rfl), nd_a (show nc 46 = true from rfl)] at e1 e2 e3
  rw [Ur_rd (um_15 hk7 hj2), e1, Ur_rd (um_16 hk7 hj2), e2, Ur_rd (um_17 hk7 hj2), e3]
  exact ⟨rfl, rfl, rfl⟩
theorem wh_r {c N M L k q s z : Nat} {σ : CS} {ρ : RS} (hJ : Jc c N M L σ ρ) (hk7 : k < 7) (hs : s < 4) (hz : σ 83 k 0 = nI z) (hz5 : z < 2048) (hq : q ≤ z) : F_X6_wouldHold ρ (nI k) (nI s) (nI q) = some (ρ, hqv σ k q s) := by
  unfold F_X6_wouldHold
  rw [at_eq, bd_s, g28 hk7 hs, lt_eq, at_eq, bd_s, g28 hk7 hs, lt_eq, lt_eq, t28 hk7 hs, hJ.r9 hk7 hs, hJ.r10 hk7 hs, m2048]
  unfold B_X6_wouldHold_31
  refine lo4_it (2048 * k + q) (fun i a b v => ∃ t, i = 2048 * k + t ∧ a = ρ ∧ b = apB (nd σ k) (σ 42 k) t s ∧ v = apV (nd σ k) (σ 43 k) t s) (fun r => r = some (ρ, hqv σ k q s)) ?_ ?_ q (2048 * k) 4096 ρ _ _ (by omega) (by omega) ⟨0, rfl, rfl, rfl, rfl⟩
  · rintro i a b v hi ⟨t, rfl, rfl, rfl, rfl⟩
    obtain ⟨e1, e2, e3⟩ := hJ.wr hk7 hz hz5 (show t < z by omega)
    refine ⟨a, apB (nd σ k) (σ 42 k) (t + 1) s, apV (nd σ k) (σ 43 k) (t + 1) s, ⟨t + 1, by omega, rfl, rfl, rfl⟩, fun K => ?_⟩
    unfold B_X6_wouldHold_66 B_X6_wouldHold_91
    rw [m2048, nI_add, if_neg (nI_ge hi (by omega)), gw hk7 (by omega), gw hk7 (by omega), gw hk7 (by omega), gw hk7 (by omega), tw hk7 (by omega), e1, e2, e3, lt_eq, lt_eq, lt_eq, lt_eq, nI_1]
    simp only [apB, apV, nd_a (show nc 44 = true from rfl), nd_a (show nc 45 = true from rfl), nd_a (show nc 46 = true from rfl)]
    by_cases h : σ 44 k t = nI s
    · rw [if_pos h, if_pos h, if_pos h, if_pos h]
    · rw [if_neg h, if_neg h, if_neg h, if_neg h, gw hk7 (by omega)]
  · rintro a b v K ⟨t, et, rfl, rfl, rfl⟩
    have e : t = q := by omega
    subst e
    unfold B_X6_wouldHold_134 hqv hv
    rw [m2048, nI_add, if_pos (nI_le (Nat.le_refl _) (by omega)), g4 hs, g4 hs, g4 hs, t4 hs, hJ.r20 hs, hJ.r21 hs, hJ.r22 hs]
    by_cases h1 : σ 52 s 0 ≤ 0
    · rw [if_pos h1, if_pos h1]
    · rw [if_neg h1, if_neg h1]
      by_cases h2 : apV (nd σ k) (σ 43 k) t s = σ 51 s 0
      · rw [if_pos h2, if_pos h2]
        by_cases h3 : apB (nd σ k) (σ 42 k) t s < σ 50 s 0
        · rw [if_pos h3, if_pos h3]
        · rw [if_neg h3, if_neg h3]
      · rw [if_neg h2, if_neg h2]
theorem hw_r {c N M L k l s z : Nat} {σ : CS} {ρ : RS} (hJ : Jc c N M L σ ρ) (hk7 : k < 7) (hs : s < 4) (hl : l < 2 ^ 31) (hz : σ 83 k 0 = nI z) (hz5 : z < 2048) : F_X6_holdersWith ρ (nI k) (nI s) (nI l) = some (ρ, lossv σ N k (z - l) s) := by
  have r14 : ρ.1 14 k = nI z := by rw [Ur_rd (um_14 hk7), ← (hJ.2.1 k hk7).1.q.2.2.2.2.2.2.2]; exact hz
  have e : F_X6_holdersWith ρ (nI k) (nI s) (nI l) = B_X6_holdersWith_22 (nI k) (nI s) (nI l) ρ (nI (z - l)) := by
    unfold F_X6_holdersWith
    rw [g7 hk7, g7 hk7, t7 hk7, r14]
    by_cases h : z ≤ l
    · rw [if_pos (nI_le h hl), show z - l = 0 by omega]
      rfl
    · rw [if_neg (nI_ge (by omega) (by omega)), tn_sub (by omega)]
  rw [e]
  unfold B_X6_holdersWith_22 B_X6_holdersWith_44 B_X6_holdersWith_61
  rw [hs_r hJ hs, bd_s, hld_r hJ hk7 hs, bd_s, wh_r hJ hk7 hs hz hz5 (by omega), bd_s, bd_s]
  unfold lossv hdv hqv
  rcases hv_01 σ s (σ 42 (7 + k) s) (σ 43 (7 + k) s) with h | h <;> rcases hv_01 σ s (apB (nd σ k) (σ 42 k) (z - l) s) (apV (nd σ k) (σ 43 k) (z - l) s) with h' | h' <;> rw [h, h'] <;> rfl
theorem hcv_0 {σ : CS} {N s : Nat} (h : σ 52 s 0 ≤ 0) : hcv σ N s = 0 :=
  (sm_tail (n := 0) (Nat.zero_le N) (fun i _ _ => by unfold hdv hv; rw [if_pos h])).trans rfl
theorem lossv_0 {σ : CS} {N k q s : Nat} (h : σ 52 s 0 = 0) : lossv σ N k q s = 0 := by
  have h' : σ 52 s 0 ≤ 0 := by rw [h]; decide
  unfold lossv hqv hdv hv
  rw [hcv_0 h', if_pos h', if_pos h']
  rfl
theorem sm_ifCrashed : Sm_ifCrashed Inv := by
  rintro n σ ρ hn ⟨c, N, M, L, hcL, hJ⟩ x1 x2 x3
  have hG := hJ.1
  have h6 := hG.1.1
  have hN := hG.1.2.2
  have h7 := hG.2.1.1
  have hM := hG.2.1.2.2
  have d1 := hJ.r1
  have d2 := hJ.r2
  unfold F_X5_ifCrashed F_X6_ifCrashed B_X6_ifCrashed_17 B_X6_ifCrashed_30 B_X6_ifCrashed_49
  rcases rng (x := x1) (a := 0) (b := N) (by omega) (by omega) with ⟨k, _, hk, rfl⟩ | hb
  · have hk7 : k < 7 := by omega
    rw [(nd_c h6 hN.2).1 k hk rfl, bx_l, (ndr d1 (by omega) hN.2).1 k hk rfl, bd_s, if_neg (by decide)]
    rcases rng (x := x3) (a := 0) (b := M) (by omega) (by omega) with ⟨s, _, hs, rfl⟩ | hb
    · have hs4 : s < 4 := by omega
      rw [(sl_c h7 hM.2).1 s hs rfl, bx_l, (slr d2 (by omega) hM.2).1 s hs rfl, bd_s, if_neg (by decide)]
      unfold F_X5_requireLost
      by_cases hl : 0 ≤ x2
      · obtain ⟨l, hl1, rfl⟩ := nI_of (x := x2) (fun z => Int32.lt_irrefl (Int32.lt_of_lt_of_le z hl))
        obtain ⟨z, C, hz1, hz, h3, h4, _⟩ := hJ.ws hk7
        have hC := cap_le h3
        obtain ⟨σ', e1, hO⟩ := hal_c (s := s) hJ hk7 hs4 hl1 hz (by omega)
        rw [if_pos hl, if_pos hl, bx_l, g7 hk7, t7 hk7, e1, bd_s, lt_eq, if_neg (by rw [rp_se]; decide), g4 hs4, t4 hs4, (hJ.t0 (v := 0)).r20 hs4]
        by_cases h0 : σ 52 s 0 = 0
        · rw [if_pos h0, lossv_0 h0]
          exact sw_ok (c' := c) hJ (by omega) rfl rfl rp_se (hJ.t0.o14 hO)
        · rw [if_neg h0, hw_r (hJ.t0 (v := 0)) hk7 hs4 hl1 hz (by omega), bd_s]
          exact sw_ok (c' := c) hJ (by omega) rfl rfl rp_se (hJ.t0.o14 hO)
      · rw [if_neg hl, if_neg hl, bx_r, lt_eq, if_pos (by rw [rp_se]; decide)]
        exact sw_ex hJ hcL rfl rfl (by decide)
    · rw [(sl_c h7 hM.2).2 hb, bx_r, (slr d2 (by omega) hM.2).2 hb, bd_s, if_pos rfl, lt_eq, if_pos (by rw [rp_se]; decide)]
      exact sw_ex hJ hcL rfl rfl (by decide)
  · rw [(nd_c h6 hN.2).2 hb, bx_r, (ndr d1 (by omega) hN.2).2 hb, bd_s, if_pos rfl, lt_eq, if_pos (by rw [rp_se]; decide)]
    exact sw_ex hJ hcL rfl rfl (by decide)
