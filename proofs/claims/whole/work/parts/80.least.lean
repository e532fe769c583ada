/-! ===== the fewest losses that undo a slot ===== -/
theorem sm_01 {f : Nat → Int32} (hf : ∀ i, f i = 0 ∨ f i = 1) : ∀ n, ∃ h, h ≤ n ∧ sm n f = nI h
  | 0 => ⟨0, Nat.le_refl 0, rfl⟩
  | n + 1 => by
    obtain ⟨h, h1, h2⟩ := sm_01 hf n
    rcases hf n with e | e
    · exact ⟨h, by omega, by simp only [sm]; rw [h2, e, add0]⟩
    · exact ⟨h + 1, by omega, by simp only [sm]; rw [h2, e]; exact nI_1 h⟩
theorem hcv_n (σ : CS) (N s : Nat) : ∃ h, h ≤ N ∧ hcv σ N s = nI h := sm_01 (fun _ => hv_01 _ _ _ _) N
def lf (σ : CS) (s i : Nat) : Int32 := if hdv σ (7 + i) s = 0 then 0 else if hdv σ i s = 0 then 1 else 0
theorem lf_01 (σ : CS) (s i : Nat) : lf σ s i = 0 ∨ lf σ s i = 1 := by
  unfold lf
  by_cases h1 : hdv σ (7 + i) s = 0
  · rw [if_pos h1]; exact Or.inl rfl
  · rw [if_neg h1]
    by_cases h2 : hdv σ i s = 0
    · rw [if_pos h2]; exact Or.inr rfl
    · rw [if_neg h2]; exact Or.inl rfl
theorem enf_0 : ∀ N, 3 ≤ N → N ≤ 7 → enf N (nI 0) = 0 := by
  intro N h1 h2
  have h : N = 3 ∨ N = 4 ∨ N = 5 ∨ N = 6 ∨ N = 7 := by omega
  rcases h with rfl | rfl | rfl | rfl | rfl <;> decide
theorem few_m {N h v : Nat} {x : Int32} {ρ : RS} (h1 : ρ.1 1 0 = nI N) (hN3 : 3 ≤ N) (hN : N ≤ 7) (hh : h ≤ N) (hv7 : v ≤ N) : ∀ d i f, i + d = h → d < f → v < i → B_X6_fewest_68 x f ρ (nI h) (nI v) (nI i) = some (ρ, -1)
  | 0, i, f, hi, hf, hvi => by
    obtain ⟨f, rfl⟩ : ∃ g, f = g + 1 := ⟨f - 1, by omega⟩
    show bd (F_X6_protects ρ (nI h - nI i)) _ = _
    rw [en_r h1, bd_s, tn_sub (by omega), show h - i = 0 by omega, enf_0 N hN3 hN, if_pos rfl, if_pos (nI_lt hvi (by omega))]
  | d + 1, i, f, hi, hf, hvi => by
    obtain ⟨f, rfl⟩ : ∃ g, f = g + 1 := ⟨f - 1, by omega⟩
    show bd (F_X6_protects ρ (nI h - nI i)) _ = _
    rw [en_r h1, bd_s]
    rcases enf_01 N (nI h - nI i) with e | e
    · rw [e, if_pos rfl, if_pos (nI_lt hvi (by omega))]
    · rw [e, if_neg (by decide), lt_eq, nI_1]
      exact few_m (x := x) h1 hN3 hN hh hv7 d (i + 1) f (by omega) (by omega) (by omega)
theorem few_2 {N h v : Nat} {x x' : Int32} {σ : CS} {ρ : RS} (h6 : σ 6 0 0 = nI N) (h1 : ρ.1 1 0 = nI N) (hN3 : 3 ≤ N) (hN : N ≤ 7) (hh : h ≤ N) (hv7 : v ≤ N) : ∀ d i f f', i + d = h → d + 1 < f → d < f' → ∃ r, B_X5_fewestLosers_72 x f σ (nI v) (nI h) (nI i) = some (σ, r) ∧ B_X6_fewest_68 x' f' ρ (nI h) (nI v) (nI i) = some (ρ, r)
  | d, i, f, f', hi, hf, hf' => by
    obtain ⟨f, rfl⟩ : ∃ g, f = g + 1 := ⟨f - 1, by omega⟩
    by_cases hvi : v < i
    · refine ⟨-1, ?_, few_m h1 hN3 hN hh hv7 d i f' hi hf' hvi⟩
      show (if nI v < nI i then _ else _) = _
      rw [if_pos (nI_lt hvi (by omega))]
    · obtain ⟨f', rfl⟩ : ∃ g, f' = g + 1 := ⟨f' - 1, by omega⟩
      show ∃ r, (if nI v < nI i then _ else bd (F_X5_areEnough σ (nI h - nI i)) _) = some (σ, r) ∧ bd (F_X6_protects ρ (nI h - nI i)) _ = some (ρ, r)
      rw [if_neg (nI_nlt (by omega) (by omega)), en_c h6, bd_s, en_r h1, bd_s]
      rcases enf_01 N (nI h - nI i) with e | e
      · rw [e, if_pos rfl, if_pos rfl, if_neg (nI_nlt (by omega) (by omega))]
        exact ⟨_, rfl, rfl⟩
      · rw [e, if_neg (by decide), if_neg (by decide), lt_eq, lt_eq, nI_1]
        match d, hi, hf, hf' with
        | 0, hi, hf, hf' =>
          rw [tn_sub (by omega), show h - i = 0 by omega, enf_0 N hN3 hN] at e
          exact absurd e (by decide)
        | d + 1, hi, hf, hf' => exact few_2 (x := x) (x' := x') h6 h1 hN3 hN hh hv7 d (i + 1) f f' (by omega) (by omega) (by omega)
theorem fl_c {N s : Nat} {σ : CS} (h6 : σ 6 0 0 = nI N) (hN : N ≤ 7) (hs : s < 4) : F_X5_fewestLosers σ (nI s) = B_X5_fewestLosers_72 (nI s) 4096 σ (sm N (lf σ s)) (hcv σ N s) 0 := by
  unfold F_X5_fewestLosers B_X5_fewestLosers_4
  refine lo3_sum σ N (lf σ s) (fun acc => B_X5_fewestLosers_72 (nI s) 4096 σ acc (hcv σ N s) 0) (fun K acc i hi => ?_) (fun K acc => ?_) 4096 (by omega)
  · unfold B_X5_fewestLosers_51 B_X5_fewestLosers_52 lf
    rw [h6, if_neg (nI_ge hi (by omega)), g7 (by omega), t7 (by omega), hld_c hs, bd_s, g7 (by omega), hld_c hs, bd_s, asn_c, asn_c, bd_s, bd_s, lt_eq, lt_eq, lt_eq, lt_eq, nI_1]
    rcases hv_01 σ s (σ 42 (7 + i) s) (σ 43 (7 + i) s) with h | h <;> rcases hv_01 σ s (σ 42 i s) (σ 43 i s) with h' | h' <;> unfold hdv <;> rw [h, h'] <;> rfl
  · rw [h6, if_pos (nI_le (Nat.le_refl N) (by omega)), hs_c h6 hN hs, bd_s]
theorem fl_r2 {c N M L s : Nat} {σ : CS} {ρ : RS} (hJ : Jc c N M L σ ρ) (hs : s < 4) : B_X6_fewest_22 (nI s) 4096 ρ (hcv σ N s) 0 0 = B_X6_fewest_68 (nI s) 4096 ρ (hcv σ N s) (sm N (lf σ s)) 1 := by
  have hN := hJ.1.1.2.2.2
  have gen : ∀ r, r = B_X6_fewest_68 (nI s) 4096 ρ (hcv σ N s) (sm N (lf σ s)) 1 → B_X6_fewest_22 (nI s) 4096 ρ (hcv σ N s) 0 0 = r := by
    intro R hR
    unfold B_X6_fewest_22
    refine lo4_it N (fun i a v2 v3 => a = ρ ∧ v2 = hcv σ N s ∧ v3 = sm i (lf σ s)) (fun r => r = R) ?_ ?_ N 0 4096 ρ _ 0 (by omega) (by omega) ⟨rfl, rfl, rfl⟩
    · rintro i a v2 v3 hi ⟨rfl, rfl, rfl⟩
      refine ⟨a, _, sm i (lf σ s) + lf σ s i, ⟨rfl, rfl, rfl⟩, fun K => ?_⟩
      unfold B_X6_fewest_56 B_X6_fewest_57 lf
      rw [hJ.r1, if_neg (nI_ge hi (by omega)), hld_r hJ (by omega) hs, bd_s, hod_r hJ (by omega) hs, bd_s, lt_eq, lt_eq, lt_eq, lt_eq, nI_1]
      rcases hv_01 σ s (σ 42 (7 + i) s) (σ 43 (7 + i) s) with h | h <;> rcases hv_01 σ s (σ 42 i s) (σ 43 i s) with h' | h' <;> unfold hdv <;> rw [h, h'] <;> rfl
    · rintro a v2 v3 K ⟨rfl, rfl, rfl⟩
      rw [hJ.r1, if_pos (nI_le (Nat.le_refl N) (by omega)), hR]
  exact gen _ rfl
theorem ll_2 {c N M L s : Nat} {σ : CS} {ρ : RS} (hJ : Jc c N M L σ ρ) (hs : s < 4) : ∃ r, F_X5_fewestLosers σ (nI s) = some (σ, r) ∧ F_X6_fewest ρ (nI s) = some (ρ, r) := by
  have h6 := hJ.1.1.1
  have hN := hJ.1.1.2.2
  obtain ⟨h, hh, eh⟩ := hcv_n σ N s
  obtain ⟨v, hv7, ev⟩ := sm_01 (lf_01 σ s) N
  rw [fl_c h6 hN.2 hs]
  unfold F_X6_fewest
  rw [hs_r hJ hs, bd_s, en_r hJ.r1, bd_s, fl_r2 hJ hs, eh, ev]
  have e0 : nI h - nI 0 = nI h := tn_sub (Nat.zero_le h)
  have st : ∀ f, B_X5_fewestLosers_72 (nI s) (f + 1) σ (nI v) (nI h) 0 = (if nI v < nI 0 then some (σ, (-1 : Int32)) else bd (F_X5_areEnough σ (nI h - nI 0)) fun σ115 r116 => (if r116 = 0 then some (σ115, nI 0) else lt (nI 0 + 1) fun x118 => B_X5_fewestLosers_72 (nI s) f σ115 (nI v) (nI h) x118)) := fun _ => rfl
  rw [show B_X5_fewestLosers_72 (nI s) 4096 σ (nI v) (nI h) 0 = _ from st 4095, if_neg (nI_nlt (Nat.zero_le v) (by omega)), en_c h6, bd_s, e0]
  rcases enf_01 N (nI h) with e | e
  · rw [e, if_pos rfl, if_pos rfl]
    exact ⟨_, rfl, rfl⟩
  · rw [e, if_neg (by decide), if_neg (by decide), lt_eq]
    have h0 : h ≠ 0 := fun q => by
      subst q
      rw [enf_0 N hN.1 hN.2] at e
      exact absurd e (by decide)
    exact few_2 h6 hJ.r1 hN.1 hN.2 hh hv7 (h - 1) 1 4095 4096 (by omega) (by omega) (by omega)
theorem sm_leastLosses : Sm_leastLosses Inv := by
  rintro n σ ρ hn ⟨c, N, M, L, hcL, hJ⟩ x1
  have hG := hJ.1
  have h7 := hG.2.1.1
  have hM := hG.2.1.2.2
  have d2 := hJ.r2
  unfold F_X5_leastLosses F_X6_leastLosses B_X6_leastLosses_27
  rcases rng (x := x1) (a := 0) (b := M) (by omega) (by omega) with ⟨s, _, hs, rfl⟩ | hb
  · have hs4 : s < 4 := by omega
    rw [(sl_c h7 hM.2).1 s hs rfl, bx_l, g4 hs4, t4 hs4, made_c, bd_s, (slr d2 (by omega) hM.2).1 s hs rfl, bd_s, if_neg (show ¬ (1 : Int32) = 0 by decide), g4 hs4, hJ.r20 hs4]
    unfold mde
    by_cases h0 : σ 52 s 0 ≤ 0
    · rw [if_pos h0, if_pos rfl, if_pos h0, lt_eq, if_neg (by rw [rp_se]; decide)]
      exact sw_ex hJ hcL rfl rfl (by decide)
    · obtain ⟨r, e1, e2⟩ := ll_2 (hJ.t0 (v := 0)) hs4
      rw [if_neg h0, if_neg (show ¬ (1 : Int32) = 0 by decide), if_neg h0, lt_eq, if_pos (by rw [rp_se]; decide), e1, e2, bd_s, bd_s]
      exact sw_ok (c' := c) hJ (by omega) rfl rfl rp_se hJ.t0
  · rw [(sl_c h7 hM.2).2 hb, bx_r, (slr d2 (by omega) hM.2).2 hb, bd_s, if_pos rfl, lt_eq, if_neg (by rw [rp_se]; decide)]
    exact sw_ex hJ hcL rfl rfl (by decide)
