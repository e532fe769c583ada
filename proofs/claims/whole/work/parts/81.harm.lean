/-! ===== the losses that do no harm ===== -/
theorem lo2_ex {A R : Type} {st : (A → Int32 → Option R) → A → Int32 → Option R} (N : Nat) (P : Nat → A → Prop) (Z : Option R → Prop) (hs : ∀ i a, i < N → P i a → (∀ K, Z (st K a (nI i))) ∨ ∃ a', P (i + 1) a' ∧ ∀ K, st K a (nI i) = K a' (nI (i + 1))) (he : ∀ a K, P N a → Z (st K a (nI N))) : ∀ (d i f : Nat) (a : A), i + d = N → d < f → P i a → Z (lo2 st f a (nI i)) := by
  intro d
  induction d with
  | zero =>
    intro i f a h1 h2 hP
    obtain ⟨f, rfl⟩ : ∃ g, f = g + 1 := ⟨f - 1, by omega⟩
    have e : i = N := by omega
    subst e
    exact he a _ hP
  | succ d ih =>
    intro i f a h1 h2 hP
    obtain ⟨f, rfl⟩ : ∃ g, f = g + 1 := ⟨f - 1, by omega⟩
    show Z (st (lo2 st f) a (nI i))
    rcases hs i a (by omega) hP with h | ⟨a', hP', hst⟩
    · exact h _
    · rw [hst]
      exact ih (i + 1) f a' (by omega) (by omega) hP'
def ned (σ : CS) (N k s : Nat) : Bool := if prt σ N s = 0 then false else if hdv σ (7 + k) s = 0 then false else if enf N (hcv σ N s - 1) = 0 then true else false
def bs (f : Nat → Bool) : Nat → Int32
  | 0 => 0
  | s + 1 => if f s = true then bs f s ||| ((1 : Int32) <<< (nI s &&& 31)) else bs f s
theorem bs_in1 (f : Nat → Bool) : ((bs f 1 >>> (nI 0 &&& 31)) &&& 1) = if f 0 = true then (1 : Int32) else 0 := by
  simp only [bs]
  generalize f 0 = a
  revert a; decide
theorem bs_in2 (f : Nat → Bool) : ((bs f 2 >>> (nI 0 &&& 31)) &&& 1) = (if f 0 = true then (1 : Int32) else 0) ∧ ((bs f 2 >>> (nI 1 &&& 31)) &&& 1) = if f 1 = true then (1 : Int32) else 0 := by
  simp only [bs]
  generalize f 0 = a
  generalize f 1 = b
  revert a b; decide
theorem bs_in3 (f : Nat → Bool) : ((bs f 3 >>> (nI 0 &&& 31)) &&& 1) = (if f 0 = true then (1 : Int32) else 0) ∧ ((bs f 3 >>> (nI 1 &&& 31)) &&& 1) = (if f 1 = true then (1 : Int32) else 0) ∧ ((bs f 3 >>> (nI 2 &&& 31)) &&& 1) = if f 2 = true then (1 : Int32) else 0 := by
  simp only [bs]
  generalize f 0 = a
  generalize f 1 = b
  generalize f 2 = d
  revert a b d; decide
theorem bs_in4 (f : Nat → Bool) : ((bs f 4 >>> (nI 0 &&& 31)) &&& 1) = (if f 0 = true then (1 : Int32) else 0) ∧ ((bs f 4 >>> (nI 1 &&& 31)) &&& 1) = (if f 1 = true then (1 : Int32) else 0) ∧ ((bs f 4 >>> (nI 2 &&& 31)) &&& 1) = (if f 2 = true then (1 : Int32) else 0) ∧ ((bs f 4 >>> (nI 3 &&& 31)) &&& 1) = if f 3 = true then (1 : Int32) else 0 := by
  simp only [bs]
  generalize f 0 = a
  generalize f 1 = b
  generalize f 2 = d
  generalize f 3 = e
  revert a b d e; decide
theorem bs_in (f : Nat → Bool) {M s : Nat} (hM : M ≤ 4) (hs : s < M) : ((bs f M >>> (nI s &&& 31)) &&& 1) = if f s = true then (1 : Int32) else 0 := by
  have h : M = 1 ∨ M = 2 ∨ M = 3 ∨ M = 4 := by omega
  rcases h with rfl | rfl | rfl | rfl
  · have h : s = 0 := by omega
    subst h; exact bs_in1 f
  · have h : s = 0 ∨ s = 1 := by omega
    rcases h with rfl | rfl
    · exact (bs_in2 f).1
    · exact (bs_in2 f).2
  · have h : s = 0 ∨ s = 1 ∨ s = 2 := by omega
    rcases h with rfl | rfl | rfl
    · exact (bs_in3 f).1
    · exact (bs_in3 f).2.1
    · exact (bs_in3 f).2.2
  · have h : s = 0 ∨ s = 1 ∨ s = 2 ∨ s = 3 := by omega
    rcases h with rfl | rfl | rfl | rfl
    · exact (bs_in4 f).1
    · exact (bs_in4 f).2.1
    · exact (bs_in4 f).2.2.1
    · exact (bs_in4 f).2.2.2
theorem isin_c (σ : CS) (f : Nat → Bool) {M s : Nat} (hM : M ≤ 4) (hs : s < M) : F_X5_isIn σ (bs f M) (nI s) = some (σ, if f s = true then (1 : Int32) else 0) := by
  unfold F_X5_isIn
  rw [bs_in f hM hs]
  cases f s <;> rfl
theorem stn_c {σ : CS} {N M k : Nat} (h6 : σ 6 0 0 = nI N) (hN : N ≤ 7) (h7 : σ 7 0 0 = nI M) (hM : M ≤ 4) (hk : k < 7) : F_X5_slotsThatNeed σ k = some (σ, bs (ned σ N k) M) := by
  unfold F_X5_slotsThatNeed B_X5_slotsThatNeed_4
  refine lo3_it M (fun i a v => a = σ ∧ v = bs (ned σ N k) i) (fun r => r = some (σ, bs (ned σ N k) M)) ?_ ?_ M 0 4096 σ 0 (by omega) (by omega) ⟨rfl, rfl⟩
  · rintro i a v hi ⟨rfl, rfl⟩
    have hi4 : i < 4 := by omega
    refine ⟨a, bs (ned a N k) (i + 1), ⟨rfl, rfl⟩, fun K => ?_⟩
    unfold B_X5_slotsThatNeed_57
    rw [h7, if_neg (nI_ge hi (by omega)), hs_c h6 hN hi4, bd_s, hld_c hi4, bd_s, en_c h6, bd_s, en_c h6, bd_s]
    repeat rw [lt_eq]
    rw [nI_1]
    simp only [bs, ned]
    by_cases h2 : hdv a (7 + k) i = 0
    · simp [h2]
    · have h52 : ¬ a 52 i 0 ≤ 0 := fun q => h2 (by unfold hdv hv; rw [if_pos q])
      have hp : prt a N i = enf N (hcv a N i) := by unfold prt; rw [if_neg h52]
      by_cases h1 : enf N (hcv a N i) = 0
      · simp [hp, h1]
      · by_cases h3 : enf N (hcv a N i - 1) = 0
        · simp [hp, h1, h2, h3]
        · simp [hp, h1, h2, h3]
  · rintro a v K ⟨rfl, rfl⟩
    rw [h7, if_pos (nI_le (Nat.le_refl M) (by omega))]
theorem hall_c {σ : CS} {M : Nat} (f : Nat → Bool) (h7 : σ 7 0 0 = nI M) (hM : M ≤ 4) : ∃ r, F_X5_holdsAll σ 14 (bs f M) = some (σ, r) ∧ ((r = 1 ∧ ∀ s, s < M → f s = true → hdv σ 14 s = 1) ∨ (r = 0 ∧ ∃ s, s < M ∧ f s = true ∧ hdv σ 14 s = 0)) := by
  unfold F_X5_holdsAll B_X5_holdsAll_2
  refine lo2_ex M (fun i a => a = σ ∧ ∀ s, s < i → f s = true → hdv σ 14 s = 1) (fun R => ∃ r, R = some (σ, r) ∧ ((r = 1 ∧ ∀ s, s < M → f s = true → hdv σ 14 s = 1) ∨ (r = 0 ∧ ∃ s, s < M ∧ f s = true ∧ hdv σ 14 s = 0))) ?_ ?_ M 0 4096 σ (by omega) (by omega) ⟨rfl, fun s h => by omega⟩
  · rintro i a hi ⟨rfl, hA⟩
    have hi4 : i < 4 := by omega
    have hstep : (f i = true → hdv a 14 i = 1) → ∀ s, s < i + 1 → f s = true → hdv a 14 s = 1 := fun q s hs hf => by
      by_cases e : s = i
      · subst e; exact q hf
      · exact hA s (by omega) hf
    unfold B_X5_holdsAll_29
    cases hf : f i with
    | false =>
      refine Or.inr ⟨a, ⟨rfl, hstep (fun q => by rw [hf] at q; exact absurd q (by decide))⟩, fun K => ?_⟩
      rw [h7, if_neg (nI_ge hi (by omega)), isin_c a f hM hi, bd_s, hf, if_pos (show (if (false : Bool) = true then (1 : Int32) else 0) = 0 from rfl), lt_eq, nI_1]
    | true =>
      rcases hv_01 a i (a 42 14 i) (a 43 14 i) with e | e
      · refine Or.inl fun K => ⟨0, ?_, Or.inr ⟨rfl, i, hi, hf, e⟩⟩
        rw [h7, if_neg (nI_ge hi (by omega)), isin_c a f hM hi, bd_s, hf, if_pos rfl, if_neg (by decide), hld_c hi4, bd_s, if_pos (show hdv a 14 i = 0 from e)]
      · refine Or.inr ⟨a, ⟨rfl, hstep (fun _ => e)⟩, fun K => ?_⟩
        have e' : ¬ hdv a 14 i = 0 := fun q => by unfold hdv at q; rw [e] at q; exact absurd q (by decide)
        rw [h7, if_neg (nI_ge hi (by omega)), isin_c a f hM hi, bd_s, hf, if_pos rfl, if_neg (by decide), hld_c hi4, bd_s, if_neg e', lt_eq, nI_1]
  · rintro a K ⟨rfl, hA⟩
    rw [h7, if_pos (nI_le (Nat.le_refl M) (by omega))]
    exact ⟨1, rfl, Or.inl ⟨rfl, hA⟩⟩
def okh (σ : CS) (N k q s : Nat) : Prop := prt σ N s = 1 → enf N (lossv σ N k q s) = 1
theorem enf_up : ∀ N, N < 8 → ∀ h, h < 9 → enf N (nI h) = 1 → enf N (nI h + 1) = 1 := by decide
theorem okh_iff {σ : CS} {N k q s : Nat} (hN : N ≤ 7) : (ned σ N k s = true → hqv σ k q s = 1) ↔ okh σ N k q s := by
  obtain ⟨h, hh, eh⟩ := hcv_n σ N s
  unfold ned okh lossv
  rcases prt_01 σ N s with p | p
  · rw [p]
    simp
  · have p1 : enf N (hcv σ N s) = 1 := by
      unfold prt at p
      by_cases h0 : σ 52 s 0 ≤ 0
      · rw [if_pos h0] at p; exact absurd p (by decide)
      · rw [if_neg h0] at p; exact p
    rw [p, if_neg (by decide)]
    have g1 : hqv σ k q s = 0 ∨ hqv σ k q s = 1 := hv_01 _ _ _ _
    have g2 : hdv σ (7 + k) s = 0 ∨ hdv σ (7 + k) s = 1 := hv_01 _ _ _ _
    have z0 : ∀ x : Int32, x - 0 = x := Int32.sub_zero
    have z1 : ∀ x : Int32, x - 1 + 1 = x := fun x => Int32.sub_add_cancel x 1
    rcases g2 with e2 | e2
    · rw [e2, if_pos rfl, z0]
      rcases g1 with e1 | e1
      · rw [e1, add0, p1]; simp
      · rw [e1, eh]
        rw [eh] at p1
        simp [enf_up N (by omega) h (by omega) p1]
    · rw [e2, if_neg (by decide)]
      rcases g1 with e1 | e1
      · rw [e1, add0]
        rcases enf_01 N (hcv σ N s - 1) with e3 | e3
        · rw [e3]; simp
        · rw [e3]; simp
      · rw [e1, z1, p1]; simp
theorem qs_5 {σ : CS} {N s : Nat} : qs σ N s 5 = prt σ N s := by
  unfold qs
  rw [if_neg (show ¬ (5 : Nat) = 0 by decide), if_neg (show ¬ (5 : Nat) = 1 by decide), if_neg (show ¬ (5 : Nat) = 2 by decide), if_neg (show ¬ (5 : Nat) = 3 by decide), if_neg (show ¬ (5 : Nat) = 4 by decide), if_pos rfl]
theorem ih_r {c N M L k l z : Nat} {σ : CS} {ρ : RS} (hJ : Jc c N M L σ ρ) (hk7 : k < 7) (hl : l < 2 ^ 31) (hz : σ 83 k 0 = nI z) (hz5 : z < 2048) : ∃ r, F_X6_isHarmless ρ (nI k) (nI l) = some (ρ, r) ∧ ((r = 1 ∧ ∀ s, s < M → okh σ N k (z - l) s) ∨ (r = 0 ∧ ∃ s, s < M ∧ ¬ okh σ N k (z - l) s)) := by
  have hM := hJ.1.2.1.2.2.2
  unfold F_X6_isHarmless B_X6_isHarmless_5
  refine lo3_it M (fun i a v => a = ρ ∧ ((v = 1 ∧ ∀ s, s < i → okh σ N k (z - l) s) ∨ (v = 0 ∧ ∃ s, s < i ∧ ¬ okh σ N k (z - l) s))) (fun R => ∃ r, R = some (ρ, r) ∧ ((r = 1 ∧ ∀ s, s < M → okh σ N k (z - l) s) ∨ (r = 0 ∧ ∃ s, s < M ∧ ¬ okh σ N k (z - l) s))) ?_ ?_ M 0 4096 ρ 1 (by omega) (by omega) ⟨rfl, Or.inl ⟨rfl, fun s h => by omega⟩⟩
  · rintro i a v hi ⟨rfl, hv⟩
    have hi4 : i < 4 := by omega
    have e5 := slt_r (w := 5) hJ hi4 (by decide)
    have e5' : F_X6_slotNow a (nI i) 5 = some (a, prt σ N i) := by rw [← qs_5]; exact e5
    have ew := hw_r (s := i) hJ hk7 hi4 hl hz hz5
    unfold B_X6_isHarmless_30 B_X6_isHarmless_60 B_X6_isHarmless_56 B_X6_isHarmless_61
    rcases hv with ⟨rfl, hA⟩ | ⟨rfl, s0, hs0, hB⟩
    · have hstep : okh σ N k (z - l) i → ∀ s, s < i + 1 → okh σ N k (z - l) s := fun q s hs => by
        by_cases e : s = i
        · subst e; exact q
        · exact hA s (by omega)
      rcases prt_01 σ N i with p | p
      · refine ⟨a, 1, ⟨rfl, Or.inl ⟨rfl, hstep (fun q => by rw [p] at q; exact absurd q (by decide))⟩⟩, fun K => ?_⟩
        rw [hJ.r2, if_neg (nI_ge hi (by omega)), e5', bd_s, p, if_neg (by decide), if_neg (by decide), if_pos rfl, lt_eq, nI_1]
      · rcases enf_01 N (lossv σ N k (z - l) i) with e | e
        · refine ⟨a, 0, ⟨rfl, Or.inr ⟨rfl, i, by omega, fun q => by rw [q p] at e; exact absurd e (by decide)⟩⟩, fun K => ?_⟩
          rw [hJ.r2, if_neg (nI_ge hi (by omega)), e5', bd_s, p, if_pos rfl, if_neg (by decide), if_neg (by decide), ew, bd_s, en_r hJ.r1, bd_s, e, if_pos rfl, lt_eq, nI_1]
        · refine ⟨a, 1, ⟨rfl, Or.inl ⟨rfl, hstep (fun _ => e)⟩⟩, fun K => ?_⟩
          rw [hJ.r2, if_neg (nI_ge hi (by omega)), e5', bd_s, p, if_pos rfl, if_neg (by decide), if_neg (by decide), ew, bd_s, en_r hJ.r1, bd_s, e, if_neg (by decide), lt_eq, nI_1]
    · refine ⟨a, 0, ⟨rfl, Or.inr ⟨rfl, s0, by omega, hB⟩⟩, fun K => ?_⟩
      rw [hJ.r2, if_neg (nI_ge hi (by omega)), e5', bd_s]
      rcases prt_01 σ N i with p | p
      · rw [p, if_neg (by decide), if_pos rfl, lt_eq, nI_1]
      · rw [p, if_pos rfl, if_pos rfl, lt_eq, nI_1]
  · rintro a v K ⟨rfl, hv⟩
    rw [hJ.r2, if_pos (nI_le (Nat.le_refl M) (by omega))]
    rcases hv with ⟨rfl, hA⟩ | ⟨rfl, hB⟩
    · exact ⟨1, rfl, Or.inl ⟨rfl, hA⟩⟩
    · exact ⟨0, rfl, Or.inr ⟨rfl, hB⟩⟩
theorem hqv_z {c N M L k s z : Nat} {σ : CS} {ρ : RS} (hJ : Jc c N M L σ ρ) (hk7 : k < 7) (hs : s < 4) (hz : σ 83 k 0 = nI z) (hz5 : z < 2 ^ 30) : hqv σ k z s = hdv σ (7 + k) s := by
  obtain ⟨z0, ha, ⟨c1, c2, ⟨C, c3, c4, _⟩, _⟩, hw, ⟨v1, v2⟩, hj, hr⟩ := (hJ.2.1 k hk7).2
  rw [nd_a rfl] at c2
  have hC := cap_le c3
  have e : z0 = z := nI_inj (by omega) (by omega) (c2.symm.trans hz)
  subst e
  have w := v2 s hs
  rw [show (142 : Nat) = 100 + 42 from rfl, show (143 : Nat) = 100 + 43 from rfl, nd_b rfl, nd_b rfl] at w
  unfold hqv hdv
  rw [w.1, w.2, apB_cong (n := nd σ k) (m := nd σ k) (b0 := nd σ k 42) (b1 := σ 42 k) (nd_a rfl) (fun _ _ => ⟨rfl, rfl⟩), apV_cong (n := nd σ k) (m := nd σ k) (b0 := nd σ k 43) (b1 := σ 43 k) (nd_a rfl) (fun _ _ => ⟨rfl, rfl⟩)]
theorem okh_z {c N M L k s z : Nat} {σ : CS} {ρ : RS} (hJ : Jc c N M L σ ρ) (hk7 : k < 7) (hs : s < 4) (hz : σ 83 k 0 = nI z) (hz5 : z < 2 ^ 30) : okh σ N k z s := fun p => by
  unfold lossv
  rw [hqv_z hJ hk7 hs hz hz5, Int32.sub_add_cancel]
  unfold prt at p
  by_cases h0 : σ 52 s 0 ≤ 0
  · rw [if_pos h0] at p; exact absurd p (by decide)
  · rw [if_neg h0] at p; exact p
theorem dec_n (d : Nat) : nI (d + 1) + (-1) = nI d := by
  rw [← nI_1, Int32.add_assoc, show (1 : Int32) + -1 = 0 by decide, add0]
theorem hl_2 {c N M L k z C : Nat} {σ b : CS} {ρ : RS} (hJ : Jc c N M L σ ρ) (hk7 : k < 7) (hz : σ 83 k 0 = nI z) (hzC : z ≤ C) (hC : C ≤ 512) (h47 : σ 47 k 0 = nI C) (h48 : σ 48 k 0 = nI C) (h49 : σ 49 k 0 = nI C) (hw : ∀ t, t < z → σ 44 k t = -1 ∨ ∃ s, s < 4 ∧ σ 44 k t = nI s) (hS : Sc k 0 σ b) : ∀ d i a f f', i + d = z → d < f → d < f' → Ap k 14 i b a → ∃ σ' r, B_X5_mostHarmlessLosses_25 k f a (bs (ned σ N k) M) k (nI i) = some (σ', r) ∧ O14 σ σ' ∧ B_X6_harmlessNow_7 (nI k) f' ρ (nI d) = some (ρ, r) := by
  intro d
  have hN := hJ.1.1.2.2.2
  have hM := hJ.1.2.1.2.2.2
  induction d with
  | zero =>
    intro i a f f' hi hf hf' hA
    obtain ⟨f, rfl⟩ : ∃ g, f = g + 1 := ⟨f - 1, by omega⟩
    obtain ⟨f', rfl⟩ : ∃ g, f' = g + 1 := ⟨f' - 1, by omega⟩
    have hB := hA.sc (q0 := 0) hk7 hS
    obtain ⟨r, e1, hr⟩ := ih_r (l := 0) hJ hk7 (by decide) hz (by omega)
    have r1 : r = 1 := by
      rcases hr with ⟨h, _⟩ | ⟨_, s, hs, h⟩
      · exact h
      · exact absurd (okh_z hJ hk7 (by omega) hz (by omega)) h
    refine ⟨a, 0, ?_, hB.1, ?_⟩
    · show (if (a 83 k 0) ≤ nI i then _ else _) = _
      rw [hB.1 83 k 0 (by omega), hz, if_pos (nI_le (by omega) (by omega))]
    · show bd (F_X6_isHarmless ρ (nI k) (nI 0)) _ = _
      rw [e1, bd_s, r1, if_neg (by decide)]
      rfl
  | succ d ih =>
    intro i a f f' hi hf hf' hA
    obtain ⟨f, rfl⟩ : ∃ g, f = g + 1 := ⟨f - 1, by omega⟩
    obtain ⟨f', rfl⟩ : ∃ g, f' = g + 1 := ⟨f' - 1, by omega⟩
    have hB := hA.sc (q0 := 0) hk7 hS
    have gk : ∀ f j, a f k j = σ f k j := fun f j => hB.1 f k j (by omega)
    obtain ⟨r, e1, hr⟩ := ih_r (l := d + 1) hJ hk7 (by omega) hz (by omega)
    rw [show z - (d + 1) = i by omega] at hr
    obtain ⟨r', e2, hr'⟩ := hall_c (σ := a) (M := M) (ned σ N k) (by rw [hB.1 7 0 0 (by decide)]; exact hJ.1.2.1.1) hM
    have er : r' = r := by
      rcases hr with ⟨rfl, h⟩ | ⟨rfl, s, hs, h⟩
      · rcases hr' with ⟨rfl, _⟩ | ⟨_, s, hs, h1, h2⟩
        · rfl
        · rw [hB.h (by omega), (okh_iff hN).mpr (h s hs) h1] at h2
          exact absurd h2 (by decide)
      · rcases hr' with ⟨_, h'⟩ | ⟨rfl, _⟩
        · exact absurd ((okh_iff hN).mp (fun q => by rw [← hB.h (by omega)]; exact h' s hs q)) h
        · rfl
    subst er
    show ∃ σ' r, (if (a 83 k 0) ≤ nI i then _ else bd (F_X5_holdsAll a 14 (bs (ned σ N k) M)) _) = some (σ', r) ∧ O14 σ σ' ∧ bd (F_X6_isHarmless ρ (nI k) (nI (d + 1))) _ = some (ρ, r)
    rw [gk, hz, if_neg (nI_ge (by omega) (by omega)), e2, bd_s, e1, bd_s]
    rcases hr' with ⟨rfl, _⟩ | ⟨rfl, _⟩
    · rw [if_neg (by decide), if_neg (by decide), gk, hz, tn_sub (by omega), show z - i = d + 1 by omega]
      exact ⟨a, _, rfl, hB.1, rfl⟩
    · obtain ⟨a', hA', hco⟩ := hA.s (by rw [hS.1 44 k i (by omega)]; exact hw i (by omega))
      rw [if_pos rfl, if_pos rfl, gk 47, gk 48, gk 49, h47, h48, h49, tn_nI (show C < 2 ^ 31 by omega), gd_inb (by omega) (by omega), gd_inb (by omega) (by omega), gd_inb (by omega) (by omega), tn_nI (show i < 2 ^ 31 by omega), hco, bd_s, lt_eq, nI_1, lt_eq, dec_n]
      exact ih (i + 1) a' f f' (by omega) (by omega) (by omega) hA'
theorem mh_2 {c N M L k : Nat} {σ : CS} {ρ : RS} (hJ : Jc c N M L σ ρ) (hk7 : k < 7) : ∃ σ' r, F_X5_mostHarmlessLosses σ k = some (σ', r) ∧ O14 σ σ' ∧ F_X6_harmlessNow ρ (nI k) = some (ρ, r) := by
  have hN := hJ.1.1.2.2.2
  have hM := hJ.1.2.1.2.2.2
  obtain ⟨z, C, h1, h2, h3, h4, h5, h6', h7, h8⟩ := hJ.ws hk7
  have hC := cap_le h3
  have r14 : ρ.1 14 k = nI z := by rw [Ur_rd (um_14 hk7), ← (hJ.2.1 k hk7).1.q.2.2.2.2.2.2.2]; exact h2
  obtain ⟨b, eb, hS⟩ := cp14 (σ := σ) hk7
  unfold F_X5_mostHarmlessLosses F_X6_harmlessNow
  rw [stn_c hJ.1.1.1 hN hJ.1.2.1.1 hM hk7, bd_s, eb, bd_s, g7 hk7, t7 hk7, lt_eq, r14]
  exact hl_2 hJ hk7 h2 h4 hC h5 h6' h7 h8 hS z 0 b 4096 4096 (by omega) (by omega) (by omega) Ap.z
theorem harm_c {c N M L k : Nat} {σ : CS} {ρ : RS} (hJ : Jc c N M L σ ρ) (hk : k < N) : ∃ σ' r, F_X5_harmless σ (nI k) = some (σ', .inl r) ∧ O14 σ σ' ∧ F_X6_harmlessNow ρ (nI k) = some (ρ, r) := by
  have hN := hJ.1.1.2.2.2
  have hk7 : k < 7 := by omega
  obtain ⟨σ', r, e1, hO, e2⟩ := mh_2 hJ hk7
  refine ⟨σ', r, ?_, hO, e2⟩
  unfold F_X5_harmless
  rw [(nd_c hJ.1.1.1 hN).1 k hk rfl, bx_l, g7 hk7, t7 hk7, e1, bd_s]
theorem sm_harmless : Sm_harmless Inv := by
  rintro n σ ρ hn ⟨c, N, M, L, hcL, hJ⟩ x1
  have hG := hJ.1
  have h6 := hG.1.1
  have hN := hG.1.2.2
  have d1 := hJ.r1
  rcases rng (x := x1) (a := 0) (b := N) (by omega) (by omega) with ⟨k, _, hk, rfl⟩ | hb
  · obtain ⟨σ', r, e1, hO, e2⟩ := harm_c (hJ.t0 (v := 0)) hk
    refine sw_ok (c' := c) hJ (by omega) e1 (ρ' := rp ρ 0 0 0) ?_ rp_se (hJ.t0.o14 hO)
    unfold F_X6_harmless B_X6_harmless_14
    rw [(ndr d1 (by omega) hN.2).1 k hk rfl, bd_s, if_neg (by decide), lt_eq, if_pos (by rw [rp_se]; decide), e2, bd_s]
  · refine sw_ex (cd := 1) (r := 0) hJ hcL (ex := 1) ?_ ?_ (by decide)
    · unfold F_X5_harmless
      rw [(nd_c h6 hN.2).2 hb, bx_r]
    · unfold F_X6_harmless B_X6_harmless_14
      rw [(ndr d1 (by omega) hN.2).2 hb, bd_s, if_pos rfl, lt_eq, if_neg (by rw [rp_se]; decide)]
