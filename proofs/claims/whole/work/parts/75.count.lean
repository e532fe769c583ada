/-! ===== what is counted ===== -/
theorem lo7_it {A B C D E G R : Type} {st : (A → B → C → D → E → G → Int32 → Option R) → A → B → C → D → E → G → Int32 → Option R} (N : Nat) (P : Nat → A → B → C → D → E → G → Prop) (Z : Option R → Prop) (hs : ∀ i a b c d e g, i < N → P i a b c d e g → ∃ a' b' c' d' e' g', P (i + 1) a' b' c' d' e' g' ∧ ∀ K, st K a b c d e g (nI i) = K a' b' c' d' e' g' (nI (i + 1))) (he : ∀ a b c d e g K, P N a b c d e g → Z (st K a b c d e g (nI N))) : ∀ (n i f : Nat) (a : A) (b : B) (c : C) (d : D) (e : E) (g : G), i + n = N → n < f → P i a b c d e g → Z (lo7 st f a b c d e g (nI i)) := by
  intro n
  induction n with
  | zero =>
    intro i f a b c d e g h1 h2 hP
    obtain ⟨f, rfl⟩ : ∃ g, f = g + 1 := ⟨f - 1, by omega⟩
    have e : i = N := by omega
    subst e
    exact he a b c d _ g _ hP
  | succ n ih =>
    intro i f a b c d e g h1 h2 hP
    obtain ⟨f, rfl⟩ : ∃ g, f = g + 1 := ⟨f - 1, by omega⟩
    obtain ⟨a', b', c', d', e', g', hP', hst⟩ := hs i a b c d e g (by omega) hP
    show Z (st (lo7 st f) a b c d e g (nI i))
    rw [hst]
    exact ih (i + 1) f a' b' c' d' e' g' (by omega) (by omega) hP'
def asn (v : Int32) : Int32 := if v = 0 then 0 else 1
def mde (v : Int32) : Int32 := if v ≤ 0 then 0 else 1
theorem asn_c {σ : CS} {v : Int32} : F_X5_asNumber σ v = some (σ, asn v) := by
  unfold F_X5_asNumber asn
  by_cases h : v = 0
  · rw [if_pos h, if_pos h]
  · rw [if_neg h, if_neg h]
theorem made_c {σ : CS} {s : Nat} : F_X0_isMade σ s = some (σ, mde (σ 52 s 0)) := by
  unfold F_X0_isMade mde
  by_cases h : σ 52 s 0 ≤ 0
  · rw [if_pos h, if_pos h]
  · rw [if_neg h, if_neg h]
theorem asn_m (v : Int32) : asn (mde v) = mde v := by
  unfold asn mde
  by_cases h : v ≤ 0
  · rw [if_pos h]; rfl
  · rw [if_neg h]; rfl
theorem up_c {σ : CS} {N : Nat} (h6 : σ 6 0 0 = nI N) (hN : N ≤ 7) : F_X5_nodesUp σ = some (σ, sm N (fun i => asn (σ 25 i 0))) := by
  unfold F_X5_nodesUp B_X5_nodesUp_4
  refine lo3_sum σ N (fun i => asn (σ 25 i 0)) (fun acc => some (σ, acc)) (fun K acc i hi => ?_) (fun K acc => ?_) 4096 (by omega)
  · rw [h6, if_neg (nI_ge hi (by omega)), g7 (by omega), t7 (by omega), asn_c, bd_s, lt_eq, lt_eq, nI_1]
  · rw [h6, if_pos (nI_le (Nat.le_refl N) (by omega))]
theorem jn_c {σ : CS} {N : Nat} (h6 : σ 6 0 0 = nI N) (hN : N ≤ 7) : F_X5_nodesJoined σ = some (σ, sm N (fun i => asn (σ 26 i 0))) := by
  unfold F_X5_nodesJoined B_X5_nodesJoined_4
  refine lo3_sum σ N (fun i => asn (σ 26 i 0)) (fun acc => some (σ, acc)) (fun K acc i hi => ?_) (fun K acc => ?_) 4096 (by omega)
  · rw [h6, if_neg (nI_ge hi (by omega)), g7 (by omega), t7 (by omega), asn_c, bd_s, lt_eq, lt_eq, nI_1]
  · rw [h6, if_pos (nI_le (Nat.le_refl N) (by omega))]
theorem ww_c {σ : CS} {N : Nat} (h6 : σ 6 0 0 = nI N) (hN : N ≤ 7) : F_X5_writesWaiting σ = some (σ, sm N (fun i => σ 83 i 0)) := by
  unfold F_X5_writesWaiting B_X5_writesWaiting_4
  refine lo3_sum σ N (fun i => σ 83 i 0) (fun acc => some (σ, acc)) (fun K acc i hi => ?_) (fun K acc => ?_) 4096 (by omega)
  · rw [h6, if_neg (nI_ge hi (by omega)), g7 (by omega), t7 (by omega), lt_eq, lt_eq, nI_1]
  · rw [h6, if_pos (nI_le (Nat.le_refl N) (by omega))]
theorem ds_c {σ : CS} {M : Nat} (h7 : σ 7 0 0 = nI M) (hM : M ≤ 4) : F_X5_decidedSlots σ = some (σ, sm M (fun s => mde (σ 52 s 0))) := by
  unfold F_X5_decidedSlots B_X5_decidedSlots_4
  refine lo3_sum σ M (fun s => mde (σ 52 s 0)) (fun acc => some (σ, acc)) (fun K acc i hi => ?_) (fun K acc => ?_) 4096 (by omega)
  · rw [h7, if_neg (nI_ge hi (by omega)), g4 (by omega), t4 (by omega), made_c, bd_s, asn_c, bd_s, lt_eq, lt_eq, nI_1, asn_m]
  · rw [h7, if_pos (nI_le (Nat.le_refl M) (by omega))]
theorem cf_c {σ : CS} {M : Nat} (h7 : σ 7 0 0 = nI M) (hM : M ≤ 4) : F_X5_slotsInConflict σ = some (σ, sm M (fun s => asn (σ 53 s 0))) := by
  unfold F_X5_slotsInConflict B_X5_slotsInConflict_4
  refine lo3_sum σ M (fun s => asn (σ 53 s 0)) (fun acc => some (σ, acc)) (fun K acc i hi => ?_) (fun K acc => ?_) 4096 (by omega)
  · rw [h7, if_neg (nI_ge hi (by omega)), g4 (by omega), t4 (by omega), asn_c, bd_s, lt_eq, lt_eq, nI_1]
  · rw [h7, if_pos (nI_le (Nat.le_refl M) (by omega))]
def qc (σ : CS) (N M w : Nat) : Int32 :=
  if w = 0 then nI N else if w = 1 then nI M else if w = 2 then nI N / 2 + 1 else if w = 3 then asn (σ 8 0 0) else if w = 4 then sm N (fun i => asn (σ 25 i 0)) else if w = 5 then sm N (fun i => asn (σ 26 i 0)) else if w = 6 then sm M (fun s => mde (σ 52 s 0)) else if w = 7 then sm M (fun s => asn (σ 53 s 0)) else if w = 8 then σ 9 0 0 else if w = 9 then σ 10 0 0 else if w = 10 then sm N (fun i => σ 83 i 0) else σ 11 0 0
theorem cnt_c {σ : CS} {N M w : Nat} (h6 : σ 6 0 0 = nI N) (hN : N ≤ 7) (h7 : σ 7 0 0 = nI M) (hM : M ≤ 4) (hw : w < 12) : F_X5_count σ (nI w) = some (σ, .inl (qc σ N M w)) := by
  have h : w = 0 ∨ w = 1 ∨ w = 2 ∨ w = 3 ∨ w = 4 ∨ w = 5 ∨ w = 6 ∨ w = 7 ∨ w = 8 ∨ w = 9 ∨ w = 10 ∨ w = 11 := by omega
  unfold F_X5_count qc F_X5_quorum
  rw [up_c h6 hN, jn_c h6 hN, ds_c h7 hM, cf_c h7 hM, ww_c h6 hN, asn_c, h6, h7]
  rcases h with rfl | rfl | rfl | rfl | rfl | rfl | rfl | rfl | rfl | rfl | rfl | rfl <;> rfl
theorem cnt_cx {σ : CS} {x : Int32} (hx : x < nI 0 ∨ nI 12 ≤ x) : F_X5_count σ x = some (σ, .inr 2) := by
  have hne : ∀ k, k < 12 → ¬ x = nI k := fun k hk e => by
    subst e
    rcases hx with h | h
    · exact absurd h (nI_nlt (Nat.zero_le k) (by omega))
    · exact absurd h (nI_ge hk (by decide))
  unfold F_X5_count
  rw [if_neg (show ¬ x = (0 : Int32) from hne 0 (by decide)), if_neg (show ¬ x = (1 : Int32) from hne 1 (by decide)), if_neg (show ¬ x = (2 : Int32) from hne 2 (by decide)), if_neg (show ¬ x = (3 : Int32) from hne 3 (by decide)), if_neg (show ¬ x = (4 : Int32) from hne 4 (by decide)), if_neg (show ¬ x = (5 : Int32) from hne 5 (by decide)), if_neg (show ¬ x = (6 : Int32) from hne 6 (by decide)), if_neg (show ¬ x = (7 : Int32) from hne 7 (by decide)), if_neg (show ¬ x = (8 : Int32) from hne 8 (by decide)), if_neg (show ¬ x = (9 : Int32) from hne 9 (by decide)), if_neg (show ¬ x = (10 : Int32) from hne 10 (by decide)), if_neg (show ¬ x = (11 : Int32) from hne 11 (by decide))]
theorem cnt_r {c N M L w : Nat} {σ : CS} {ρ : RS} (hJ : Jc c N M L σ ρ) (hw : w < 12) : F_X6_counted ρ (nI w) = some (ρ, qc σ N M w) := by
  have hG := hJ.1
  have hN := hG.1.2.2
  have hM := hG.2.1.2.2
  have d1 : ρ.1 1 0 = nI N := by rw [Ur_rd um_1]; exact hG.1.2.1
  have d2 : ρ.1 2 0 = nI M := by rw [Ur_rd um_2]; exact hG.2.1.2.1
  have d3 : ρ.1 3 0 = σ 8 0 0 := by rw [Ur_rd um_3]; exact hG.2.2.2.1.1.symm
  obtain ⟨a, b, _, _, q9, q10, q9', q10'⟩ := hG.2.2.2.2.2.1
  have d24 : ρ.1 24 0 = σ 9 0 0 := by rw [Ur_rd um_24, q9', q9]
  have d25 : ρ.1 25 0 = σ 10 0 0 := by rw [Ur_rd um_25, q10', q10]
  have d26 : ρ.1 26 0 = σ 11 0 0 := by rw [Ur_rd um_26]; exact hG.2.2.2.2.1.symm
  have r4 : ∀ k, k < 7 → ρ.1 4 k = σ 25 k 0 := fun k hk => by rw [Ur_rd (um_4 hk)]; exact (hJ.2.1 k hk).1.q.1.symm
  have r5 : ∀ k, k < 7 → ρ.1 5 k = σ 26 k 0 := fun k hk => by rw [Ur_rd (um_5 hk)]; exact (hJ.2.1 k hk).1.q.2.1.symm
  have r14 : ∀ k, k < 7 → ρ.1 14 k = σ 83 k 0 := fun k hk => by rw [Ur_rd (um_14 hk)]; exact (hJ.2.1 k hk).1.q.2.2.2.2.2.2.2.symm
  have r20 : ∀ s, s < 4 → ρ.1 20 s = σ 52 s 0 := fun s hs => by obtain ⟨t, _, h1, h2⟩ := (hJ.2.2 s hs).2.2.2.2; rw [Ur_rd (um_20 hs), h2, h1]
  have r23 : ∀ s, s < 4 → ρ.1 23 s = σ 53 s 0 := fun s hs => by rw [Ur_rd (um_23 hs)]; exact (hJ.2.2 s hs).2.2.1.symm
  have inner : B_X6_counted_82 (nI w) 4096 ρ (sm N (fun i => asn (σ 25 i 0))) (sm N (fun i => asn (σ 26 i 0))) 0 0 (sm N (fun i => σ 83 i 0)) 0 = some (ρ, qc σ N M w) := by
    unfold B_X6_counted_82
    refine lo7_it M (fun i a v2 v3 v4 v5 v6 => a = ρ ∧ v2 = sm N (fun i => asn (σ 25 i 0)) ∧ v3 = sm N (fun i => asn (σ 26 i 0)) ∧ v4 = sm i (fun s => mde (σ 52 s 0)) ∧ v5 = sm i (fun s => asn (σ 53 s 0)) ∧ v6 = sm N (fun i => σ 83 i 0)) (fun r => r = some (ρ, qc σ N M w)) ?_ ?_ M 0 4096 ρ _ _ 0 0 _ (by omega) (by omega) ⟨rfl, rfl, rfl, rfl, rfl, rfl⟩
    · rintro i a v2 v3 v4 v5 v6 hi ⟨rfl, rfl, rfl, rfl, rfl, rfl⟩
      have hi4 : i < 4 := by omega
      refine ⟨a, _, _, sm i (fun s => mde (σ 52 s 0)) + mde (σ 52 i 0), sm i (fun s => asn (σ 53 s 0)) + asn (σ 53 i 0), _, ⟨rfl, rfl, rfl, rfl, rfl, rfl⟩, fun K => ?_⟩
      unfold B_X6_counted_108 B_X6_counted_128 mde asn
      rw [d2, if_neg (nI_ge hi (by omega)), g4 hi4, t4 hi4, r20 i hi4]
      by_cases h1 : σ 52 i 0 ≤ 0
      · rw [if_pos h1, if_pos h1, lt_eq, g4 hi4, r23 i hi4]
        by_cases h2 : σ 53 i 0 = 0
        · rw [if_pos h2, if_pos h2, lt_eq, lt_eq, nI_1]
        · rw [if_neg h2, if_neg h2, lt_eq, lt_eq, nI_1]
      · rw [if_neg h1, if_neg h1, lt_eq, g4 hi4, r23 i hi4]
        by_cases h2 : σ 53 i 0 = 0
        · rw [if_pos h2, if_pos h2, lt_eq, lt_eq, nI_1]
        · rw [if_neg h2, if_neg h2, lt_eq, lt_eq, nI_1]
    · rintro a v2 v3 v4 v5 v6 K ⟨rfl, rfl, rfl, rfl, rfl, rfl⟩
      rw [d2, if_pos (nI_le (Nat.le_refl M) (by omega))]
      have h : w = 0 ∨ w = 1 ∨ w = 2 ∨ w = 3 ∨ w = 4 ∨ w = 5 ∨ w = 6 ∨ w = 7 ∨ w = 8 ∨ w = 9 ∨ w = 10 ∨ w = 11 := by omega
      have e3 : (if a.1 3 0 = 0 then some (a, (0 : Int32)) else some (a, 1)) = some (a, asn (σ 8 0 0)) := by
        rw [d3]; unfold asn
        by_cases h : σ 8 0 0 = 0
        · rw [if_pos h, if_pos h]
        · rw [if_neg h, if_neg h]
      unfold qc F_X6_q
      rw [e3, d1, d24, d25, d26]
      rcases h with rfl | rfl | rfl | rfl | rfl | rfl | rfl | rfl | rfl | rfl | rfl | rfl <;> rfl
  unfold F_X6_counted B_X6_counted_16
  refine lo7_it N (fun i a v2 v3 v4 v5 v6 => a = ρ ∧ v2 = sm i (fun i => asn (σ 25 i 0)) ∧ v3 = sm i (fun i => asn (σ 26 i 0)) ∧ v4 = 0 ∧ v5 = 0 ∧ v6 = sm i (fun i => σ 83 i 0)) (fun r => r = some (ρ, qc σ N M w)) ?_ ?_ N 0 4096 ρ 0 0 0 0 0 (by omega) (by omega) ⟨rfl, rfl, rfl, rfl, rfl, rfl⟩
  · rintro i a v2 v3 v4 v5 v6 hi ⟨rfl, rfl, rfl, rfl, rfl, rfl⟩
    have hi7 : i < 7 := by omega
    refine ⟨a, sm i (fun i => asn (σ 25 i 0)) + asn (σ 25 i 0), sm i (fun i => asn (σ 26 i 0)) + asn (σ 26 i 0), 0, 0, sm i (fun i => σ 83 i 0) + σ 83 i 0, ⟨rfl, rfl, rfl, rfl, rfl, rfl⟩, fun K => ?_⟩
    unfold B_X6_counted_41 B_X6_counted_59 asn
    rw [d1, if_neg (nI_ge hi (by omega)), g7 hi7, t7 hi7, r4 i hi7]
    by_cases h1 : σ 25 i 0 = 0
    · rw [if_pos h1, if_pos h1, lt_eq, g7 hi7, r5 i hi7]
      by_cases h2 : σ 26 i 0 = 0
      · rw [if_pos h2, if_pos h2, lt_eq, g7 hi7, r14 i hi7, lt_eq, lt_eq, nI_1]
      · rw [if_neg h2, if_neg h2, lt_eq, g7 hi7, r14 i hi7, lt_eq, lt_eq, nI_1]
    · rw [if_neg h1, if_neg h1, lt_eq, g7 hi7, r5 i hi7]
      by_cases h2 : σ 26 i 0 = 0
      · rw [if_pos h2, if_pos h2, lt_eq, g7 hi7, r14 i hi7, lt_eq, lt_eq, nI_1]
      · rw [if_neg h2, if_neg h2, lt_eq, g7 hi7, r14 i hi7, lt_eq, lt_eq, nI_1]
  · rintro a v2 v3 v4 v5 v6 K ⟨rfl, rfl, rfl, rfl, rfl, rfl⟩
    rw [d1, if_pos (nI_le (Nat.le_refl N) (by omega))]
    exact inner
