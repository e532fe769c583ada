/-! ===== the digest ===== -/
theorem Jc.h {c N M L : Nat} {σ : CS} {ρ : RS} {v : Int64} (h : Jc c N M L σ ρ) : Jc c N M L σ (rh ρ v) := by
  unfold Jc
  rw [Ur_rh]
  exact h
theorem rh_rh {ρ : RS} {v w : Int64} : rh (rh ρ v) w = rh ρ w := rfl
def hsf (f : Nat → Int64) (h : Int64) : Nat → Int64
  | 0 => h
  | n + 1 => (31 : Int64) * hsf f h n + f n
theorem mix_r {ρ : RS} {v y : Int64} : F_X6_mix (rh ρ v) y = some (rh ρ ((31 : Int64) * v + y), ()) := rfl
theorem dm {a d : Nat} (ha : a < 2 ^ 31) (h0 : 0 < d) (hd : d < 2 ^ 31) : nI a / nI d = nI (a / d) ∧ nI a - nI a / nI d * nI d = nI (a % d) := by
  have e := pk_div ha h0 hd
  refine ⟨e, ?_⟩
  rw [e, pk_mul, tn_sub (Nat.div_mul_le_self a d)]
  congr 1
  have := Nat.div_add_mod a d
  rw [Nat.mul_comm] at this
  omega
/-- two loops side by side -/
theorem lo32_it {A B A2 R R2 : Type} {st : (A → B → Int32 → Option R) → A → B → Int32 → Option R} {st2 : (A2 → Int32 → Option R2) → A2 → Int32 → Option R2} (N : Nat) (P : Nat → A → B → A2 → Prop) (Z : Option R → Option R2 → Prop) (hs : ∀ i a b a2, i < N → P i a b a2 → ∃ a' b' a2', P (i + 1) a' b' a2' ∧ (∀ K, st K a b (nI i) = K a' b' (nI (i + 1))) ∧ ∀ K, st2 K a2 (nI i) = K a2' (nI (i + 1))) (he : ∀ a b a2 K K2, P N a b a2 → Z (st K a b (nI N)) (st2 K2 a2 (nI N))) : ∀ (d i f f2 : Nat) (a : A) (b : B) (a2 : A2), i + d = N → d < f → d < f2 → P i a b a2 → Z (lo3 st f a b (nI i)) (lo2 st2 f2 a2 (nI i)) := by
  intro d
  induction d with
  | zero =>
    intro i f f2 a b a2 h1 h2 h3 hP
    obtain ⟨f, rfl⟩ : ∃ g, f = g + 1 := ⟨f - 1, by omega⟩
    obtain ⟨f2, rfl⟩ : ∃ g, f2 = g + 1 := ⟨f2 - 1, by omega⟩
    have e : i = N := by omega
    subst e
    exact he a b a2 _ _ hP
  | succ d ih =>
    intro i f f2 a b a2 h1 h2 h3 hP
    obtain ⟨f, rfl⟩ : ∃ g, f = g + 1 := ⟨f - 1, by omega⟩
    obtain ⟨f2, rfl⟩ : ∃ g, f2 = g + 1 := ⟨f2 - 1, by omega⟩
    obtain ⟨a', b', a2', hP', hst, hst2⟩ := hs i a b a2 (by omega) hP
    show Z (st (lo3 st f) a b (nI i)) (st2 (lo2 st2 f2) a2 (nI i))
    rw [hst, hst2]
    exact ih (i + 1) f f2 a' b' a2' (by omega) (by omega) (by omega) hP'
/-- round values -/
theorem rv_c {c N M L k s : Nat} {σ : CS} {ρ : RS} (hJ : Jc c N M L σ ρ) (hk : k < N) (hs : s < M) (u1 : ¬ σ 29 k 0 = -1) : F_X5_roundValue σ (nI k) (nI s) = some (σ, .inl (σ 41 k s)) := by
  have hN := hJ.1.1.2.2.2
  have hM := hJ.1.2.1.2.2.2
  have hk7 : k < 7 := by omega
  have hs4 : s < 4 := by omega
  unfold F_X5_roundValue F_X5_requireRound F_X3_hasRound
  rw [(nd_c hJ.1.1.1 hN).1 k hk rfl, bx_l, (sl_c hJ.1.2.1.1 hM).1 s hs rfl, bx_l, g7 hk7, t7 hk7, if_neg u1, bd_s, if_neg (by decide), bx_l, g7 hk7, g4 hs4, t4 hs4]
theorem rv_r {c N M L k s : Nat} {σ : CS} {ρ : RS} (hJ : Jc c N M L σ ρ) (hk7 : k < 7) (hs4 : s < 4) (u1 : ¬ σ 29 k 0 = -1) : ρ.1 19 (4 * k + s) = σ 41 k s := by
  have e41 := (hJ.2.1 k hk7).1.2.2.2 trivial (by rw [nd_a rfl]; exact u1) s hs4
  rw [nd_a rfl, nd_a rfl] at e41
  rw [Ur_rd (um_19 hk7 hs4), e41]
def fn (σ : CS) (k i : Nat) : Int64 := (qn σ k i).toInt64
def fa (σ : CS) (k i : Nat) : Int64 := (qa σ k (i / 4) (i % 4)).toInt64
def fw (σ : CS) (k i : Nat) : Int64 := (qw σ k (i / 3) (i % 3)).toInt64
def fv (σ : CS) (k i : Nat) : Int64 := (σ 41 k i).toInt64
def fq (σ : CS) (N i : Nat) : Int64 := (qs σ N (i / 7) (i % 7)).toInt64
def fc (σ : CS) (N M i : Nat) : Int64 := (qc σ N M i).toInt64
def fi (σ : CS) (i : Nat) : Int64 := (σ 40 0 i).toInt64
/-- after the harmless losses -/
def hB (σ : CS) (k M z : Nat) (h : Int64) : Int64 := let h2 := hsf (fw σ k) (hsf (fa σ k) h (4 * M)) (3 * z); if σ 29 k 0 = -1 then h2 else hsf (fv σ k) h2 M
theorem hn_c4 {c N M L k z : Nat} {σ : CS} {ρ : RS} {y : Int64} (hJ : Jc c N M L σ ρ) (hc : c ≤ 512) (hk : k < N) (hz : σ 83 k 0 = nI z) (hz5 : z ≤ 512) (h : Int64) : B_X5_hashOfNode_59 y (nI k) 4096 σ h 0 = some (σ, .inl (hB σ k M z h)) := by
  have hN := hJ.1.1.2.2.2
  have hM := hJ.1.2.1.2.2.2
  have h7 := hJ.1.2.1.1
  have hk7 : k < 7 := by omega
  have c178 : ∀ h2, ¬ σ 29 k 0 = -1 → B_X5_hashOfNode_183 y (nI k) 4096 σ h2 0 = some (σ, .inl (hsf (fv σ k) h2 M)) := fun h2 u1 => by
    unfold B_X5_hashOfNode_183 B_X5_hashOfNode_215
    refine lo3_it M (fun i a v => a = σ ∧ v = hsf (fv σ k) h2 i) (fun r : Option (CS × (Int64 ⊕ Nat)) => r = some (σ, .inl (hsf (fv σ k) h2 M))) ?_ ?_ M 0 4096 σ h2 (by omega) (by omega) ⟨rfl, rfl⟩
    · rintro i a v hi ⟨rfl, rfl⟩
      refine ⟨a, hsf (fv a k) h2 (i + 1), ⟨rfl, rfl⟩, fun K => ?_⟩
      rw [h7, if_neg (nI_ge hi (by omega)), rv_c hJ hk hi u1, bx_l, lt_eq, lt_eq, nI_1]
      rfl
    · rintro a v K ⟨rfl, rfl⟩
      rw [h7, if_pos (nI_le (Nat.le_refl M) (by omega))]
  have c106 : ∀ h1, B_X5_hashOfNode_111 y (nI k) 4096 σ h1 0 = some (σ, .inl (let h2 := hsf (fw σ k) h1 (3 * z); if σ 29 k 0 = -1 then h2 else hsf (fv σ k) h2 M)) := fun h1 => by
    unfold B_X5_hashOfNode_111
    refine lo3_it z (fun i a v => a = σ ∧ v = hsf (fw σ k) h1 (3 * i)) (fun r : Option (CS × (Int64 ⊕ Nat)) => r = some (σ, .inl (let h2 := hsf (fw σ k) h1 (3 * z); if σ 29 k 0 = -1 then h2 else hsf (fv σ k) h2 M))) ?_ ?_ z 0 4096 σ h1 (by omega) (by omega) ⟨rfl, rfl⟩
    · rintro i a v hi ⟨rfl, rfl⟩
      refine ⟨a, hsf (fw a k) h1 (3 * (i + 1)), ⟨rfl, rfl⟩, fun K => ?_⟩
      rw [g7 hk7, t7 hk7, hz, if_neg (nI_ge hi (by omega))]
      unfold B_X5_hashOfNode_131
      refine lo4_it 3 (fun w b v u => b = a ∧ v = hsf (fw a k) h1 (3 * i + w) ∧ u = nI i) (fun r => r = K a (hsf (fw a k) h1 (3 * (i + 1))) (nI (i + 1))) ?_ ?_ 3 0 4096 a _ _ (by omega) (by omega) ⟨rfl, rfl, rfl⟩
      · rintro w b v u hw ⟨rfl, rfl, rfl⟩
        refine ⟨b, hsf (fw b k) h1 (3 * i + (w + 1)), nI i, ⟨rfl, rfl, rfl⟩, fun K' => ?_⟩
        rw [if_neg (show ¬ (3 : Int32) ≤ nI w from nI_ge (b := 3) hw (by decide)), wt_c hJ hk hz (by omega) hi hw, bx_l, lt_eq, lt_eq, nI_1]
        show K' b ((31 : Int64) * hsf (fw b k) h1 (3 * i + w) + _) _ _ = K' b ((31 : Int64) * hsf (fw b k) h1 (3 * i + w) + (qw b k ((3 * i + w) / 3) ((3 * i + w) % 3)).toInt64) _ _
        rw [show (3 * i + w) / 3 = i by omega, show (3 * i + w) % 3 = w by omega]
      · rintro b v u K' ⟨rfl, rfl, rfl⟩
        rw [if_pos (show (3 : Int32) ≤ nI 3 by decide), lt_eq, nI_1, show 3 * (i + 1) = 3 * i + 3 by omega]
    · rintro a v K ⟨rfl, rfl⟩
      rw [g7 hk7, t7 hk7, hz, if_pos (nI_le (Nat.le_refl z) (by omega)), g7 hk7]
      unfold F_X3_hasRound B_X5_hashOfNode_215
      by_cases u1 : a 29 k 0 = -1
      · rw [if_pos u1, bd_s, if_pos rfl]
        simp only [if_pos u1]
      · rw [if_neg u1, bd_s, if_neg (by decide), c178 _ u1]
        simp only [if_neg u1]
  unfold B_X5_hashOfNode_59
  refine lo3_it M (fun i a v => a = σ ∧ v = hsf (fa σ k) h (4 * i)) (fun r : Option (CS × (Int64 ⊕ Nat)) => r = some (σ, .inl (hB σ k M z h))) ?_ ?_ M 0 4096 σ h (by omega) (by omega) ⟨rfl, rfl⟩
  · rintro i a v hi ⟨rfl, rfl⟩
    refine ⟨a, hsf (fa a k) h (4 * (i + 1)), ⟨rfl, rfl⟩, fun K => ?_⟩
    rw [h7, if_neg (nI_ge hi (by omega))]
    unfold B_X5_hashOfNode_71
    refine lo4_it 4 (fun w b v u => b = a ∧ v = hsf (fa a k) h (4 * i + w) ∧ u = nI i) (fun r => r = K a (hsf (fa a k) h (4 * (i + 1))) (nI (i + 1))) ?_ ?_ 4 0 4096 a _ _ (by omega) (by omega) ⟨rfl, rfl, rfl⟩
    · rintro w b v u hw ⟨rfl, rfl, rfl⟩
      refine ⟨b, hsf (fa b k) h (4 * i + (w + 1)), nI i, ⟨rfl, rfl, rfl⟩, fun K' => ?_⟩
      rw [if_neg (show ¬ (4 : Int32) ≤ nI w from nI_ge (b := 4) hw (by decide)), acp_c hJ hk hi hw, bx_l, lt_eq, lt_eq, nI_1]
      show K' b ((31 : Int64) * hsf (fa b k) h (4 * i + w) + _) _ _ = K' b ((31 : Int64) * hsf (fa b k) h (4 * i + w) + (qa b k ((4 * i + w) / 4) ((4 * i + w) % 4)).toInt64) _ _
      rw [show (4 * i + w) / 4 = i by omega, show (4 * i + w) % 4 = w by omega]
    · rintro b v u K' ⟨rfl, rfl, rfl⟩
      rw [if_pos (show (4 : Int32) ≤ nI 4 by decide), lt_eq, nI_1, show 4 * (i + 1) = 4 * i + 4 by omega]
  · rintro a v K ⟨rfl, rfl⟩
    rw [h7, if_pos (nI_le (Nat.le_refl M) (by omega)), c106]
    rfl
theorem hn_r4 {c N M L k z : Nat} {σ : CS} {ρ : RS} (hJ : Jc c N M L σ ρ) (hc : c ≤ 512) (hk7 : k < 7) (hz : σ 83 k 0 = nI z) (hz5 : z ≤ 512) (h : Int64) : B_X6_mixNode_37 (nI k) 4096 (rh ρ h) 0 = some (rh ρ (hB σ k M z h), ()) := by
  have hM := hJ.1.2.1.2.2.2
  have r14 : ρ.1 14 k = nI z := by rw [Ur_rd (um_14 hk7), ← (hJ.2.1 k hk7).1.q.2.2.2.2.2.2.2]; exact hz
  have r18 : ρ.1 18 k = σ 29 k 0 := by rw [Ur_rd (um_18 hk7), (hJ.2.1 k hk7).1.q.2.2.2.2.1 trivial]
  have c107 : ∀ h2, B_X6_mixNode_107 (nI k) 4096 (rh ρ h2) 0 = some (rh ρ (if σ 29 k 0 = -1 then h2 else hsf (fv σ k) h2 M), ()) := fun h2 => by
    unfold B_X6_mixNode_107
    refine lo2_ex M (fun i a => ((σ 29 k 0 = -1 → i = 0) ∧ a = rh ρ (hsf (fv σ k) h2 i))) (fun r => r = some (rh ρ (if σ 29 k 0 = -1 then h2 else hsf (fv σ k) h2 M), ())) ?_ ?_ M 0 4096 (rh ρ h2) (by omega) (by omega) ⟨fun _ => rfl, rfl⟩
    · rintro i a hi ⟨h0, rfl⟩
      by_cases u1 : σ 29 k 0 = -1
      · refine Or.inl fun K => ?_
        have e0 := h0 u1
        subst e0
        rw [hJ.h.r2, if_neg (nI_ge hi (by omega)), g7 hk7, t7 hk7, show (rh ρ (hsf (fv σ k) h2 0)).1 18 k = σ 29 k 0 from r18, if_pos u1, if_pos u1]
        rfl
      · refine Or.inr ⟨rh ρ (hsf (fv σ k) h2 (i + 1)), ⟨fun q => absurd q u1, rfl⟩, fun K => ?_⟩
        rw [hJ.h.r2, if_neg (nI_ge hi (by omega)), g7 hk7, t7 hk7, show (rh ρ (hsf (fv σ k) h2 i)).1 18 k = σ 29 k 0 from r18, if_neg u1, at_eq, bd_s, g28 hk7 (by omega), t28 hk7 (by omega), rv_r hJ.h hk7 (by omega) u1, mix_r, bd_s, lt_eq, nI_1]
        rfl
    · rintro a K ⟨h0, rfl⟩
      rw [hJ.h.r2, if_pos (nI_le (Nat.le_refl M) (by omega))]
      by_cases u1 : σ 29 k 0 = -1
      · have := h0 u1
        have hM1 := hJ.1.2.1.2.2.1
        omega
      · rw [if_neg u1]
  have c71 : ∀ h1, B_X6_mixNode_71 (nI k) 4096 (rh ρ h1) 0 = some (rh ρ (let h2 := hsf (fw σ k) h1 (3 * z); if σ 29 k 0 = -1 then h2 else hsf (fv σ k) h2 M), ()) := fun h1 => by
    unfold B_X6_mixNode_71
    refine lo2_it (3 * z) (fun i a => a = rh ρ (hsf (fw σ k) h1 i)) (fun r => r = some (rh ρ (let h2 := hsf (fw σ k) h1 (3 * z); if σ 29 k 0 = -1 then h2 else hsf (fv σ k) h2 M), ())) ?_ ?_ (3 * z) 0 4096 (rh ρ h1) (by omega) (by omega) rfl
    · rintro i a hi rfl
      refine ⟨rh ρ (hsf (fw σ k) h1 (i + 1)), rfl, fun K => ?_⟩
      have d3 := dm (a := i) (d := 3) (by omega) (by decide) (by decide)
      have m3 : (3 : Int32) * nI z = nI (3 * z) := pk_mul 3 z
      have e := wt_r (k := k) (j := i / 3) (z := z) (w := i % 3) (hJ.h (v := hsf (fw σ k) h1 i)) hc hk7 hz (by omega) (by omega) (by omega)
      rw [g7 hk7, t7 hk7, show (rh ρ (hsf (fw σ k) h1 i)).1 14 k = nI z from r14, m3, if_neg (nI_ge hi (by omega)), show nI i / (3 : Int32) = nI (i / 3) from d3.1, show nI i - nI (i / 3) * (3 : Int32) = nI (i % 3) from by rw [← d3.1]; exact d3.2, e, bd_s, mix_r, bd_s, lt_eq, nI_1]
      rfl
    · rintro a K rfl
      rw [g7 hk7, t7 hk7, show (rh ρ (hsf (fw σ k) h1 (3 * z))).1 14 k = nI z from r14, show (3 : Int32) * nI z = nI (3 * z) from pk_mul 3 z, if_pos (nI_le (Nat.le_refl _) (by omega)), c107]
  unfold B_X6_mixNode_37
  refine lo2_it (4 * M) (fun i a => a = rh ρ (hsf (fa σ k) h i)) (fun r => r = some (rh ρ (hB σ k M z h), ())) ?_ ?_ (4 * M) 0 4096 (rh ρ h) (by omega) (by omega) rfl
  · rintro i a hi rfl
    refine ⟨rh ρ (hsf (fa σ k) h (i + 1)), rfl, fun K => ?_⟩
    have d4 := dm (a := i) (d := 4) (by omega) (by decide) (by decide)
    have e := acp_r (k := k) (s := i / 4) (w := i % 4) (hJ.h (v := hsf (fa σ k) h i)) hk7 (by omega) (by omega)
    rw [hJ.h.r2, show (4 : Int32) * nI M = nI (4 * M) from pk_mul 4 M, if_neg (nI_ge hi (by omega)), show nI i / (4 : Int32) = nI (i / 4) from d4.1, show nI i - nI (i / 4) * (4 : Int32) = nI (i % 4) from by rw [← d4.1]; exact d4.2, e, bd_s, mix_r, bd_s, lt_eq, nI_1]
    rfl
  · rintro a K rfl
    rw [hJ.h.r2, show (4 : Int32) * nI M = nI (4 * M) from pk_mul 4 M, if_pos (nI_le (Nat.le_refl _) (by omega)), c71]
    rfl
theorem hn_2 {c N M L k : Nat} {σ : CS} {ρ : RS} (hJ : Jc c N M L σ ρ) (hc : c ≤ 512) (hk : k < N) (h : Int64) : ∃ σ' h', F_X5_hashOfNode σ h (nI k) = some (σ', .inl h') ∧ O14 σ σ' ∧ F_X6_mixNode (rh ρ h) (nI k) = some (rh ρ h', ()) := by
  have hN := hJ.1.1.2.2.2
  have hk7 : k < 7 := by omega
  obtain ⟨σ', r, e1, hO, e2⟩ := mh_2 hJ hk7
  obtain ⟨z, C, hz1, hz, _⟩ := hJ.wz hk7
  have hJ' := hJ.o14 hO
  have hz' : σ' 83 k 0 = nI z := by rw [hO 83 k 0 (by omega)]; exact hz
  have e2' : ∀ v, F_X6_harmlessNow (rh ρ v) (nI k) = some (rh ρ v, r) := fun v => by
    obtain ⟨σ2, r2, f1, _, f2⟩ := mh_2 (hJ.h (v := v)) hk7
    rw [e1] at f1
    have : r2 = r := by
      have := Option.some.inj f1
      exact (Prod.mk.inj this).2.symm
    rw [f2, this]
  refine ⟨σ', hB σ' k M z ((31 : Int64) * hsf (fn σ k) h 9 + r.toInt64), ?_, hO, ?_⟩
  · unfold F_X5_hashOfNode B_X5_hashOfNode_6
    refine lo3_it 9 (fun i a v => a = σ ∧ v = hsf (fn σ k) h i) (fun R : Option (CS × (Int64 ⊕ Nat)) => R = some (σ', .inl (hB σ' k M z ((31 : Int64) * hsf (fn σ k) h 9 + r.toInt64)))) ?_ ?_ 9 0 4096 σ h (by omega) (by omega) ⟨rfl, rfl⟩
    · rintro i a v hi ⟨rfl, rfl⟩
      refine ⟨a, hsf (fn a k) h (i + 1), ⟨rfl, rfl⟩, fun K => ?_⟩
      rw [if_neg (show ¬ (9 : Int32) ≤ nI i from nI_ge (b := 9) hi (by decide)), node_c hJ hc hk hi, bx_l, lt_eq, lt_eq, nI_1]
      rfl
    · rintro a v K ⟨rfl, rfl⟩
      rw [if_pos (show (9 : Int32) ≤ nI 9 by decide), g7 hk7, t7 hk7, e1, bd_s, lt_eq]
      exact hn_c4 hJ' hc hk hz' (by omega) _
  · unfold F_X6_mixNode B_X6_mixNode_2
    refine lo2_it 9 (fun i a => a = rh ρ (hsf (fn σ k) h i)) (fun R => R = some (rh ρ (hB σ' k M z ((31 : Int64) * hsf (fn σ k) h 9 + r.toInt64)), ())) ?_ ?_ 9 0 4096 (rh ρ h) (by omega) (by omega) rfl
    · rintro i a hi rfl
      refine ⟨rh ρ (hsf (fn σ k) h (i + 1)), rfl, fun K => ?_⟩
      rw [if_neg (show ¬ (9 : Int32) ≤ nI i from nI_ge (b := 9) hi (by decide)), node_r hJ.h hc hk7 hi, bd_s, mix_r, bd_s, lt_eq, nI_1]
      rfl
    · rintro a K rfl
      rw [if_pos (show (9 : Int32) ≤ nI 9 by decide), e2', bd_s, mix_r, bd_s]
      exact hn_r4 hJ' hc hk7 hz' (by omega) _
/-- the end of the digest -/
def hE (σ : CS) (N M L : Nat) (ra : Int32) (rd : UInt64) (h : Int64) : Int64 := hsf (fi σ) ((31 : Int64) * ((31 : Int64) * ((31 : Int64) * hsf (fq σ N) h (7 * M) + ra.toInt64) + rd.toInt64) + (nI L).toInt64) L
theorem dg_c {c N M L : Nat} {σ : CS} {ρ : RS} {ra : Int32} {rd : UInt64} (hJ : Jc c N M L σ ρ) (ha : F_X5_answered σ = some (σ, ra)) (hd : F_X5_onDisks σ = some (σ, rd)) (hk : dchk rd = true) (h : Int64) : B_X5_digest_56 4096 σ h 0 = some (σ, .inl (hE σ N M L ra rd h)) := by
  have hN := hJ.1.1.2.2.2
  have hM := hJ.1.2.1.2.2.2
  have h6 := hJ.1.1.1
  have h7 := hJ.1.2.1.1
  have h5 := hJ.1.2.2.1
  have c141 : ∀ h1, B_X5_digest_141 4096 σ h1 0 = some (σ, .inl (hsf (fi σ) h1 L)) := fun h1 => by
    unfold B_X5_digest_141
    refine lo3_it L (fun i a v => a = σ ∧ v = hsf (fi σ) h1 i) (fun r : Option (CS × (Int64 ⊕ Nat)) => r = some (σ, .inl (hsf (fi σ) h1 L))) ?_ ?_ L 0 4096 σ h1 (by omega) (by omega) ⟨rfl, rfl⟩
    · rintro i a v hi ⟨rfl, rfl⟩
      refine ⟨a, hsf (fi a) h1 (i + 1), ⟨rfl, rfl⟩, fun K => ?_⟩
      rw [h5.1, if_neg (nI_ge hi (by omega)), gd_inb (show i < 60 by omega) (by decide), tn_nI (show i < 2 ^ 31 by omega), lt_eq, lt_eq, nI_1]
      rfl
    · rintro a v K ⟨rfl, rfl⟩
      rw [h5.1, if_pos (nI_le (Nat.le_refl L) (by omega))]
  unfold B_X5_digest_56
  refine lo3_it M (fun i a v => a = σ ∧ v = hsf (fq σ N) h (7 * i)) (fun r : Option (CS × (Int64 ⊕ Nat)) => r = some (σ, .inl (hE σ N M L ra rd h))) ?_ ?_ M 0 4096 σ h (by omega) (by omega) ⟨rfl, rfl⟩
  · rintro i a v hi ⟨rfl, rfl⟩
    refine ⟨a, hsf (fq a N) h (7 * (i + 1)), ⟨rfl, rfl⟩, fun K => ?_⟩
    rw [h7, if_neg (nI_ge hi (by omega))]
    unfold B_X5_digest_67
    refine lo4_it 7 (fun w b v u => b = a ∧ v = hsf (fq a N) h (7 * i + w) ∧ u = nI i) (fun r => r = K a (hsf (fq a N) h (7 * (i + 1))) (nI (i + 1))) ?_ ?_ 7 0 4096 a _ _ (by omega) (by omega) ⟨rfl, rfl, rfl⟩
    · rintro w b v u hw ⟨rfl, rfl, rfl⟩
      refine ⟨b, hsf (fq b N) h (7 * i + (w + 1)), nI i, ⟨rfl, rfl, rfl⟩, fun K' => ?_⟩
      rw [if_neg (show ¬ (7 : Int32) ≤ nI w from nI_ge (b := 7) hw (by decide)), slt_c h6 hN h7 hM hi hw, bx_l, lt_eq, lt_eq, nI_1]
      show K' b ((31 : Int64) * hsf (fq b N) h (7 * i + w) + _) _ _ = K' b ((31 : Int64) * hsf (fq b N) h (7 * i + w) + (qs b N ((7 * i + w) / 7) ((7 * i + w) % 7)).toInt64) _ _
      rw [show (7 * i + w) / 7 = i by omega, show (7 * i + w) % 7 = w by omega]
    · rintro b v u K' ⟨rfl, rfl, rfl⟩
      rw [if_pos (show (7 : Int32) ≤ nI 7 by decide), lt_eq, nI_1, show 7 * (i + 1) = 7 * i + 7 by omega]
  · rintro a v K ⟨rfl, rfl⟩
    rw [h7, if_pos (nI_le (Nat.le_refl M) (by omega)), ha, bd_s, lt_eq, hd, bd_s, (dchk_2 (σ := a) (ρ := ρ) hk).2.1, bd_s, lt_eq, lt_eq, c141, h5.1]
    rfl
theorem dg_r {c N M L : Nat} {σ : CS} {ρ : RS} {ra : Int32} {rd : UInt64} (hJ : Jc c N M L σ ρ) (ha : ∀ v, F_X6_answeredNow (rh ρ v) = some (rh ρ v, ra)) (hd : ∀ v, F_X6_onDisksNow (rh ρ v) = some (rh ρ v, rd)) (hk : dchk rd = true) (h : Int64) : B_X6_digest_59 4096 (rh ρ h) 0 = some (rh ρ (hE σ N M L ra rd h), hE σ N M L ra rd h) := by
  have hM := hJ.1.2.1.2.2.2
  have h5 := hJ.1.2.2.1
  have r27 : ρ.1 27 0 = nI L := by rw [Ur_rd um_27]; exact h5.2.1
  have r28 : ∀ i, i < L → ρ.1 28 i = σ 40 0 i := fun i hi => by
    obtain ⟨a, _, _, e1, e2⟩ := hJ.1.2.2.2.2.2.2 i hi
    rw [Ur_rd (um_28 (by omega)), e2, e1]
  have c124 : ∀ h1, B_X6_digest_124 4096 (rh ρ h1) 0 = some (rh ρ (hsf (fi σ) h1 L), hsf (fi σ) h1 L) := fun h1 => by
    unfold B_X6_digest_124
    refine lo2_it L (fun i a => a = rh ρ (hsf (fi σ) h1 i)) (fun r => r = some (rh ρ (hsf (fi σ) h1 L), hsf (fi σ) h1 L)) ?_ ?_ L 0 4096 (rh ρ h1) (by omega) (by omega) rfl
    · rintro i a hi rfl
      refine ⟨rh ρ (hsf (fi σ) h1 (i + 1)), rfl, fun K => ?_⟩
      rw [show (rh ρ (hsf (fi σ) h1 i)).1 27 0 = nI L from r27, if_neg (nI_ge hi (by omega)), gd_inb (show i < 60 by omega) (by decide), tn_nI (show i < 2 ^ 31 by omega), show (rh ρ (hsf (fi σ) h1 i)).1 28 i = σ 40 0 i from r28 i hi, mix_r, bd_s, lt_eq, nI_1]
      rfl
    · rintro a K rfl
      rw [show (rh ρ (hsf (fi σ) h1 L)).1 27 0 = nI L from r27, if_pos (nI_le (Nat.le_refl L) (by omega))]
      rfl
  unfold B_X6_digest_59
  refine lo2_it (7 * M) (fun i a => a = rh ρ (hsf (fq σ N) h i)) (fun r => r = some (rh ρ (hE σ N M L ra rd h), hE σ N M L ra rd h)) ?_ ?_ (7 * M) 0 4096 (rh ρ h) (by omega) (by omega) rfl
  · rintro i a hi rfl
    refine ⟨rh ρ (hsf (fq σ N) h (i + 1)), rfl, fun K => ?_⟩
    have d7 := dm (a := i) (d := 7) (by omega) (by decide) (by decide)
    have e := slt_r (s := i / 7) (w := i % 7) (hJ.h (v := hsf (fq σ N) h i)) (by omega) (by omega)
    rw [hJ.h.r2, show (7 : Int32) * nI M = nI (7 * M) from pk_mul 7 M, if_neg (nI_ge hi (by omega)), show nI i / (7 : Int32) = nI (i / 7) from d7.1, show nI i - nI (i / 7) * (7 : Int32) = nI (i % 7) from by rw [← d7.1]; exact d7.2, e, bd_s, mix_r, bd_s, lt_eq, nI_1]
    rfl
  · rintro a K rfl
    rw [hJ.h.r2, show (7 : Int32) * nI M = nI (7 * M) from pk_mul 7 M, if_pos (nI_le (Nat.le_refl _) (by omega)), ha, bd_s, mix_r, bd_s, hd, bd_s, (dchk_2 (σ := σ) hk).2.2, bd_s, mix_r, bd_s, mix_r, bd_s, c124, show ∀ v, (rh ρ v).1 27 0 = nI L from fun _ => r27]
    rfl
theorem dig_2 {c N M L : Nat} {σ : CS} {ρ : RS} (hJ : Jc c N M L σ ρ) (hc : c ≤ 512) (h : Int64) : ∃ σ' r, B_X5_digest_33 4096 σ h 0 = some (σ', .inl r) ∧ O14 σ σ' ∧ B_X6_digest_38 4096 (rh ρ h) 0 = some (rh ρ r, r) := by
  have hN := hJ.1.1.2.2.2
  unfold B_X5_digest_33 B_X6_digest_38
  refine lo32_it N (fun i a b a2 => O14 σ a ∧ a2 = rh ρ b) (fun (R : Option (CS × (Int64 ⊕ Nat))) (R2 : Option (RS × Int64)) => ∃ σ' r, R = some (σ', .inl r) ∧ O14 σ σ' ∧ R2 = some (rh ρ r, r)) ?_ ?_ N 0 4096 4096 σ h (rh ρ h) (by omega) (by omega) (by omega) ⟨fun _ _ _ _ => rfl, rfl⟩
  · rintro i a b a2 hi ⟨hO, rfl⟩
    have hJ' := hJ.o14 hO
    obtain ⟨σ', h', e1, hO', e2⟩ := hn_2 hJ' hc hi b
    refine ⟨σ', h', rh ρ h', ⟨hO.trans hO', rfl⟩, fun K => ?_, fun K => ?_⟩
    · rw [hJ'.1.1.1, if_neg (nI_ge hi (by omega)), e1, bx_l, lt_eq, nI_1]
    · rw [hJ'.h.r1, if_neg (nI_ge hi (by omega)), e2, bd_s, lt_eq, nI_1]
  · rintro a b a2 K K2 ⟨hO, rfl⟩
    have hJ' := hJ.o14 hO
    obtain ⟨ra, a1, a2⟩ := ans_2 hJ' hc
    obtain ⟨rd, b1, b2, b3⟩ := od_2 hJ'
    have a2' : ∀ v, F_X6_answeredNow (rh ρ v) = some (rh ρ v, ra) := fun v => by
      obtain ⟨r, q1, q2⟩ := ans_2 (hJ'.h (v := v)) hc
      rw [a1] at q1
      rw [q2, (Prod.mk.inj (Option.some.inj q1)).2]
    have b2' : ∀ v, F_X6_onDisksNow (rh ρ v) = some (rh ρ v, rd) := fun v => by
      obtain ⟨r, q1, q2, _⟩ := od_2 (hJ'.h (v := v))
      rw [b1] at q1
      rw [q2, (Prod.mk.inj (Option.some.inj q1)).2]
    refine ⟨a, hE a N M L ra rd b, ?_, hO, ?_⟩
    · rw [hJ'.1.1.1, if_pos (nI_le (Nat.le_refl N) (by omega))]
      exact dg_c hJ' a1 b1 b3 b
    · rw [hJ'.h.r1, if_pos (nI_le (Nat.le_refl N) (by omega))]
      exact dg_r hJ' a2' b2' b3 b
theorem sm_digest : Sm_digest Inv := by
  rintro n σ ρ0 hn ⟨c, N, M, L, hcL, hJ0⟩
  have hJ := hJ0.t0 (v := 0)
  have hN := hJ.1.1.2.2.2
  have hM := hJ.1.2.1.2.2.2
  obtain ⟨σ', r, e1, hO, e2⟩ := dig_2 hJ (by omega) (hsf (fc σ N M) 1997 12)
  refine ⟨σ', rh (rp ρ0 0 0 0) r, r, ?_, ?_, ⟨c, N, M, L, by omega, (hJ.o14 hO).h⟩, ?_⟩
  · unfold F_X5_digest B_X5_digest_6
    refine lo3_it 12 (fun i a v => a = σ ∧ v = hsf (fc σ N M) 1997 i) (fun R : Option (CS × (Int64 ⊕ Nat)) => R = some (σ', .inl r)) ?_ ?_ 12 0 4096 σ 1997 (by omega) (by omega) ⟨rfl, rfl⟩
    · rintro i a v hi ⟨rfl, rfl⟩
      refine ⟨a, hsf (fc a N M) 1997 (i + 1), ⟨rfl, rfl⟩, fun K => ?_⟩
      rw [if_neg (show ¬ (12 : Int32) ≤ nI i from nI_ge (b := 12) hi (by decide)), cnt_c hJ.1.1.1 hN hJ.1.2.1.1 hM hi, bx_l, lt_eq, lt_eq, nI_1]
      rfl
    · rintro a v K ⟨rfl, rfl⟩
      rw [if_pos (show (12 : Int32) ≤ nI 12 by decide)]
      exact e1
  · unfold F_X6_digest
    rw [lt_eq, lt_eq]
    unfold B_X6_digest_14
    refine lo2_it 12 (fun i a => a = rh (rp ρ0 0 0 0) (hsf (fc σ N M) 1997 i)) (fun R => R = some (rh (rp ρ0 0 0 0) r, r)) ?_ ?_ 12 0 4096 (rh (rp ρ0 0 0 0) 1997) (by omega) (by omega) rfl
    · rintro i a hi rfl
      refine ⟨rh (rp ρ0 0 0 0) (hsf (fc σ N M) 1997 (i + 1)), rfl, fun K => ?_⟩
      rw [if_neg (show ¬ (12 : Int32) ≤ nI i from nI_ge (b := 12) hi (by decide)), cnt_r hJ.h hi, bd_s, mix_r, bd_s, lt_eq, nI_1]
      rfl
    · rintro a K rfl
      rw [if_pos (show (12 : Int32) ≤ nI 12 by decide)]
      exact e2
  · rw [(hJ.o14 hO).le, hJ.le]
    omega
