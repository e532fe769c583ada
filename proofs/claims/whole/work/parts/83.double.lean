/-! ===== what stands on disks, as a double ===== -/
def bDf : Nat → UInt64 → Int64 → Option Int64
  | 0, _, _ => none
  | n + 1, v, e =>
    if 0 ≤ (Op.cmpValue (FP.dcmp v (FP.dconst1)) .g) then
      (if dok (FP.dsub v (FP.dconst1)) = true then (if dok (FP.dmul (FP.dsub v (FP.dconst1)) (4841369599423283200 : UInt64)) = true then some ((e <<< ((52 : Int32).toInt64 &&& 63)) + (FP.d2l (FP.dmul (FP.dsub v (FP.dconst1)) (4841369599423283200 : UInt64)))) else none) else none)
    else if (lg_cmp e (1 : Int64)) ≤ 0 then none
    else if dok (FP.dmul v (4611686018427387904 : UInt64)) = true then bDf n (FP.dmul v (4611686018427387904 : UInt64)) (e - (1 : Int64)) else none
theorem bDf_c {d0 : UInt64} {σ : CS} {r : Int64} : ∀ n m v e, n ≤ m → bDf n v e = some r → B_X5_bitsOfDouble_15 d0 m σ v e = some (σ, r)
  | 0, m, v, e, _, h => by simp [bDf] at h
  | n + 1, m, v, e, hm, h => by
    obtain ⟨m, rfl⟩ : ∃ g, m = g + 1 := ⟨m - 1, by omega⟩
    simp only [bDf] at h
    show (if 0 ≤ (Op.cmpValue (FP.dcmp v (FP.dconst1)) .g) then B_X5_bitsOfDouble_43 d0 σ v e else (if (lg_cmp e (1 : Int64)) ≤ 0 then B_X5_bitsOfDouble_43 d0 σ v e else gd (dok (FP.dmul v (4611686018427387904 : UInt64))) (lt (FP.dmul v (4611686018427387904 : UInt64)) fun d105 => lt (e - (1 : Int64)) fun y106 => B_X5_bitsOfDouble_15 d0 m σ d105 y106))) = _
    by_cases h1 : 0 ≤ (Op.cmpValue (FP.dcmp v (FP.dconst1)) .g)
    · rw [if_pos h1] at h ⊢
      unfold B_X5_bitsOfDouble_43
      by_cases h2 : dok (FP.dsub v (FP.dconst1)) = true
      · rw [if_pos h2] at h
        by_cases h3 : dok (FP.dmul (FP.dsub v (FP.dconst1)) (4841369599423283200 : UInt64)) = true
        · rw [if_pos h3] at h
          rw [h2, gd_t, h3, gd_t]
          exact congrArg (fun o => o.map (fun x => (σ, x))) h
        · rw [if_neg h3] at h
          exact absurd h (by simp)
      · rw [if_neg h2] at h
        exact absurd h (by simp)
    · rw [if_neg h1] at h ⊢
      by_cases h2 : (lg_cmp e (1 : Int64)) ≤ 0
      · rw [if_pos h2] at h
        exact absurd h (by simp)
      · rw [if_neg h2] at h ⊢
        by_cases h3 : dok (FP.dmul v (4611686018427387904 : UInt64)) = true
        · rw [if_pos h3] at h
          rw [h3, gd_t, lt_eq, lt_eq]
          exact bDf_c n m _ _ (by omega) h
        · rw [if_neg h3] at h
          exact absurd h (by simp)
def dq (s m : Nat) : UInt64 := FP.ddiv (FP.i2d (nI s)) (FP.i2d (nI m))
def dchk (d : UInt64) : Bool := dok d && decide ((Op.cmpValue (FP.dcmp d d) .l) = 0) && (if 0 < (Op.cmpValue (FP.dcmp d (FP.dconst0)) .l) then decide (bDf 64 d 1023 = some d.toInt64) else decide (d.toInt64 = 0))
theorem dchk_all : ∀ m, m < 28 → ∀ s, s < m + 2 → dchk (dq s (m + 1)) = true := by decide +kernel
theorem dchk_0 : dchk FP.dconst0 = true := by decide +kernel
theorem dchk_2 {σ : CS} {ρ : RS} {d : UInt64} (h : dchk d = true) : dok d = true ∧ F_X5_bitsOfDouble σ d = some (σ, d.toInt64) ∧ F_Jxe99ae_doubleToLongBits_ccdee ρ d = some (ρ, d.toInt64) := by
  unfold dchk at h
  rw [Bool.and_eq_true, Bool.and_eq_true] at h
  obtain ⟨⟨h1, h2⟩, h3⟩ := h
  refine ⟨h1, ?_, ?_⟩
  · unfold F_X5_bitsOfDouble
    by_cases hp : 0 < (Op.cmpValue (FP.dcmp d (FP.dconst0)) .l)
    · rw [if_pos hp] at h3 ⊢
      exact bDf_c 64 4096 _ _ (by decide) (of_decide_eq_true h3)
    · rw [if_neg hp] at h3 ⊢
      rw [of_decide_eq_true h3]
  · unfold F_Jxe99ae_doubleToLongBits_ccdee F_Jxe99ae_isNaN_b9ae7
    rw [if_pos (of_decide_eq_true h2), bd_s, if_pos rfl]
theorem mde_01 (v : Int32) : mde v = 0 ∨ mde v = 1 := by
  unfold mde
  by_cases h : v ≤ 0
  · rw [if_pos h]; exact Or.inl rfl
  · rw [if_neg h]; exact Or.inr rfl
theorem hcdk_n (σ : CS) (N s : Nat) : ∃ h, h ≤ N ∧ hcdk σ N s = nI h ∧ (mde (σ 52 s 0) = 0 → h = 0) := by
  obtain ⟨h, h1, h2⟩ := sm_01 (f := fun i => hdv σ i s) (fun _ => hv_01 _ _ _ _) N
  by_cases h0 : σ 52 s 0 ≤ 0
  · exact ⟨0, Nat.zero_le N, (sm_tail (n := 0) (Nat.zero_le N) (fun i _ _ => by unfold hdv hv; rw [if_pos h0])).trans rfl, fun _ => rfl⟩
  · exact ⟨h, h1, h2, fun q => by unfold mde at q; rw [if_neg h0] at q; exact absurd q (by decide)⟩
theorem hcdk_s (σ : CS) (N : Nat) : ∀ M, ∃ S D, S ≤ D * N ∧ D ≤ M ∧ sm M (fun s => hcdk σ N s) = nI S ∧ sm M (fun s => mde (σ 52 s 0)) = nI D
  | 0 => ⟨0, 0, by omega, Nat.le_refl 0, rfl, rfl⟩
  | M + 1 => by
    obtain ⟨S, D, h1, h2, h3, h4⟩ := hcdk_s σ N M
    obtain ⟨h, h5, h6, h7⟩ := hcdk_n σ N M
    rcases mde_01 (σ 52 M 0) with e | e
    · exact ⟨S, D, h1, by omega, by simp only [sm]; rw [h3, h6, h7 e]; exact add0 _, by simp only [sm]; rw [h4, e, add0]⟩
    · refine ⟨S + h, D + 1, by rw [Nat.add_mul, Nat.one_mul]; omega, by omega, by simp only [sm]; rw [h3, h6, nI_add], by simp only [sm]; rw [h4, e, nI_1]⟩
theorem od_2 {c N M L : Nat} {σ : CS} {ρ : RS} (hJ : Jc c N M L σ ρ) : ∃ r, F_X5_onDisks σ = some (σ, r) ∧ F_X6_onDisksNow ρ = some (ρ, r) ∧ dchk r = true := by
  have h6 := hJ.1.1.1
  have hN := hJ.1.1.2.2
  have h7 := hJ.1.2.1.1
  have hM := hJ.1.2.1.2.2
  obtain ⟨S, D, s1, s2, s3, s4⟩ := hcdk_s σ N M
  have hDN : D * N ≤ 28 := Nat.le_trans (Nat.mul_le_mul s2 hN.2) (Nat.le_trans (Nat.mul_le_mul_right 7 hM.2) (by decide))
  have eq6 : F_X6_counted ρ 6 = some (ρ, sm M (fun s => mde (σ 52 s 0))) := by
    have := cnt_r (w := 6) hJ (by decide)
    unfold qc at this
    rw [if_neg (show ¬ (6 : Nat) = 0 by decide), if_neg (show ¬ (6 : Nat) = 1 by decide), if_neg (show ¬ (6 : Nat) = 2 by decide), if_neg (show ¬ (6 : Nat) = 3 by decide), if_neg (show ¬ (6 : Nat) = 4 by decide), if_neg (show ¬ (6 : Nat) = 5 by decide), if_pos rfl] at this
    exact this
  have mul : nI D * nI N = nI (D * N) := pk_mul D N
  have hr : ∀ R, (if nI D = 0 then some (ρ, FP.dconst0) else gd (dok (FP.ddiv (FP.i2d (nI S)) (FP.i2d (nI (D * N))))) (some (ρ, (FP.ddiv (FP.i2d (nI S)) (FP.i2d (nI (D * N))))))) = some (ρ, R) → F_X6_onDisksNow ρ = some (ρ, R) := by
    intro R hR
    unfold F_X6_onDisksNow B_X6_onDisksNow_11
    rw [eq6, bd_s, s4]
    refine lo4_it M (fun i a v1 v2 => a = ρ ∧ v1 = nI D ∧ v2 = sm i (fun s => hcdk σ N s)) (fun r => r = some (ρ, R)) ?_ ?_ M 0 4096 ρ _ 0 (by omega) (by omega) ⟨rfl, rfl, rfl⟩
    · rintro i a v1 v2 hi ⟨rfl, rfl, rfl⟩
      refine ⟨a, _, sm i (fun s => hcdk σ N s) + hcdk σ N i, ⟨rfl, rfl, rfl⟩, fun K => ?_⟩
      rw [hJ.r2, if_neg (nI_ge hi (by omega)), hsd_r hJ (by omega), bd_s, lt_eq, lt_eq, nI_1]
    · rintro a v1 v2 K ⟨rfl, rfl, rfl⟩
      rw [hJ.r2, if_pos (nI_le (Nat.le_refl M) (by omega)), hJ.r1, s3, mul]
      exact hR
  unfold F_X5_onDisks B_X5_onDisks_16
  rw [ds_c h7 hM.2, bd_s, s4]
  by_cases hD : D = 0
  · subst hD
    rw [if_pos (show nI 0 ≤ (0 : Int32) by decide)]
    exact ⟨_, rfl, hr _ (by rw [if_pos (show nI 0 = (0 : Int32) from rfl)]), dchk_0⟩
  · have hDp : 0 < D * N := Nat.mul_pos (by omega) (by omega)
    have hk : dchk (dq S (D * N)) = true := by
      have := dchk_all (D * N - 1) (by omega) S (by omega)
      rw [show D * N - 1 + 1 = D * N by omega] at this
      exact this
    have hok := (dchk_2 (σ := σ) (ρ := ρ) hk).1
    unfold dq at hok hk
    rw [if_neg (show ¬ nI D ≤ (0 : Int32) from nI_ge (a := 0) (by omega) (by omega)), h6, if_pos (show (0 : Int32) < nI N from nI_lt (a := 0) (by omega) (by omega))]
    refine ⟨FP.ddiv (FP.i2d (nI S)) (FP.i2d (nI (D * N))), ?_, hr _ (by rw [if_neg (show ¬ nI D = (0 : Int32) from fun e => hD (nI_inj (b := 0) (by omega) (by decide) e)), hok, gd_t]), hk⟩
    unfold B_X5_onDisks_22
    refine lo4_it M (fun i a v1 v2 => a = σ ∧ v1 = nI D ∧ v2 = sm i (fun s => hcdk σ N s)) (fun r => r = some (σ, FP.ddiv (FP.i2d (nI S)) (FP.i2d (nI (D * N))))) ?_ ?_ M 0 4096 σ _ 0 (by omega) (by omega) ⟨rfl, rfl, rfl⟩
    · rintro i a v1 v2 hi ⟨rfl, rfl, rfl⟩
      refine ⟨a, _, sm i (fun s => hcdk a N s) + hcdk a N i, ⟨rfl, rfl, rfl⟩, fun K => ?_⟩
      rw [h7, if_neg (nI_ge hi (by omega)), dh_c h6 hN.2 (by omega), bd_s, lt_eq, lt_eq, nI_1]
    · rintro a v1 v2 K ⟨rfl, rfl, rfl⟩
      rw [h7, if_pos (nI_le (Nat.le_refl M) (by omega)), h6, s3, mul, hok, gd_t]
theorem sm_onDisks : Sm_onDisks Inv := by
  rintro n σ ρ hn ⟨c, N, M, L, hcL, hJ⟩
  obtain ⟨r, e1, e2, _⟩ := od_2 (hJ.t0 (v := 0))
  refine ⟨σ, rp ρ 0 0 0, r, e1, ?_, ⟨c, N, M, L, by omega, hJ.t0⟩, Nat.le_refl _⟩
  unfold F_X6_onDisks
  rw [lt_eq, e2, bd_s]
