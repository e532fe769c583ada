/-! ===== the calls that change something, on both sides ===== -/
def Inv (n : Nat) (σ : CS) (ρ : RS) : Prop := ∃ c N M L, c + L ≤ n ∧ Jc c N M L σ ρ
theorem Jc.le {c N M L : Nat} {σ : CS} {ρ : RS} (h : Jc c N M L σ ρ) : ln σ = L := by
  unfold ln
  rw [h.1.2.2.1.1]
  exact tn_nI (by have := h.1.2.2.1.2.2; omega)
theorem Jc.t0 {c N M L : Nat} {σ : CS} {ρ : RS} {v : Int32} (h : Jc c N M L σ ρ) : Jc c N M L σ (rp ρ 0 0 v) := by
  unfold Jc
  rw [Ur_rn (Or.inl rfl)]
  exact h
theorem sw_ok {n c c' N M L N' M' : Nat} {up : Nat} {σ σ' : CS} {ρ ρ' : RS} {r : Int32} {hs : List (Nat × Int32)} {fc : Option (CS × (Int32 ⊕ Nat))} {fr : Option (RS × Int32)} (h : Jc c N M L σ ρ) (hn : c' + L ≤ n + 1) (hc : fc = some (σ', .inl r)) (hr : fr = some (ρ', r)) (h0 : ρ'.1 0 0 = 0) (hJ : Jc c' N' M' L σ' ρ') : SW Inv n σ up hs fc fr :=
  Or.inl ⟨σ', ρ', r, hc, hr, h0, ⟨c', N', M', L, hn, hJ⟩, by rw [hJ.le, h.le]; omega⟩
theorem sw_ex {n c N M L : Nat} {up ex : Nat} {σ : CS} {ρ : RS} {r cd : Int32} {hs : List (Nat × Int32)} {fc : Option (CS × (Int32 ⊕ Nat))} {fr : Option (RS × Int32)} (h : Jc c N M L σ ρ) (hn : c + L ≤ n) (hc : fc = some (σ, .inr ex)) (hr : fr = some (rp ρ 0 0 cd, r)) (hm : (ex, cd) ∈ hs) : SW Inv n σ up hs fc fr :=
  Or.inr ⟨σ, rp ρ 0 0 cd, r, ex, cd, hc, hr, rp_se, hm, ⟨c, N, M, L, by omega, h.t0⟩, Nat.le_refl _⟩
theorem ind_c {N : Nat} {x : Int32} {σ : CS} (h6 : σ 6 0 0 = nI N) (hN : N ≤ 7) : (∀ k, k < N → x = nI k → F_X5_isNode σ x = some (σ, 1)) ∧ ((x < 0 ∨ nI N ≤ x) → F_X5_isNode σ x = some (σ, 0)) := by
  unfold F_X5_isNode B_X5_isNode_16
  rw [h6]
  refine ⟨?_, ?_⟩
  · rintro k hk rfl
    rw [if_neg (nI_pos (by omega)), if_neg (fun q => Int32.lt_irrefl (Int32.lt_of_lt_of_le (nI_lt hk (by omega)) q))]
  · rintro (h | h)
    · rw [if_pos h]
    · by_cases h0 : x < 0
      · rw [if_pos h0]
      · rw [if_neg h0, if_pos h]
theorem nd_c {N : Nat} {x : Int32} {σ : CS} (h6 : σ 6 0 0 = nI N) (hN : N ≤ 7) : (∀ k, k < N → x = nI k → F_X5_requireNode σ x = some (σ, .inl ())) ∧ ((x < 0 ∨ nI N ≤ x) → F_X5_requireNode σ x = some (σ, .inr 1)) := by
  unfold F_X5_requireNode
  refine ⟨fun k hk e => ?_, fun h => ?_⟩
  · rw [(ind_c h6 hN).1 k hk e, bd_s, if_neg (show ¬ (1 : Int32) = 0 by decide)]
  · rw [(ind_c h6 hN).2 h, bd_s, if_pos rfl]
theorem isl_c {M : Nat} {x : Int32} {σ : CS} (h7 : σ 7 0 0 = nI M) (hM : M ≤ 4) : (∀ k, k < M → x = nI k → F_X5_isSlot σ x = some (σ, 1)) ∧ ((x < 0 ∨ nI M ≤ x) → F_X5_isSlot σ x = some (σ, 0)) := by
  unfold F_X5_isSlot B_X5_isSlot_16
  rw [h7]
  refine ⟨?_, ?_⟩
  · rintro k hk rfl
    rw [if_neg (nI_pos (by omega)), if_neg (fun q => Int32.lt_irrefl (Int32.lt_of_lt_of_le (nI_lt hk (by omega)) q))]
  · rintro (h | h)
    · rw [if_pos h]
    · by_cases h0 : x < 0
      · rw [if_pos h0]
      · rw [if_neg h0, if_pos h]
theorem sl_c {M : Nat} {x : Int32} {σ : CS} (h7 : σ 7 0 0 = nI M) (hM : M ≤ 4) : (∀ k, k < M → x = nI k → F_X5_requireSlot σ x = some (σ, .inl ())) ∧ ((x < 0 ∨ nI M ≤ x) → F_X5_requireSlot σ x = some (σ, .inr 1)) := by
  unfold F_X5_requireSlot
  refine ⟨fun k hk e => ?_, fun h => ?_⟩
  · rw [(isl_c h7 hM).1 k hk e, bd_s, if_neg (show ¬ (1 : Int32) = 0 by decide)]
  · rw [(isl_c h7 hM).2 h, bd_s, if_pos rfl]
theorem wi_r {ρ : RS} {x : Int32} {a b : Nat} (hb : b < 2 ^ 31) : (∀ k, a ≤ k → k ≤ b → x = nI k → F_X6_within ρ x (nI a) (nI b) = some (ρ, 1)) ∧ ((x < nI a ∨ nI b < x) → F_X6_within ρ x (nI a) (nI b) = some (ρ, 0)) := by
  unfold F_X6_within B_X6_within_14
  refine ⟨?_, ?_⟩
  · rintro k h1 h2 rfl
    rw [if_neg (nI_nlt h1 (by omega)), if_neg (nI_nlt h2 hb)]
  · rintro (h | h)
    · rw [if_pos h]
    · by_cases h0 : x < nI a
      · rw [if_pos h0]
      · rw [if_neg h0, if_pos h]
theorem lt_pred {N : Nat} {x : Int32} (hN : 0 < N) (hb : N < 2 ^ 30) (h : nI N ≤ x) : nI (N - 1) < x := Int32.lt_of_lt_of_le (nI_lt (by omega) (by omega)) h
theorem ndr {N : Nat} {x : Int32} {ρ : RS} (h1 : ρ.1 1 0 = nI N) (h3 : 0 < N) (hN : N ≤ 7) : (∀ k, k < N → x = nI k → F_X6_isNode ρ x = some (ρ, 1)) ∧ ((x < 0 ∨ nI N ≤ x) → F_X6_isNode ρ x = some (ρ, 0)) := by
  unfold F_X6_isNode
  rw [h1, show nI N - (1 : Int32) = nI (N - 1) from pk_sub (b := 1) (by omega)]
  refine ⟨fun k hk e => ?_, fun h => ?_⟩
  · rw [show (0 : Int32) = nI 0 from rfl, (wi_r (by omega)).1 k (by omega) (by omega) e, bd_s, gd_isb1]
  · rw [show (0 : Int32) = nI 0 from rfl, (wi_r (by omega)).2 (h.imp id (lt_pred h3 (by omega))), bd_s]
    rfl
theorem slr {M : Nat} {x : Int32} {ρ : RS} (h1 : ρ.1 2 0 = nI M) (h3 : 0 < M) (hN : M ≤ 4) : (∀ k, k < M → x = nI k → F_X6_isSlot ρ x = some (ρ, 1)) ∧ ((x < 0 ∨ nI M ≤ x) → F_X6_isSlot ρ x = some (ρ, 0)) := by
  unfold F_X6_isSlot
  rw [h1, show nI M - (1 : Int32) = nI (M - 1) from pk_sub (b := 1) (by omega)]
  refine ⟨fun k hk e => ?_, fun h => ?_⟩
  · rw [show (0 : Int32) = nI 0 from rfl, (wi_r (by omega)).1 k (by omega) (by omega) e, bd_s, gd_isb1]
  · rw [show (0 : Int32) = nI 0 from rfl, (wi_r (by omega)).2 (h.imp id (lt_pred h3 (by omega))), bd_s]
    rfl
theorem sh_N : ∀ N, N < 8 → ((1 : Int32) <<< (nI N &&& 31)) = nI (2 ^ N) := by decide +kernel
theorem pw_N : ∀ N, N < 8 → 1 ≤ 2 ^ N ∧ 2 ^ N ≤ 128 := by decide
theorem rc_c {N : Nat} {x : Int32} {σ : CS} (h6 : σ 6 0 0 = nI N) (hN : N ≤ 7) : (∀ k, 1 ≤ k → k < 2 ^ N → x = nI k → F_X5_requireReached σ x = some (σ, .inl ())) ∧ ((x < nI 1 ∨ nI (2 ^ N) ≤ x) → F_X5_requireReached σ x = some (σ, .inr 2)) := by
  unfold F_X5_requireReached B_X5_requireReached_15
  have hp := pw_N N (by omega)
  rw [h6, sh_N N (by omega)]
  refine ⟨?_, ?_⟩
  · rintro k h1 hk rfl
    rw [if_neg (show ¬ nI k < (1 : Int32) from nI_nlt h1 (by omega)), if_pos (nI_lt hk (by omega))]
  · rintro (h | h)
    · rw [if_pos (show x < (1 : Int32) from h)]
    · by_cases h0 : x < (1 : Int32)
      · rw [if_pos h0]
      · rw [if_neg h0, if_neg (fun q => Int32.lt_irrefl (Int32.lt_of_lt_of_le q h))]
theorem rcr {N : Nat} {x : Int32} {ρ : RS} (h1 : ρ.1 1 0 = nI N) (hN : N ≤ 7) : (∀ k, 1 ≤ k → k < 2 ^ N → x = nI k → F_X6_isSet ρ x = some (ρ, 1)) ∧ ((x < nI 1 ∨ nI (2 ^ N) ≤ x) → F_X6_isSet ρ x = some (ρ, 0)) := by
  unfold F_X6_isSet
  have hp := pw_N N (by omega)
  rw [h1, sh_N N (by omega), show nI (2 ^ N) - (1 : Int32) = nI (2 ^ N - 1) from pk_sub (b := 1) (by omega), show (1 : Int32) = nI 1 from rfl]
  refine ⟨fun k h2 hk e => ?_, fun h => ?_⟩
  · rw [(wi_r (by omega)).1 k h2 (by omega) e, bd_s]
    rfl
  · rw [(wi_r (by omega)).2 (h.imp id (lt_pred (by omega) (by omega))), bd_s]
    rfl
theorem rng {x : Int32} {a b : Nat} (ha : a < 2 ^ 31) (hb : b < 2 ^ 31) : (∃ k, a ≤ k ∧ k < b ∧ x = nI k) ∨ x < nI a ∨ nI b ≤ x := by
  rcases pk_ix x hb with h | h | ⟨j, h1, h2⟩
  · exact Or.inr (Or.inl (Int32.lt_of_lt_of_le h (nI_pos' ha)))
  · exact Or.inr (Or.inr h)
  · by_cases h3 : a ≤ j
    · exact Or.inl ⟨j, h3, h1, h2⟩
    · exact Or.inr (Or.inl (by rw [h2]; exact nI_lt (by omega) ha))
theorem th0 {ρ ρ' : RS} {v : Int32} (h : Xr ρ' = Xr (rp ρ 0 0 v)) : ρ'.1 0 0 = v := by rw [Xr_rd h (Or.inl rfl), rp_se]
theorem sm_prepare : Sm_prepare Inv := by
  rintro n σ ρ hn ⟨c, N, M, L, hcL, hJ⟩ x1 x2
  have hG := hJ.1
  have h6 := hG.1.1
  have hN := hG.1.2.2
  have d1 : ρ.1 1 0 = nI N := by rw [Ur_rd um_1]; exact hG.1.2.1
  have hp := pw_N N (by omega)
  unfold F_X5_prepare F_X6_prepare F_X6_prepareFault
  rcases rng (x := x1) (a := 0) (b := N) (by omega) (by omega) with ⟨k, _, hk, rfl⟩ | hb
  · have hk7 : k < 7 := by omega
    rw [(nd_c h6 hN.2).1 k hk rfl, bx_l, (ndr d1 (by omega) hN.2).1 k hk rfl, bd_s, if_neg (by decide)]
    rcases rng (x := x2) (a := 1) (b := 2 ^ N) (by omega) (by omega) with ⟨r, hr1, hr2, rfl⟩ | hb
    · rw [(rc_c h6 hN.2).1 r hr1 hr2 rfl, bx_l, g7 hk7, t7 hk7, (rcr d1 hN.2).1 r hr1 hr2 rfl, bd_s, if_neg (by decide), g7 hk7]
      have q := (hJ.2.1 k hk7).1.q
      have r4 : ρ.1 4 k = σ 25 k 0 := by rw [Ur_rd (um_4 hk7), q.1]
      have r5 : ρ.1 5 k = σ 26 k 0 := by rw [Ur_rd (um_5 hk7), q.2.1]
      obtain ⟨zi, ⟨b1, b2, _, _⟩, _⟩ := (hJ.2.1 k hk7).2
      rw [nd_a rfl] at b1 b2
      rw [r4, r5]
      unfold F_X3_takesPart B_X3_takesPart_18 B_X6_prepareFault_46
      by_cases u1 : σ 25 k 0 = 0
      · rw [if_pos u1, if_pos u1, bd_s, bd_s, if_pos rfl, lt_eq, if_neg (by rw [rp_se]; decide)]
        exact sw_ex hJ hcL rfl rfl (by decide)
      · by_cases u2 : σ 26 k 0 = 0
        · rw [if_neg u1, if_neg u1, if_pos u2, g7 hk7, if_pos u2, bd_s, bd_s, if_pos rfl, lt_eq, if_neg (by rw [rp_se]; decide)]
          exact sw_ex hJ hcL rfl rfl (by decide)
        · obtain ⟨σ', ρ', rr, e1, e2, hX, hJ', _⟩ := prep_2 (x := nI r) hk7 (by omega) (hJ.t0 (v := 0)) (isb_nz b1 u1) (isb_nz b2 u2)
          rw [if_neg u1, if_neg u1, if_neg u2, g7 hk7, if_neg u2, bd_s, bd_s, if_neg (by decide), g7 hk7, e1, bd_s, lt_eq, if_pos (by rw [rp_se]; decide), e2, bd_s]
          exact sw_ok (c' := c + 1) hJ (by omega) rfl rfl (th0 hX) hJ'
    · rw [(rc_c h6 hN.2).2 hb, bx_r, (rcr d1 hN.2).2 hb, bd_s, if_pos rfl, bd_s, lt_eq, if_neg (by rw [rp_se]; decide)]
      exact sw_ex hJ hcL rfl rfl (by decide)
  · rw [(nd_c h6 hN.2).2 hb, bx_r, (ndr d1 (by omega) hN.2).2 hb, bd_s, if_pos rfl, bd_s, lt_eq, if_neg (by rw [rp_se]; decide)]
    exact sw_ex hJ hcL rfl rfl (by decide)
