/-! ===== who holds a decided value ===== -/
theorem Jc.r1 {c N M L : Nat} {σ : CS} {ρ : RS} (h : Jc c N M L σ ρ) : ρ.1 1 0 = nI N := by rw [Ur_rd um_1]; exact h.1.1.2.1
theorem Jc.r2 {c N M L : Nat} {σ : CS} {ρ : RS} (h : Jc c N M L σ ρ) : ρ.1 2 0 = nI M := by rw [Ur_rd um_2]; exact h.1.2.1.2.1
theorem Jc.r20 {c N M L s : Nat} {σ : CS} {ρ : RS} (h : Jc c N M L σ ρ) (hs : s < 4) : ρ.1 20 s = σ 52 s 0 := by obtain ⟨t, _, h1, h2⟩ := (h.2.2 s hs).2.2.2.2; rw [Ur_rd (um_20 hs), h2, h1]
theorem Jc.r21 {c N M L s : Nat} {σ : CS} {ρ : RS} (h : Jc c N M L σ ρ) (hs : s < 4) : ρ.1 21 s = σ 50 s 0 := by rw [Ur_rd (um_21 hs), (h.2.2 s hs).1]
theorem Jc.r22 {c N M L s : Nat} {σ : CS} {ρ : RS} (h : Jc c N M L σ ρ) (hs : s < 4) : ρ.1 22 s = σ 51 s 0 := by rw [Ur_rd (um_22 hs), (h.2.2 s hs).2.1]
theorem Jc.r23 {c N M L s : Nat} {σ : CS} {ρ : RS} (h : Jc c N M L σ ρ) (hs : s < 4) : ρ.1 23 s = σ 53 s 0 := by rw [Ur_rd (um_23 hs), (h.2.2 s hs).2.2.1]
theorem Jc.r12 {c N M L k s : Nat} {σ : CS} {ρ : RS} (h : Jc c N M L σ ρ) (hk : k < 7) (hs : s < 4) : ρ.1 12 (4 * k + s) = σ 42 (7 + k) s := by rw [Ur_rd (um_12 hk hs), ((h.2.1 k hk).1.s hs).2.2.1]
theorem Jc.r13 {c N M L k s : Nat} {σ : CS} {ρ : RS} (h : Jc c N M L σ ρ) (hk : k < 7) (hs : s < 4) : ρ.1 13 (4 * k + s) = σ 43 (7 + k) s := by rw [Ur_rd (um_13 hk hs), ((h.2.1 k hk).1.s hs).2.2.2]
theorem Jc.r9 {c N M L k s : Nat} {σ : CS} {ρ : RS} (h : Jc c N M L σ ρ) (hk : k < 7) (hs : s < 4) : ρ.1 9 (4 * k + s) = σ 42 k s := by rw [Ur_rd (um_9 hk hs), ((h.2.1 k hk).1.s hs).1]
theorem Jc.r10 {c N M L k s : Nat} {σ : CS} {ρ : RS} (h : Jc c N M L σ ρ) (hk : k < 7) (hs : s < 4) : ρ.1 10 (4 * k + s) = σ 43 k s := by rw [Ur_rd (um_10 hk hs), ((h.2.1 k hk).1.s hs).2.1]
def hv (σ : CS) (s : Nat) (b v : Int32) : Int32 := if σ 52 s 0 ≤ 0 then 0 else if v = σ 51 s 0 then (if b < σ 50 s 0 then 0 else 1) else 0
def hdv (σ : CS) (o s : Nat) : Int32 := hv σ s (σ 42 o s) (σ 43 o s)
theorem hv_01 (σ : CS) (s : Nat) (b v : Int32) : hv σ s b v = 0 ∨ hv σ s b v = 1 := by
  unfold hv
  by_cases h1 : σ 52 s 0 ≤ 0
  · rw [if_pos h1]; exact Or.inl rfl
  · rw [if_neg h1]
    by_cases h2 : v = σ 51 s 0
    · rw [if_pos h2]
      by_cases h3 : b < σ 50 s 0
      · rw [if_pos h3]; exact Or.inl rfl
      · rw [if_neg h3]; exact Or.inr rfl
    · rw [if_neg h2]; exact Or.inl rfl
theorem hv_a (σ : CS) (s : Nat) (b v : Int32) : asn (hv σ s b v) = hv σ s b v := by
  rcases hv_01 σ s b v with h | h <;> rw [h] <;> rfl
theorem hld_c {σ : CS} {o s : Nat} (hs : s < 4) : F_X5_holds σ o (nI s) = some (σ, hdv σ o s) := by
  have e : F_X0_isHeldBy σ s (σ 42 o s) (σ 43 o s) = some (σ, hdv σ o s) := by
    unfold F_X0_isHeldBy B_X0_isHeldBy_27 hdv hv
    by_cases h1 : σ 52 s 0 ≤ 0
    · rw [if_pos h1, if_pos h1]
    · rw [if_neg h1, if_neg h1]
      by_cases h2 : σ 43 o s = σ 51 s 0
      · rw [if_pos h2, if_pos h2]
        by_cases h3 : σ 42 o s < σ 50 s 0
        · rw [if_pos h3, if_pos h3]
        · rw [if_neg h3, if_neg h3]
      · rw [if_neg h2, if_neg h2]
  unfold F_X5_holds
  rw [g4 hs, g4 hs, g4 hs, t4 hs, e, bd_s, gd_isb]
  unfold hdv
  rcases hv_01 σ s (σ 42 o s) (σ 43 o s) with h | h <;> rw [h] <;> rfl
theorem hld_r {c N M L k s : Nat} {σ : CS} {ρ : RS} (hJ : Jc c N M L σ ρ) (hk : k < 7) (hs : s < 4) : F_X6_holds ρ (nI k) (nI s) = some (ρ, hdv σ (7 + k) s) := by
  unfold F_X6_holds B_X6_holds_51 hdv hv
  rw [g4 hs, t4 hs, hJ.r20 hs, at_eq, bd_s, g28 hk hs, t28 hk hs, g4 hs, at_eq, bd_s, g28 hk hs, t28 hk hs, g4 hs, hJ.r12 hk hs, hJ.r13 hk hs, hJ.r21 hs, hJ.r22 hs]
  by_cases h1 : σ 52 s 0 ≤ 0
  · rw [if_pos h1, if_pos h1]
  · rw [if_neg h1, if_neg h1]
    by_cases h2 : σ 43 (7 + k) s = σ 51 s 0
    · rw [if_pos h2, if_pos h2]
      by_cases h3 : σ 42 (7 + k) s < σ 50 s 0
      · rw [if_pos h3, if_pos h3]
      · rw [if_neg h3, if_neg h3]
    · rw [if_neg h2, if_neg h2]
theorem hod_r {c N M L k s : Nat} {σ : CS} {ρ : RS} (hJ : Jc c N M L σ ρ) (hk : k < 7) (hs : s < 4) : F_X6_holdsOnDisk ρ (nI k) (nI s) = some (ρ, hdv σ k s) := by
  unfold F_X6_holdsOnDisk B_X6_holdsOnDisk_51 hdv hv
  rw [g4 hs, t4 hs, hJ.r20 hs, at_eq, bd_s, g28 hk hs, t28 hk hs, g4 hs, at_eq, bd_s, g28 hk hs, t28 hk hs, g4 hs, hJ.r9 hk hs, hJ.r10 hk hs, hJ.r21 hs, hJ.r22 hs]
  by_cases h1 : σ 52 s 0 ≤ 0
  · rw [if_pos h1, if_pos h1]
  · rw [if_neg h1, if_neg h1]
    by_cases h2 : σ 43 k s = σ 51 s 0
    · rw [if_pos h2, if_pos h2]
      by_cases h3 : σ 42 k s < σ 50 s 0
      · rw [if_pos h3, if_pos h3]
      · rw [if_neg h3, if_neg h3]
    · rw [if_neg h2, if_neg h2]
def hcv (σ : CS) (N s : Nat) : Int32 := sm N (fun i => hdv σ (7 + i) s)
def hcdk (σ : CS) (N s : Nat) : Int32 := sm N (fun i => hdv σ i s)
theorem hs_c {σ : CS} {N s : Nat} (h6 : σ 6 0 0 = nI N) (hN : N ≤ 7) (hs : s < 4) : F_X5_holders σ (nI s) = some (σ, hcv σ N s) := by
  unfold F_X5_holders B_X5_holders_4 hcv
  refine lo3_sum σ N (fun i => hdv σ (7 + i) s) (fun acc => some (σ, acc)) (fun K acc i hi => ?_) (fun K acc => ?_) 4096 (by omega)
  · rw [h6, if_neg (nI_ge hi (by omega)), g7 (by omega), t7 (by omega), hld_c hs, bd_s, asn_c, bd_s, lt_eq, lt_eq, nI_1, hdv, hv_a]
  · rw [h6, if_pos (nI_le (Nat.le_refl N) (by omega))]
theorem dh_c {σ : CS} {N s : Nat} (h6 : σ 6 0 0 = nI N) (hN : N ≤ 7) (hs : s < 4) : F_X5_diskHolders σ (nI s) = some (σ, hcdk σ N s) := by
  unfold F_X5_diskHolders B_X5_diskHolders_4 hcdk
  refine lo3_sum σ N (fun i => hdv σ i s) (fun acc => some (σ, acc)) (fun K acc i hi => ?_) (fun K acc => ?_) 4096 (by omega)
  · rw [h6, if_neg (nI_ge hi (by omega)), g7 (by omega), t7 (by omega), hld_c hs, bd_s, asn_c, bd_s, lt_eq, lt_eq, nI_1, hdv, hv_a]
  · rw [h6, if_pos (nI_le (Nat.le_refl N) (by omega))]
theorem hs_r {c N M L s : Nat} {σ : CS} {ρ : RS} (hJ : Jc c N M L σ ρ) (hs : s < 4) : F_X6_holders ρ (nI s) 0 = some (ρ, hcv σ N s) := by
  have hN := hJ.1.1.2.2.2
  unfold F_X6_holders B_X6_holders_5 hcv
  refine lo3_sum ρ N (fun i => hdv σ (7 + i) s) (fun acc => some (ρ, acc)) (fun K acc i hi => ?_) (fun K acc => ?_) 4096 (by omega)
  · unfold B_X6_holders_46 B_X6_holders_42 B_X6_holders_47
    rw [hJ.r1, if_neg (nI_ge hi (by omega)), if_pos rfl, hld_r hJ (by omega) hs, bd_s, lt_eq, lt_eq, lt_eq, nI_1, lt_eq]
    unfold hdv
    rcases hv_01 σ s (σ 42 (7 + i) s) (σ 43 (7 + i) s) with h | h
    · rw [h, if_pos rfl]
    · rw [h, if_neg (by decide)]
  · rw [hJ.r1, if_pos (nI_le (Nat.le_refl N) (by omega))]
theorem hsd_r {c N M L s : Nat} {σ : CS} {ρ : RS} (hJ : Jc c N M L σ ρ) (hs : s < 4) : F_X6_holders ρ (nI s) 1 = some (ρ, hcdk σ N s) := by
  have hN := hJ.1.1.2.2.2
  unfold F_X6_holders B_X6_holders_5 hcdk
  refine lo3_sum ρ N (fun i => hdv σ i s) (fun acc => some (ρ, acc)) (fun K acc i hi => ?_) (fun K acc => ?_) 4096 (by omega)
  · unfold B_X6_holders_46 B_X6_holders_42 B_X6_holders_47
    rw [hJ.r1, if_neg (nI_ge hi (by omega)), if_neg (by decide), hod_r hJ (by omega) hs, bd_s, lt_eq, lt_eq, lt_eq, nI_1, lt_eq]
    unfold hdv
    rcases hv_01 σ s (σ 42 i s) (σ 43 i s) with h | h
    · rw [h, if_pos rfl]
    · rw [h, if_neg (by decide)]
  · rw [hJ.r1, if_pos (nI_le (Nat.le_refl N) (by omega))]
def enf (N : Nat) (x : Int32) : Int32 := if nI N / 2 + 1 ≤ nI N - x then 0 else 1
theorem en_c {σ : CS} {N : Nat} {x : Int32} (h6 : σ 6 0 0 = nI N) : F_X5_areEnough σ x = some (σ, enf N x) := by
  unfold F_X5_areEnough F_X5_quorum enf
  rw [bd_s, h6]
  by_cases h : nI N / 2 + 1 ≤ nI N - x
  · rw [if_pos h, if_pos h]
  · rw [if_neg h, if_neg h]
theorem en_r {ρ : RS} {N : Nat} {x : Int32} (h1 : ρ.1 1 0 = nI N) : F_X6_protects ρ x = some (ρ, enf N x) := by
  unfold F_X6_protects F_X6_q enf
  rw [bd_s, h1]
  by_cases h : nI N / 2 + 1 ≤ nI N - x
  · rw [if_pos h, if_pos h]
  · rw [if_neg h, if_neg h]
theorem enf_01 (N : Nat) (x : Int32) : enf N x = 0 ∨ enf N x = 1 := by
  unfold enf
  by_cases h : nI N / 2 + 1 ≤ nI N - x
  · rw [if_pos h]; exact Or.inl rfl
  · rw [if_neg h]; exact Or.inr rfl
def prt (σ : CS) (N s : Nat) : Int32 := if σ 52 s 0 ≤ 0 then 0 else enf N (hcv σ N s)
theorem prt_01 (σ : CS) (N s : Nat) : prt σ N s = 0 ∨ prt σ N s = 1 := by
  unfold prt
  by_cases h : σ 52 s 0 ≤ 0
  · rw [if_pos h]; exact Or.inl rfl
  · rw [if_neg h]; exact enf_01 _ _
theorem prt_c {σ : CS} {N s : Nat} (h6 : σ 6 0 0 = nI N) (hN : N ≤ 7) (hs : s < 4) : F_X5_isProtectedNow σ (nI s) = some (σ, prt σ N s) := by
  unfold F_X5_isProtectedNow B_X5_isProtectedNow_28 prt
  rw [g4 hs, t4 hs, made_c, bd_s, hs_c h6 hN hs, bd_s, en_c h6, bd_s]
  unfold mde
  by_cases h1 : σ 52 s 0 ≤ 0
  · rw [if_pos h1, if_pos rfl, if_pos h1]
  · rw [if_neg h1, if_neg (by decide), if_neg h1]
    rcases enf_01 N (hcv σ N s) with h | h
    · rw [h, if_pos rfl]
    · rw [h, if_neg (by decide)]
def qs (σ : CS) (N s w : Nat) : Int32 :=
  if w = 0 then σ 50 s 0 else if w = 1 then σ 51 s 0 else if w = 2 then σ 52 s 0 else if w = 3 then hcv σ N s else if w = 4 then hcdk σ N s else if w = 5 then prt σ N s else asn (σ 53 s 0)
theorem ch7 {α : Type} (f : Int32 → α) (d : α) {w : Nat} (hw : w < 7) (x0 x1 x2 x3 x4 x5 x6 : Int32) : (if nI w = (0 : Int32) then f x0 else if nI w = (1 : Int32) then f x1 else if nI w = (2 : Int32) then f x2 else if nI w = (3 : Int32) then f x3 else if nI w = (4 : Int32) then f x4 else if nI w = (5 : Int32) then f x5 else if nI w = (6 : Int32) then f x6 else d) = f (if w = 0 then x0 else if w = 1 then x1 else if w = 2 then x2 else if w = 3 then x3 else if w = 4 then x4 else if w = 5 then x5 else x6) := by
  have h : w = 0 ∨ w = 1 ∨ w = 2 ∨ w = 3 ∨ w = 4 ∨ w = 5 ∨ w = 6 := by omega
  rcases h with rfl | rfl | rfl | rfl | rfl | rfl | rfl <;> rfl
theorem ch6 {α : Type} (f : Int32 → α) {w : Nat} (hw : w < 7) (x0 x1 x2 x3 x4 x5 x6 : Int32) : (if nI w = (0 : Int32) then f x0 else if nI w = (1 : Int32) then f x1 else if nI w = (2 : Int32) then f x2 else if nI w = (3 : Int32) then f x3 else if nI w = (4 : Int32) then f x4 else if nI w = (5 : Int32) then f x5 else f x6) = f (if w = 0 then x0 else if w = 1 then x1 else if w = 2 then x2 else if w = 3 then x3 else if w = 4 then x4 else if w = 5 then x5 else x6) := by
  have h : w = 0 ∨ w = 1 ∨ w = 2 ∨ w = 3 ∨ w = 4 ∨ w = 5 ∨ w = 6 := by omega
  rcases h with rfl | rfl | rfl | rfl | rfl | rfl | rfl <;> rfl
theorem slt_c {σ : CS} {N M s w : Nat} (h6 : σ 6 0 0 = nI N) (hN : N ≤ 7) (h7 : σ 7 0 0 = nI M) (hM : M ≤ 4) (hs : s < M) (hw : w < 7) : F_X5_slot σ (nI s) (nI w) = some (σ, .inl (qs σ N s w)) := by
  have hs4 : s < 4 := by omega
  have ep : asn (prt σ N s) = prt σ N s := by rcases prt_01 σ N s with h | h <;> rw [h] <;> rfl
  unfold F_X5_slot qs
  rw [(sl_c h7 hM).1 s hs rfl, bx_l, g4 hs4, t4 hs4, hs_c h6 hN hs4, dh_c h6 hN hs4, prt_c h6 hN hs4, bd_s, bd_s, bd_s, asn_c, asn_c, bd_s, bd_s, ep]
  exact ch7 (fun x => some (σ, (Sum.inl x : Int32 ⊕ Nat))) _ hw _ _ _ _ _ _ _
theorem slt_r {c N M L s w : Nat} {σ : CS} {ρ : RS} (hJ : Jc c N M L σ ρ) (hs : s < 4) (hw : w < 7) : F_X6_slotNow ρ (nI s) (nI w) = some (ρ, qs σ N s w) := by
  have e3 : (if σ 53 s 0 = 0 then some (ρ, (0 : Int32)) else some (ρ, 1)) = some (ρ, asn (σ 53 s 0)) := by
    unfold asn
    by_cases h : σ 53 s 0 = 0
    · rw [if_pos h, if_pos h]
    · rw [if_neg h, if_neg h]
  have e5 : (if σ 52 s 0 ≤ 0 then some (ρ, (0 : Int32)) else if enf N (hcv σ N s) = 0 then some (ρ, (0 : Int32)) else some (ρ, (1 : Int32))) = some (ρ, prt σ N s) := by
    unfold prt
    by_cases h : σ 52 s 0 ≤ 0
    · rw [if_pos h, if_pos h]
    · rw [if_neg h, if_neg h]
      rcases enf_01 N (hcv σ N s) with h | h
      · rw [h, if_pos rfl]
      · rw [h, if_neg (by decide)]
  unfold F_X6_slotNow B_X6_slotNow_101 qs
  rw [hs_r hJ hs, hsd_r hJ hs, bd_s, bd_s, bd_s, en_r hJ.r1, bd_s]
  simp only [g4 hs, t4 hs, hJ.r20 hs, hJ.r21 hs, hJ.r22 hs, hJ.r23 hs, e3, e5]
  exact ch6 (fun x => some (ρ, x)) hw _ _ _ _ _ _ _
theorem sm_slot : Sm_slot Inv := by
  rintro n σ ρ hn ⟨c, N, M, L, hcL, hJ⟩ x1 x2
  have hG := hJ.1
  have h6 := hG.1.1
  have hN := hG.1.2.2
  have h7 := hG.2.1.1
  have hM := hG.2.1.2.2
  have d2 := hJ.r2
  rcases rng (x := x1) (a := 0) (b := M) (by omega) (by omega) with ⟨s, _, hs, rfl⟩ | hb
  · have hs4 : s < 4 := by omega
    rcases rng (x := x2) (a := 0) (b := 7) (by omega) (by omega) with ⟨w, _, hw, rfl⟩ | hb
    · have w1 : F_X6_within ρ (nI w) 0 6 = some (ρ, 1) := (wi_r (a := 0) (b := 6) (by decide)).1 w (by omega) (by omega) rfl
      refine sw_ok (c' := c) hJ (by omega) (slt_c h6 hN.2 h7 hM.2 hs hw) (ρ' := rp ρ 0 0 0) ?_ rp_se hJ.t0
      unfold F_X6_slot B_X6_slot_28
      rw [(slr d2 (by omega) hM.2).1 s hs rfl, bd_s, if_neg (by decide), w1, bd_s, if_neg (by decide), lt_eq, if_pos (by rw [rp_se]; decide), slt_r (hJ.t0 (v := 0)) hs4 hw, bd_s]
    · have w1 : F_X6_within ρ x2 0 6 = some (ρ, 0) := (wi_r (a := 0) (b := 6) (by decide)).2 (hb.imp id (lt_pred (N := 7) (by decide) (by decide)))
      have hne := ne_out (by decide) hb
      have hcx : F_X5_slot σ (nI s) x2 = some (σ, .inr 2) := by
        unfold F_X5_slot
        rw [(sl_c h7 hM.2).1 s hs rfl, bx_l, g4 hs4, if_neg (show ¬ x2 = (0 : Int32) from hne 0 (by decide)), if_neg (show ¬ x2 = (1 : Int32) from hne 1 (by decide)), if_neg (show ¬ x2 = (2 : Int32) from hne 2 (by decide)), if_neg (show ¬ x2 = (3 : Int32) from hne 3 (by decide)), if_neg (show ¬ x2 = (4 : Int32) from hne 4 (by decide)), if_neg (show ¬ x2 = (5 : Int32) from hne 5 (by decide)), if_neg (show ¬ x2 = (6 : Int32) from hne 6 (by decide))]
      refine sw_ex (cd := 2) (r := 0) hJ hcL hcx ?_ (by decide)
      unfold F_X6_slot B_X6_slot_28
      rw [(slr d2 (by omega) hM.2).1 s hs rfl, bd_s, if_neg (by decide), w1, bd_s, if_pos rfl, lt_eq, if_neg (by rw [rp_se]; decide)]
  · refine sw_ex (cd := 1) (r := 0) hJ hcL (ex := 1) ?_ ?_ (by decide)
    · unfold F_X5_slot
      rw [(sl_c h7 hM.2).2 hb, bx_r]
    · unfold F_X6_slot B_X6_slot_28
      rw [(slr d2 (by omega) hM.2).2 hb, bd_s, if_pos rfl, lt_eq, if_neg (by rw [rp_se]; decide)]
