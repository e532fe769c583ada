/-! ===== the share of answers, as a float ===== -/
theorem u32n {n : Nat} (h : n < 4294967296) : (UInt32.ofNat n).toNat = n := by
  rw [UInt32.toNat_ofNat']
  exact Nat.mod_eq_of_lt h
theorem fv_bits {E T : Nat} (h1 : 1 ≤ E) (h2 : E ≤ 254) (hT : T < 8388608) : FP.Core.val32 (UInt32.ofNat (E * 8388608 + T)) = .fin false (8388608 + T) ((E : Int) - 150) := by
  have e : (UInt32.ofNat (E * 8388608 + T)).toNat = FP.Core.assemble FP.Core.b32 false E T := by
    rw [u32n (by omega)]
    simp [FP.Core.assemble, FP.Core.Fmt.tails, FP.Core.b32]
  unfold FP.Core.val32
  rw [e, FP.Core.decode_assemble _ _ _ _ (show E < 256 by omega) (show T < 8388608 from hT), if_neg (show ¬ E = FP.Core.b32.exps - 1 from (by omega : ¬ E = 255)), if_neg (by omega), FP.Core.tails_b32, FP.Core.qmin_b32]
  congr 1
  omega
theorem fv_fits {E T : Nat} (h1 : 1 ≤ E) (h2 : E ≤ 254) (hT : T < 8388608) : FP.Core.fits FP.Core.b32 (.fin false (8388608 + T) ((E : Int) - 150)) :=
  ⟨show 8388608 + T < 16777216 by omega, by rw [FP.Core.qmin_b32]; omega, show (E : Int) - 150 ≤ 104 by omega, Or.inr (show 8388608 ≤ 8388608 + T by omega)⟩
theorem fv_two : FP.Core.val32 0x40000000 = .fin false 8388608 (-22) := by decide +kernel
theorem fv_one : FP.Core.val32 0x3f800000 = .fin false 8388608 (-23) := by decide +kernel
theorem fv_big : FP.Core.val32 1258291200 = .fin false 8388608 0 := by decide +kernel
theorem f_dbl {E T : Nat} (h1 : 1 ≤ E) (h2 : E ≤ 253) (hT : T < 8388608) : FP.Core.fmul (UInt32.ofNat (E * 8388608 + T)) 0x40000000 = UInt32.ofNat ((E + 1) * 8388608 + T) := by
  have hf := fv_fits (E := E + 1) (by omega) (by omega) hT
  have hv : FP.Core.val32 (FP.Core.fmul (UInt32.ofNat (E * 8388608 + T)) 0x40000000) = .fin false (8388608 + T) (((E + 1 : Nat) : Int) - 150) := by
    rw [FP.Core.val32_fmul, fv_bits h1 (by omega) hT, fv_two]
    refine FP.Core.roundRatio_exact (A := (8388608 + T) * 8388608) (B := 1) (e := (E : Int) - 150 + -22) FP.Core.good_b32 (by decide) hf ?_
    rw [show ((E : Int) - 150 + -22 - (((E + 1 : Nat) : Int) - 150)).toNat = 0 by omega, show ((((E + 1 : Nat) : Int) - 150) - ((E : Int) - 150 + -22)).toNat = 23 by omega]
    omega
  exact FP.Core.val32_inj (by rw [hv]; simp) (by rw [hv, fv_bits (by omega) (by omega) hT])
theorem f_key {n : Nat} (h : n < 2147483648) : FP.Core.fkey (UInt32.ofNat n) = n := by
  unfold FP.Core.fkey
  rw [u32n (by omega), if_neg (by omega)]
theorem f_cmp {n : Nat} (h : n < 2139095040) : FP.Core.fcmp (UInt32.ofNat n) 0x3f800000 = some (compare (n : Int) 1065353216) := by
  have e : FP.Core.val32 (UInt32.ofNat n) ≠ .nan := by rw [FP.Core.ne_nan32, u32n (by omega)]; omega
  rw [FP.Core.fcmp_key e (by rw [fv_one]; simp), f_key (by omega)]
  rfl
theorem f_cmp0 {n : Nat} (h : n < 2139095040) : FP.Core.fcmp (UInt32.ofNat n) 0 = some (compare (n : Int) 0) := by
  have e : FP.Core.val32 (UInt32.ofNat n) ≠ .nan := by rw [FP.Core.ne_nan32, u32n (by omega)]; omega
  rw [FP.Core.fcmp_key e (by decide +kernel), f_key (by omega)]
  rfl
theorem f_sub {T : Nat} (hT : T < 8388608) : ∃ c q, FP.Core.val32 (FP.Core.fsub (UInt32.ofNat (127 * 8388608 + T)) 0x3f800000) = .fin false c q ∧ c * 2 ^ (q + 149).toNat = T * 2 ^ 126 ∧ -149 ≤ q := by
  have e : FP.Core.exactSum (.fin false (8388608 + T) (-23)) (FP.Core.negate (.fin false 8388608 (-23))) = .fin false T (-23) := by
    have hu : FP.Core.sumUnits false (8388608 + T) (-23) true 8388608 (-23) (-23) = (T : Int) := by
      simp [FP.Core.sumUnits, FP.Core.signed, FP.Core.inUnits]
      omega
    show FP.Core.Datum.fin (FP.Core.sumSign false true (FP.Core.sumUnits false (8388608 + T) (-23) true 8388608 (-23) (-23))) (FP.Core.sumUnits false (8388608 + T) (-23) true 8388608 (-23) (-23)).natAbs (-23) = _
    rw [hu]
    congr 1
    unfold FP.Core.sumSign
    by_cases h : (T : Int) = 0
    · rw [if_pos h]; rfl
    · rw [if_neg h]; simp
  have hv := FP.Core.val32_fsub (UInt32.ofNat (127 * 8388608 + T)) 0x3f800000
  rw [fv_bits (by decide) (by decide) hT, fv_one, show ((127 : Nat) : Int) - 150 = -23 by decide, e] at hv
  obtain ⟨c, q, h1, h2⟩ := FP.Core.round_exact FP.Core.good_b32 false (c := T) (q := -23) (show T < 16777216 by omega) (by rw [FP.Core.qmin_b32]; decide) (by decide)
  have hf := FP.Core.val32_fits (FP.Core.fsub (UInt32.ofNat (127 * 8388608 + T)) 0x3f800000)
  rw [hv, h1] at hf
  refine ⟨c, q, hv.trans h1, ?_, by have := hf.2.1; rw [FP.Core.qmin_b32] at this; exact this⟩
  rw [FP.Core.qmin_b32] at h2
  unfold FP.Core.inUnits at h2
  rw [show q - (-149) = q + 149 by omega] at h2
  exact h2
theorem f_whole {c T : Nat} {q : Int} (h : c * 2 ^ (q + 149).toNat = T * 2 ^ 126) (hq : -149 ≤ q) : FP.Core.Whole (T : Int) (.fin false (c * 8388608) (q + 0)) := by
  show ((c * 8388608 * 2 ^ (q + 0).toNat : Nat) : Int) = (T : Int) * ((2 ^ (-(q + 0)).toNat : Nat) : Int)
  rw [← Int.natCast_mul]
  congr 1
  rw [Int.add_zero]
  have hp : 0 < 2 ^ 126 := by decide
  by_cases h0 : q ≤ 0
  · obtain ⟨k, hk⟩ : ∃ k : Nat, q = -(k : Int) := ⟨(-q).toNat, by omega⟩
    subst hk
    rw [show (-(k : Int)).toNat = 0 by omega, show (- -(k : Int)).toNat = k by omega]
    rw [show (-(k : Int) + 149).toNat = 149 - k by omega] at h
    refine Nat.eq_of_mul_eq_mul_right hp ?_
    have e1 : c * 2 ^ (149 - k) * 2 ^ k = c * 8388608 * 2 ^ 126 := by
      rw [Nat.mul_assoc, ← Nat.pow_add, show 149 - k + k = 23 + 126 by omega, Nat.pow_add, Nat.mul_assoc]
    rw [Nat.pow_zero, Nat.mul_one, ← e1, h, Nat.mul_assoc, Nat.mul_assoc, Nat.mul_comm (2 ^ 126)]
  · obtain ⟨k, hk⟩ : ∃ k : Nat, q = (k : Int) := ⟨q.toNat, by omega⟩
    subst hk
    rw [show (k : Int).toNat = k by omega, show (-(k : Int)).toNat = 0 by omega]
    rw [show ((k : Int) + 149).toNat = 23 + k + 126 by omega] at h
    refine Nat.eq_of_mul_eq_mul_right hp ?_
    rw [Nat.pow_zero, Nat.mul_one, ← h, Nat.pow_add, Nat.pow_add, Nat.mul_assoc, Nat.mul_assoc, Nat.mul_assoc]
theorem f_fin {T : Nat} {x y : UInt32} (hT : T < 8388608) (hx : x = FP.Core.fsub (UInt32.ofNat (127 * 8388608 + T)) 0x3f800000) (hy : y = FP.Core.fmul x 1258291200) : FP.Core.val32 x ≠ .nan ∧ FP.Core.val32 y ≠ .nan ∧ FP.Core.f2i y = Int32.ofNat T := by
  obtain ⟨c, q, h1, h2, h3⟩ := f_sub hT
  rw [← hx] at h1
  have hy1 : FP.Core.val32 y = FP.Core.round FP.Core.b32 (.fin false (c * 8388608) (q + 0)) := by
    rw [hy, FP.Core.val32_fmul, h1, fv_big]; rfl
  have hw := FP.Core.whole_round FP.Core.good_b32 FP.Core.wide_b32 (i := (T : Int)) (show T ≤ 16777216 by omega) (f_whole h2 h3)
  rw [← hy1] at hw
  refine ⟨by rw [h1]; simp, fun e => ?_, ?_⟩
  · rw [e] at hw; exact hw
  · refine FP.Core.f2i_int (a := Int32.ofNat T) ?_
    have e : (Int32.ofNat T).toInt = (T : Int) := Int32.toInt_ofNat_of_lt (by omega)
    rw [e]
    exact hw
theorem f_quo {a b : Nat} (ha : 0 < a) (hab : a ≤ b) (hb : b ≤ 16777216) : 838860800 ≤ (FP.Core.fdiv (FP.Core.i2f (Int32.ofNat a)) (FP.Core.i2f (Int32.ofNat b))).toNat ∧ (FP.Core.fdiv (FP.Core.i2f (Int32.ofNat a)) (FP.Core.i2f (Int32.ofNat b))).toNat ≤ 1065353216 := by
  have ea : (Int32.ofNat a).toInt = (a : Int) := Int32.toInt_ofNat_of_lt (by omega)
  have eb : (Int32.ofNat b).toInt = (b : Int) := Int32.toInt_ofNat_of_lt (by omega)
  have wa : FP.Core.Whole (a : Int) (FP.Core.val32 (FP.Core.i2f (Int32.ofNat a))) := by
    have := FP.Core.i2f_int (a := Int32.ofNat a) (by rw [ea]; show a ≤ 16777216; omega)
    rw [ea] at this; exact this
  have wb : FP.Core.Whole (b : Int) (FP.Core.val32 (FP.Core.i2f (Int32.ofNat b))) := by
    have := FP.Core.i2f_int (a := Int32.ofNat b) (by rw [eb]; show b ≤ 16777216; omega)
    rw [eb] at this; exact this
  have hd := FP.Core.val32_fdiv (FP.Core.i2f (Int32.ofNat a)) (FP.Core.i2f (Int32.ofNat b))
  generalize FP.Core.fdiv (FP.Core.i2f (Int32.ofNat a)) (FP.Core.i2f (Int32.ofNat b)) = v at hd
  generalize FP.Core.val32 (FP.Core.i2f (Int32.ofNat a)) = x at hd wa
  generalize FP.Core.val32 (FP.Core.i2f (Int32.ofNat b)) = y at hd wb
  cases x with
  | nan => exact wa.elim
  | inf => exact wa.elim
  | fin s c q =>
  cases y with
  | nan => exact wb.elim
  | inf => exact wb.elim
  | fin t d r =>
  have hs : s = false := by rw [FP.Core.whole_sign wa (by omega)]; simp
  have ht : t = false := by rw [FP.Core.whole_sign wb (by omega)]; simp
  subst hs
  subst ht
  have hc0 : c ≠ 0 := fun e => by have := (FP.Core.whole_zero wa).mp e; omega
  have hd0 : d ≠ 0 := fun e => by have := (FP.Core.whole_zero wb).mp e; omega
  have h1 := FP.Core.whole_natAbs wa
  have h2 := FP.Core.whole_natAbs wb
  rw [Int.natAbs_natCast] at h1 h2
  have hr : FP.Core.quotient FP.Core.b32 (.fin false c q) (.fin false d r) = FP.Core.roundRatio FP.Core.b32 false a b 0 := by
    show (if d = 0 then _ else FP.Core.roundRatio FP.Core.b32 (false != false) c d (q - r)) = _
    rw [if_neg hd0]
    refine FP.Core.roundRatio_congr (by omega) (by omega) ?_
    rw [Int.sub_zero, Int.zero_sub]
    have key : c * b * (2 ^ q.toNat * 2 ^ (-r).toNat) = a * d * (2 ^ (-q).toNat * 2 ^ r.toNat) := by
      calc c * b * (2 ^ q.toNat * 2 ^ (-r).toNat) = (c * 2 ^ q.toNat) * (b * 2 ^ (-r).toNat) := by ac_rfl
        _ = (a * 2 ^ (-q).toNat) * (d * 2 ^ r.toNat) := by rw [h1, h2]
        _ = _ := by ac_rfl
    rw [← Nat.pow_add, ← Nat.pow_add] at key
    obtain ⟨m, hm1, hm2⟩ : ∃ m, q.toNat + (-r).toNat = (q - r).toNat + m ∧ (-q).toNat + r.toNat = (-(q - r)).toNat + m := ⟨q.toNat + (-r).toNat - (q - r).toNat, by omega, by omega⟩
    rw [hm1, hm2, Nat.pow_add, Nat.pow_add, ← Nat.mul_assoc, ← Nat.mul_assoc] at key
    exact Nat.eq_of_mul_eq_mul_right (Nat.two_pow_pos m) key
  rw [hr] at hd
  have hn : FP.Core.val32 v ≠ .nan := by rw [hd]; exact FP.Core.roundRatio_ne_nan _ _ _ _ _
  have hsg := FP.Core.sgn_bits32 hn
  rw [hd, FP.Core.sgn_roundRatio] at hsg
  have hlt : v.toNat < 2147483648 := by
    have := of_decide_eq_false hsg.symm
    omega
  have hmag : FP.Core.mag FP.Core.b32 v.toNat = v.toNat := by rw [FP.Core.mag_toNat32]; omega
  have u1 : FP.Core.unitsOf FP.Core.b32 1065353216 = 2 ^ 149 := by decide +kernel
  have u2 : FP.Core.unitsOf FP.Core.b32 838860800 = 2 ^ 122 := by decide +kernel
  have iu : FP.Core.inUnits a 0 (-149) = a * 2 ^ 149 := rfl
  constructor
  · rw [← hmag]
    refine FP.Core.mag_ge (e0 := -149) (m := 838860800) FP.Core.good_b32 hd (by omega) (by rw [FP.Core.qmin_b32]; omega) (by omega) (by rw [FP.Core.infBits_b32]; omega) ?_
    rw [u2, iu, FP.Core.qmin_b32]
    show 2 ^ 122 * 1 * b ≤ a * 2 ^ 149
    have : (2 : Nat) ^ 149 = 2 ^ 122 * 134217728 := by decide
    rw [this]
    generalize (2 : Nat) ^ 122 = P
    calc P * 1 * b = b * P := by rw [Nat.mul_one, Nat.mul_comm]
      _ ≤ (a * 134217728) * P := Nat.mul_le_mul_right P (by omega)
      _ = a * (P * 134217728) := by rw [Nat.mul_assoc, Nat.mul_comm P]
  · rw [← hmag]
    refine FP.Core.mag_le (e0 := -149) (m := 1065353216) FP.Core.good_b32 hd (by omega) (by rw [FP.Core.qmin_b32]; omega) (by omega) ?_
    rw [u1, iu, FP.Core.qmin_b32]
    show a * 2 ^ 149 ≤ 2 ^ 149 * 1 * b
    rw [Nat.mul_one, Nat.mul_comm]
    exact Nat.mul_le_mul_left _ hab
theorem fok_o {f : UInt32} (h : FP.Core.val32 f ≠ .nan) : fok f = true := by
  rw [FP.Core.ne_nan32] at h
  unfold fok
  rw [decide_eq_true_eq, UInt32.le_iff_toNat_le, UInt32.toNat_and]
  have e : f.toNat &&& (2147483647 : UInt32).toNat = f.toNat % 2 ^ 31 := Nat.and_two_pow_sub_one_eq_mod f.toNat 31
  rw [e]
  exact h
theorem f_nn {n : Nat} (h : n < 2139095040) : FP.Core.val32 (UInt32.ofNat n) ≠ .nan := by rw [FP.Core.ne_nan32, u32n (by omega)]; omega
theorem sh23 : ∀ E, E < 128 → nI E <<< ((23 : Int32) &&& 31) = nI (E * 8388608) := by decide +kernel
theorem f_lt {n : Nat} (h : n < 1065353216) : FP.fcmp (UInt32.ofNat n) FP.fconst1 = some .lt := by
  have e : FP.fcmp (UInt32.ofNat n) FP.fconst1 = some (compare (n : Int) 1065353216) := f_cmp (by omega)
  rw [e, FP.Core.compare_ite, if_pos (by omega)]
theorem f_ge {n : Nat} (h : 1065353216 ≤ n) (h2 : n < 2139095040) : FP.fcmp (UInt32.ofNat n) FP.fconst1 = some .eq ∨ FP.fcmp (UInt32.ofNat n) FP.fconst1 = some .gt := by
  have e : FP.fcmp (UInt32.ofNat n) FP.fconst1 = some (compare (n : Int) 1065353216) := f_cmp h2
  rw [e, FP.Core.compare_ite, if_neg (by omega)]
  by_cases hz : (n : Int) = 1065353216
  · rw [if_pos hz]; exact Or.inl rfl
  · rw [if_neg hz]; exact Or.inr rfl
theorem bf_0 {f0 v : UInt32} {σ : CS} {T fu : Nat} {w : Int32} (hT : T < 8388608) (hv : v = UInt32.ofNat (127 * 8388608 + T)) : B_X5_bitsOfFloat_13 f0 (fu + 1) σ v w = some (σ, (w <<< ((23 : Int32) &&& 31)) + nI T) := by
  have hg : (0 : Int32) ≤ Op.cmpValue (FP.fcmp v (FP.fconst1)) .g := by
    rw [hv]
    rcases f_ge (n := 127 * 8388608 + T) (by omega) (by omega) with e | e <;> rw [e] <;> decide
  obtain ⟨k1, k2, k3⟩ := f_fin hT rfl rfl
  rw [← hv] at k1 k2 k3
  have g1 : fok (FP.fsub v FP.fconst1) = true := fok_o k1
  have g2 : fok (FP.fmul (FP.fsub v FP.fconst1) 1258291200) = true := fok_o k2
  have g3 : FP.f2i (FP.fmul (FP.fsub v FP.fconst1) 1258291200) = nI T := k3
  show (if 0 ≤ (Op.cmpValue (FP.fcmp v (FP.fconst1)) .g) then B_X5_bitsOfFloat_34 f0 σ v w else _) = _
  rw [if_pos hg]
  unfold B_X5_bitsOfFloat_34
  rw [g1, gd_t, g2, gd_t, g3]
theorem bf_s {f0 v v' : UInt32} {σ : CS} {T E fu : Nat} {w : Int32} (h1 : 1 ≤ E) (h2 : E < 127) (hT : T < 8388608) (hv : v = UInt32.ofNat (E * 8388608 + T)) (hv' : v' = UInt32.ofNat ((E + 1) * 8388608 + T)) (hw : ¬ w ≤ (1 : Int32)) : B_X5_bitsOfFloat_13 f0 (fu + 1) σ v w = B_X5_bitsOfFloat_13 f0 fu σ v' (w + (-1)) := by
  have hg : ¬ (0 : Int32) ≤ Op.cmpValue (FP.fcmp v (FP.fconst1)) .g := by
    rw [hv, f_lt (by omega)]; decide
  have em : FP.fmul v FP.fconst2 = v' := by rw [hv, hv']; exact f_dbl h1 (by omega) hT
  have nn : fok v' = true := by rw [hv']; exact fok_o (f_nn (by omega))
  show (if 0 ≤ (Op.cmpValue (FP.fcmp v (FP.fconst1)) .g) then _ else (if w ≤ (1 : Int32) then _ else gd (fok (FP.fmul v (FP.fconst2))) (lt (FP.fmul v (FP.fconst2)) fun f105 => lt (w + (-1)) fun x106 => B_X5_bitsOfFloat_13 f0 fu σ f105 x106))) = _
  rw [if_neg hg, if_neg hw, em, nn, gd_t, lt_eq, lt_eq]
theorem bf_l {f0 : UInt32} {σ : CS} {T E0 : Nat} (hT : T < 8388608) (h0 : 1 ≤ E0) (h07 : E0 ≤ 127) (j : Nat) : ∀ E fu v, E + j = 127 → 1 ≤ E → j < fu → v = UInt32.ofNat (E * 8388608 + T) → B_X5_bitsOfFloat_13 f0 fu σ v (nI (E0 + j)) = some (σ, (nI E0 <<< ((23 : Int32) &&& 31)) + nI T) := by
  induction j with
  | zero =>
    intro E fu v hE h1 hf hv
    obtain ⟨fu, rfl⟩ : ∃ g, fu = g + 1 := ⟨fu - 1, by omega⟩
    exact bf_0 hT (by rw [hv, show E = 127 by omega])
  | succ j ih =>
    intro E fu v hE h1 hf hv
    obtain ⟨fu, rfl⟩ : ∃ g, fu = g + 1 := ⟨fu - 1, by omega⟩
    rw [bf_s h1 (by omega) hT hv rfl (show ¬ nI (E0 + (j + 1)) ≤ (1 : Int32) from nI_ge (a := 1) (b := E0 + (j + 1)) (by omega) (by omega)), show E0 + (j + 1) = E0 + j + 1 by omega, dec_n]
    exact ih (E + 1) fu _ (by omega) (by omega) (by omega) rfl
theorem bits_ok {σ : CS} {ρ : RS} {f : UInt32} (h : f.toNat = 0 ∨ 8388608 ≤ f.toNat ∧ f.toNat ≤ 1065353216) : fok f = true ∧ F_X5_bitsOfFloat σ f = some (σ, f.toInt32) ∧ F_Jxf58ca_floatToIntBits_5c35a ρ f = some (ρ, f.toInt32) := by
  obtain ⟨n, hn, rfl⟩ : ∃ n, f.toNat = n ∧ f = UInt32.ofNat n := ⟨f.toNat, rfl, (UInt32.ofNat_toNat).symm⟩
  rw [hn] at h
  have hb : n < 2139095040 := by omega
  have nn := f_nn hb
  refine ⟨fok_o nn, ?_, ?_⟩
  · have ec : FP.fcmp (UInt32.ofNat n) FP.fconst0 = some (compare (n : Int) 0) := f_cmp0 hb
    unfold F_X5_bitsOfFloat
    rw [ec]
    rcases h with rfl | ⟨h1, h2⟩
    · rfl
    · have e : compare (n : Int) 0 = .gt := by rw [FP.Core.compare_ite, if_neg (by omega), if_neg (by omega)]
      rw [e, if_pos (by decide)]
      have hT : n % 8388608 < 8388608 := Nat.mod_lt _ (by decide)
      have hE : 1 ≤ n / 8388608 ∧ n / 8388608 ≤ 127 := by omega
      have en : n / 8388608 * 8388608 + n % 8388608 = n := by omega
      have k := bf_l (f0 := UInt32.ofNat n) (σ := σ) (T := n % 8388608) (E0 := n / 8388608) hT hE.1 hE.2 (127 - n / 8388608) (n / 8388608) 4096 (UInt32.ofNat n) (by omega) hE.1 (by omega) (by rw [en])
      rw [show n / 8388608 + (127 - n / 8388608) = 127 by omega, sh23 _ (by omega), nI_add, en] at k
      exact k
  · have ec : FP.fcmp (UInt32.ofNat n) (UInt32.ofNat n) = some .eq := FP.Core.fcmp_self nn
    unfold F_Jxf58ca_floatToIntBits_5c35a F_Jxf58ca_isNaN_12338
    rw [ec, if_pos (by decide), bd_s, if_pos rfl]
theorem f_quo0 {b : Nat} (hb0 : 0 < b) (hb : b ≤ 16777216) : FP.Core.fdiv (FP.Core.i2f (Int32.ofNat 0)) (FP.Core.i2f (Int32.ofNat b)) = 0 := by
  have eb : (Int32.ofNat b).toInt = (b : Int) := Int32.toInt_ofNat_of_lt (by omega)
  have wb : FP.Core.Whole (b : Int) (FP.Core.val32 (FP.Core.i2f (Int32.ofNat b))) := by
    have := FP.Core.i2f_int (a := Int32.ofNat b) (by rw [eb]; show b ≤ 16777216; omega)
    rw [eb] at this; exact this
  have hd := FP.Core.val32_fdiv (FP.Core.i2f (Int32.ofNat 0)) (FP.Core.i2f (Int32.ofNat b))
  have e0 : FP.Core.val32 (FP.Core.i2f (Int32.ofNat 0)) = .fin false 0 (-149) := by decide +kernel
  have z0 : FP.Core.val32 0 = .fin false 0 (-149) := by decide +kernel
  rw [e0] at hd
  refine (FP.Core.val32_inj (a := 0) (by rw [z0]; simp) ?_).symm
  rw [hd, z0]
  generalize FP.Core.val32 (FP.Core.i2f (Int32.ofNat b)) = y at wb
  cases y with
  | nan => exact wb.elim
  | inf => exact wb.elim
  | fin t d r =>
    have ht : t = false := by rw [FP.Core.whole_sign wb (by omega)]; simp
    subst ht
    have hd0 : d ≠ 0 := fun e => by have := (FP.Core.whole_zero wb).mp e; omega
    show _ = (if d = 0 then _ else FP.Core.roundRatio FP.Core.b32 (false != false) 0 d (-149 - r))
    rw [if_neg hd0]
    rfl
theorem ans_2 {c N M L : Nat} {σ : CS} {ρ : RS} (hJ : Jc c N M L σ ρ) (hc : c ≤ 512) : ∃ r, F_X5_answered σ = some (σ, r) ∧ F_X6_answeredNow ρ = some (ρ, r) := by
  obtain ⟨a, b, hab, hb, q9, q10, q9', q10'⟩ := hJ.1.2.2.2.2.2.1
  have d24 : ρ.1 24 0 = nI b := by rw [Ur_rd um_24, q9']
  have d25 : ρ.1 25 0 = nI a := by rw [Ur_rd um_25, q10']
  unfold F_X5_answered F_X5_shareAnswered F_X6_answeredNow B_X6_answeredNow_22
  rw [q9, q10, d24, d25]
  by_cases hb0 : b = 0
  · subst hb0
    obtain ⟨k1, k2, k3⟩ := bits_ok (σ := σ) (ρ := ρ) (f := FP.fconst1) (Or.inr ⟨by decide, by decide⟩)
    rw [if_neg (by decide), if_pos (show nI 0 = (0 : Int32) from rfl), bd_s, k2, bd_s, k3, bd_s]
    exact ⟨_, rfl, rfl⟩
  · have hf : (FP.fdiv (FP.i2f (nI a)) (FP.i2f (nI b))).toNat = 0 ∨ 8388608 ≤ (FP.fdiv (FP.i2f (nI a)) (FP.i2f (nI b))).toNat ∧ (FP.fdiv (FP.i2f (nI a)) (FP.i2f (nI b))).toNat ≤ 1065353216 := by
      by_cases ha0 : a = 0
      · subst ha0
        have := f_quo0 (b := b) (by omega) (by omega)
        exact Or.inl (by show (FP.Core.fdiv (FP.Core.i2f (Int32.ofNat 0)) (FP.Core.i2f (Int32.ofNat b))).toNat = 0; rw [this]; rfl)
      · have := f_quo (a := a) (b := b) (by omega) hab (by omega)
        exact Or.inr ⟨Nat.le_trans (by decide) this.1, this.2⟩
    obtain ⟨k1, k2, k3⟩ := bits_ok (σ := σ) (ρ := ρ) hf
    rw [if_pos (show (0 : Int32) < nI b from nI_lt (a := 0) (by omega) (by omega)), if_neg (show ¬ nI b = (0 : Int32) from fun e => hb0 (nI_inj (b := 0) (by omega) (by decide) e)), k1, gd_t, gd_t, bd_s, k2, bd_s, k3, bd_s]
    exact ⟨_, rfl, rfl⟩
theorem sm_answered : Sm_answered Inv := by
  rintro n σ ρ hn ⟨c, N, M, L, hcL, hJ⟩
  obtain ⟨r, e1, e2⟩ := ans_2 (hJ.t0 (v := 0)) (by omega)
  refine ⟨σ, rp ρ 0 0 0, r, e1, ?_, ⟨c, N, M, L, by omega, hJ.t0⟩, Nat.le_refl _⟩
  unfold F_X6_answered
  rw [lt_eq, e2, bd_s]
