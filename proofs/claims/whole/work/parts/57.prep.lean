/-! ===== who gets a message; the next ballot; the newest of what is told ===== -/
def gt (x : Int32) (k : Nat) (u j : Int32) : Prop := ((x >>> (nI k &&& 31)) &&& 1) = 1 ∧ ¬ u = 0 ∧ ¬ j = 0
theorem gets_c {σ : CS} {k : Nat} {x : Int32} (hk : k < 7) : (gt x k (σ 25 k 0) (σ 26 k 0) → F_X5_gets σ (nI k) x = some (σ, 1)) ∧ (¬ gt x k (σ 25 k 0) (σ 26 k 0) → F_X5_gets σ (nI k) x = some (σ, 0)) := by
  unfold F_X5_gets F_X5_isIn F_X3_takesPart B_X5_gets_24 B_X3_takesPart_18 gt
  simp only [g7 hk, t7 hk]
  by_cases h1 : ((x >>> (nI k &&& 31)) &&& 1) = 1
  · rw [if_pos h1, bd_s, if_neg (by decide)]
    by_cases h2 : σ 25 k 0 = 0
    · rw [if_pos h2, bd_s, if_pos rfl]
      exact ⟨fun q => absurd h2 q.2.1, fun _ => rfl⟩
    · rw [if_neg h2]
      by_cases h3 : σ 26 k 0 = 0
      · rw [if_pos h3, bd_s, if_pos rfl]
        exact ⟨fun q => absurd h3 q.2.2, fun _ => rfl⟩
      · rw [if_neg h3, bd_s, if_neg (by decide)]
        exact ⟨fun _ => rfl, fun q => absurd ⟨h1, h2, h3⟩ q⟩
  · rw [if_neg h1, bd_s, if_pos rfl]
    exact ⟨fun q => absurd q.1 h1, fun _ => rfl⟩
theorem gets_r {ρ : RS} {k : Nat} {x : Int32} (hk : k < 7) : (gt x k (Ur ρ 25 k 0) (Ur ρ 26 k 0) → F_X6_gets ρ (nI k) x = some (ρ, 1)) ∧ (¬ gt x k (Ur ρ 25 k 0) (Ur ρ 26 k 0) → F_X6_gets ρ (nI k) x = some (ρ, 0)) := by
  unfold F_X6_gets B_X6_gets_31 gt
  simp only [g7 hk, t7 hk]
  rw [← Ur_rd (um_4 hk), ← Ur_rd (um_5 hk)]
  by_cases h1 : ((x >>> (nI k &&& 31)) &&& 1) = 1
  · rw [if_pos h1]
    by_cases h2 : ρ.1 4 k = 0
    · rw [if_pos h2]
      exact ⟨fun q => absurd h2 q.2.1, fun _ => rfl⟩
    · rw [if_neg h2]
      by_cases h3 : ρ.1 5 k = 0
      · rw [if_pos h3]
        exact ⟨fun q => absurd h3 q.2.2, fun _ => rfl⟩
      · rw [if_neg h3]
        exact ⟨fun _ => rfl, fun q => absurd ⟨h1, h2, h3⟩ q⟩
  · rw [if_neg h1]
    exact ⟨fun q => absurd q.1 h1, fun _ => rfl⟩
theorem imax_nI {a b : Nat} (ha : a < 2 ^ 31) (hb : b < 2 ^ 31) : imax (nI a) (nI b) = nI (max a b) := by
  unfold imax
  by_cases h : a < b
  · rw [if_pos (nI_lt h hb), Nat.max_eq_right (by omega)]
  · rw [if_neg (nI_nlt (by omega) ha), Nat.max_eq_left (by omega)]
theorem imax_b0 {B : Nat} {x y : Int32} (hB : B < 2 ^ 31) (hx : b0 B x) (hy : b0 B y) : b0 B (imax x y) := by
  obtain ⟨a, h1, rfl⟩ := hx
  obtain ⟨b, h2, rfl⟩ := hy
  rw [imax_nI (by omega) (by omega)]
  exact ⟨max a b, by omega, rfl⟩
/-- the least ballot above a that is a multiple of 8 (not 0) and the node's number -/
def nb (a k : Nat) : Nat := if a < 8 + k then 8 + k else if a < a / 8 * 8 + k then a / 8 * 8 + k else a / 8 * 8 + k + 8
theorem nb_gt {a k : Nat} : 8 ≤ nb a k ∧ nb a k ≤ max a 8 + 14 + k := by
  unfold nb
  split
  · omega
  · split
    · omega
    · omega
theorem nb_le {a k : Nat} (hk : k < 7) : nb a k ≤ max (a + 8) 14 := by
  unfold nb
  split
  · omega
  · split
    · omega
    · omega
theorem xor8 {n : Nat} (h : n < 2 ^ 31) : 0 ≤ (nI n ^^^ (8 : Int32)) := by
  have h1 : (nI n ^^^ (8 : Int32)) = nI (n ^^^ 8) := by
    apply Int32.toBitVec_inj.mp
    apply BitVec.eq_of_toNat_eq
    rw [Int32.toBitVec_xor, BitVec.toNat_xor, pk_tn (by omega), pk_tn (show n ^^^ 8 < 2 ^ 32 from Nat.xor_lt_two_pow (by omega) (by decide))]
    rfl
  rw [h1]
  exact nI_pos' (Nat.xor_lt_two_pow h (by decide))
theorem fd_pos {σ : CS} {n : Nat} (h : n < 2 ^ 31) : F_J9_floorDiv_7cf53 σ (nI n) 8 = some (σ, nI (n / 8)) := by
  unfold F_J9_floorDiv_7cf53 B_J9_floorDiv_7cf53_21
  rw [show nz (8 : Int32) = true from rfl, gd_t, lt_eq, if_pos (xor8 h)]
  rw [show nI n / (8 : Int32) = nI (n / 8) from pk_div (d := 8) h (by decide) (by decide)]
theorem fd_neg {σ : CS} : ∀ o, o < 7 → ∀ a, a < o → F_J9_floorDiv_7cf53 σ (nI a - nI o) 8 = some (σ, -1) := by
  intro o ho a ha
  have key : ∀ o, o < 7 → ∀ a, a < o → nz (8 : Int32) = true ∧ ¬ (0 ≤ ((nI a - nI o) ^^^ (8 : Int32))) ∧ ¬ ((nI a - nI o) / 8 * 8 = (nI a - nI o)) ∧ (nI a - nI o) / (8 : Int32) - 1 = -1 := by decide +kernel
  obtain ⟨k0, k1, k2, k3⟩ := key o ho a ha
  unfold F_J9_floorDiv_7cf53
  rw [k0, gd_t, lt_eq, if_neg k1, if_neg k2, k3]
theorem next_c {σ : CS} {k a p : Nat} (hk : k < 7) (ha : a < 2 ^ 30) (hp : p < 2 ^ 30) (h28 : σ 28 k 0 = nI a) (h60 : σ 60 (7 + k) 0 = nI p) : F_X3_nextBallot σ k = some (σ, nI (nb (max a p) k)) := by
  unfold F_X3_nextBallot
  rw [h28, h60, imax_nI (by omega) (by omega), lt_eq]
  generalize hA : max a p = A
  have hA2 : A < 2 ^ 30 := by omega
  by_cases hle : k ≤ A
  · rw [pk_sub hle, fd_pos (by omega), bd_s, nI_1, lt_eq, show (1 : Int32) = nI 1 from rfl, imax_nI (by omega) (by omega), show (8 : Int32) = nI 8 from rfl, pk_mul, nI_add]
    have : 8 * max ((A - k) / 8 + 1) 1 + k = nb A k := by
      unfold nb
      split
      · omega
      · split
        · omega
        · omega
    rw [this]
  · rw [fd_neg k hk A (by omega), bd_s, lt_eq]
    have e : imax ((-1 : Int32) + 1) 1 = 1 := by decide
    rw [e, show (8 : Int32) * 1 = nI 8 from by decide, nI_add]
    have : 8 + k = nb A k := by
      unfold nb
      rw [if_pos (by omega)]
    rw [this]
theorem next_r {ρ : RS} {k a p : Nat} (hk : k < 7) (ha : a < 2 ^ 30) (hp : p < 2 ^ 30) (h28 : Ur ρ 28 k 0 = nI a) (h60 : Ur ρ 60 (7 + k) 0 = nI p) : F_X6_nextBallot ρ (nI k) = some (ρ, nI (nb (max a p) k)) := by
  have r7 : ρ.1 7 k = nI a := by rw [Ur_rd (um_7 hk), h28]
  have r11 : ρ.1 11 k = nI p := by rw [Ur_rd (um_11 hk), h60]
  have key : ∀ A, A < 2 ^ 30 → B_X6_nextBallot_30 (nI k) ρ (nI A) = some (ρ, nI (nb A k)) := by
    intro A hA2
    unfold B_X6_nextBallot_30 B_X6_nextBallot_65 B_X6_nextBallot_63 nb
    simp only [lt_eq]
    rw [show (8 : Int32) + nI k = nI (8 + k) from nI_add 8 k, show nI A / (8 : Int32) = nI (A / 8) from pk_div (d := 8) (by omega) (by decide) (by decide), show nI (A / 8) * (8 : Int32) = nI (A / 8 * 8) from pk_mul _ 8, nI_add]
    by_cases h1 : A < 8 + k
    · rw [if_pos (nI_lt h1 (by omega)), if_pos h1]
    · rw [if_neg (nI_nlt (by omega) (by omega)), if_neg h1]
      by_cases h2 : A < A / 8 * 8 + k
      · rw [if_pos (nI_lt h2 (by omega)), if_pos h2]
        unfold B_X6_nextBallot_65
        rw [show nI (A / 8 * 8 + k) + (0 : Int32) = nI (A / 8 * 8 + k + 0) from nI_add _ 0]
        rfl
      · rw [if_neg (nI_nlt (by omega) (by omega)), if_neg h2]
        unfold B_X6_nextBallot_65
        rw [show nI (A / 8 * 8 + k) + (8 : Int32) = nI (A / 8 * 8 + k + 8) from nI_add _ 8]
  unfold F_X6_nextBallot
  simp only [g7 hk, t7 hk]
  rw [r7, r11]
  by_cases h : a ≤ p
  · rw [if_pos (nI_le h (by omega)), key p hp, Nat.max_eq_right h]
  · rw [if_neg (nI_ge (by omega) (by omega)), key a ha, Nat.max_eq_left (by omega)]
/-- the newer of two rows of a ballot and a value, slot by slot, for the slots below t -/
theorem tk_c {σ : CS} {o1 : Nat} (ho : o1 ≠ 14) : ∃ σ', F_X1_takeNewer σ 14 o1 = some (σ', ()) ∧ (∀ f o j, ¬ (o = 14 ∧ (f = 42 ∨ f = 43) ∧ j < 4) → σ' f o j = σ f o j) ∧ ∀ s, s < 4 → σ' 42 14 s = (if σ 42 o1 s ≤ σ 42 14 s then σ 42 14 s else σ 42 o1 s) ∧ σ' 43 14 s = (if σ 42 o1 s ≤ σ 42 14 s then σ 43 14 s else σ 43 o1 s) := by
  unfold F_X1_takeNewer B_X1_takeNewer_2
  refine lo2_it 4 (fun i a => (∀ f o j, ¬ (o = 14 ∧ (f = 42 ∨ f = 43) ∧ j < i) → a f o j = σ f o j) ∧ ∀ s, s < i → a 42 14 s = (if σ 42 o1 s ≤ σ 42 14 s then σ 42 14 s else σ 42 o1 s) ∧ a 43 14 s = (if σ 42 o1 s ≤ σ 42 14 s then σ 43 14 s else σ 43 o1 s)) (fun r => ∃ σ' : CS, r = some (σ', ()) ∧ (∀ f o j, ¬ (o = 14 ∧ (f = 42 ∨ f = 43) ∧ j < 4) → σ' f o j = σ f o j) ∧ ∀ s, s < 4 → σ' 42 14 s = (if σ 42 o1 s ≤ σ 42 14 s then σ 42 14 s else σ 42 o1 s) ∧ σ' 43 14 s = (if σ 42 o1 s ≤ σ 42 14 s then σ 43 14 s else σ 43 o1 s)) ?_ ?_ 4 0 4096 σ (by omega) (by omega) ⟨fun _ _ _ _ => rfl, fun s hs => by omega⟩
  · rintro i a hi ⟨h1, h2⟩
    have r1 : a 42 o1 i = σ 42 o1 i := h1 _ _ _ (by omega)
    have r2 : a 42 14 i = σ 42 14 i := h1 _ _ _ (by omega)
    have r3 : a 43 o1 i = σ 43 o1 i := h1 _ _ _ (by omega)
    have r4 : a 43 14 i = σ 43 14 i := h1 _ _ _ (by omega)
    by_cases hc : σ 42 o1 i ≤ σ 42 14 i
    · refine ⟨a, ⟨fun f o j hq => h1 f o j (by omega), fun s hs => ?_⟩, fun K => ?_⟩
      · by_cases e : s = i
        · subst e
          rw [if_pos hc, if_pos hc, r2, r4]
          exact ⟨rfl, rfl⟩
        · exact h2 s (by omega)
      · simp only [B_X1_takeNewer_46, lt_eq, g4 hi, t4 hi]
        rw [if_neg (show ¬ (4 : Int32) ≤ nI i from nI_ge hi (by decide)), r1, r2, if_pos hc, nI_1]
    · refine ⟨pt (pt a 42 14 i (σ 42 o1 i)) 43 14 i (σ 43 o1 i), ⟨fun f o j hq => ?_, fun s hs => ?_⟩, fun K => ?_⟩
      · simp only [pt]
        rw [if_neg (by omega), if_neg (by omega)]
        exact h1 f o j (by omega)
      · by_cases e : s = i
        · subst e
          rw [if_neg hc, if_neg hc]
          simp [pt]
        · simp [pt, e]
          exact h2 s (by omega)
      · have r5 : pt a 42 14 i (σ 42 o1 i) 43 o1 i = σ 43 o1 i := by simp [pt, r3]
        simp only [B_X1_takeNewer_46, lt_eq, g4 hi, t4 hi]
        rw [if_neg (show ¬ (4 : Int32) ≤ nI i from nI_ge hi (by decide)), r1, r2, if_neg hc, r5, nI_1]
  · rintro a K ⟨h1, h2⟩
    rw [if_pos (show (4 : Int32) ≤ nI 4 by decide)]
    exact ⟨a, rfl, h1, h2⟩
theorem hear_r {ρ : RS} {o k M : Nat} (ho : o < 7) (hk : k < 7) (hM : Ur ρ 7 0 0 = nI M) (hM4 : M ≤ 4) : ∃ ρ', F_X6_hear ρ (nI o) (nI k) = some (ρ', ()) ∧ Xr ρ' = Xr ρ ∧ (∀ f o' j, ¬ (((f = 42 ∧ o' = 14) ∨ (f = 41 ∧ o' = o)) ∧ j < M) → Ur ρ' f o' j = Ur ρ f o' j) ∧ ∀ s, s < M → Ur ρ' 42 14 s = (if Ur ρ 42 (7 + k) s ≤ Ur ρ 42 14 s then Ur ρ 42 14 s else Ur ρ 42 (7 + k) s) ∧ Ur ρ' 41 o s = (if Ur ρ 42 (7 + k) s ≤ Ur ρ 42 14 s then Ur ρ 41 o s else Ur ρ 43 (7 + k) s) := by
  have rM : ∀ a : RS, Ur a 7 0 0 = Ur ρ 7 0 0 → a.1 2 0 = nI M := fun a ha => by rw [Ur_rd um_2, ha, hM]
  unfold F_X6_hear B_X6_hear_2
  refine lo2_it M (fun i a => Xr a = Xr ρ ∧ (∀ f o' j, ¬ (((f = 42 ∧ o' = 14) ∨ (f = 41 ∧ o' = o)) ∧ j < i) → Ur a f o' j = Ur ρ f o' j) ∧ ∀ s, s < i → Ur a 42 14 s = (if Ur ρ 42 (7 + k) s ≤ Ur ρ 42 14 s then Ur ρ 42 14 s else Ur ρ 42 (7 + k) s) ∧ Ur a 41 o s = (if Ur ρ 42 (7 + k) s ≤ Ur ρ 42 14 s then Ur ρ 41 o s else Ur ρ 43 (7 + k) s)) (fun r => ∃ ρ', r = some (ρ', ()) ∧ Xr ρ' = Xr ρ ∧ (∀ f o' j, ¬ (((f = 42 ∧ o' = 14) ∨ (f = 41 ∧ o' = o)) ∧ j < M) → Ur ρ' f o' j = Ur ρ f o' j) ∧ ∀ s, s < M → Ur ρ' 42 14 s = (if Ur ρ 42 (7 + k) s ≤ Ur ρ 42 14 s then Ur ρ 42 14 s else Ur ρ 42 (7 + k) s) ∧ Ur ρ' 41 o s = (if Ur ρ 42 (7 + k) s ≤ Ur ρ 42 14 s then Ur ρ 41 o s else Ur ρ 43 (7 + k) s)) ?_ ?_ M 0 4096 ρ (by omega) (by omega) ⟨rfl, fun _ _ _ _ => rfl, fun s hs => by omega⟩
  · rintro i a hi ⟨hX, h1, h2⟩
    have hi4 : i < 4 := by omega
    have q1 : a.1 12 (4 * k + i) = Ur ρ 42 (7 + k) i := by rw [Ur_rd (um_12 hk hi4)]; exact h1 _ _ _ (by omega)
    have q2 : a.1 29 i = Ur ρ 42 14 i := by rw [Ur_rd (um_29 hi4)]; exact h1 _ _ _ (by omega)
    have q3 : a.1 13 (4 * k + i) = Ur ρ 43 (7 + k) i := by rw [Ur_rd (um_13 hk hi4)]; exact h1 _ _ _ (by omega)
    have qM : a.1 2 0 = nI M := rM a (h1 _ _ _ (by omega))
    by_cases hc : Ur ρ 42 (7 + k) i ≤ Ur ρ 42 14 i
    · refine ⟨a, ⟨hX, fun f o' j hq => h1 f o' j (by omega), fun s hs => ?_⟩, fun K => ?_⟩
      · by_cases e : s = i
        · subst e
          rw [if_pos hc, if_pos hc]
          exact ⟨h1 _ _ _ (by omega), h1 _ _ _ (by omega)⟩
        · exact h2 s (by omega)
      · simp only [qM, at_eq, bd_s, g28 hk hi4, g4 hi4, t28 hk hi4, t4 hi4, q1, q2, B_X6_hear_65, lt_eq]
        rw [if_neg (nI_ge hi (by omega)), if_pos hc, nI_1]
    · refine ⟨rp (rp a 29 i (Ur ρ 42 (7 + k) i)) 19 (4 * o + i) (Ur ρ 43 (7 + k) i), ⟨by rw [Xr_rp (by decide), Xr_rp (by decide), hX], fun f o' j hq => ?_, fun s hs => ?_⟩, fun K => ?_⟩
      · rw [Ur_rp (um_19 ho hi4), Ur_rp (um_29 hi4)]
        simp only [pt]
        rw [if_neg (by omega), if_neg (by omega)]
        exact h1 f o' j (by omega)
      · rw [Ur_rp (um_19 ho hi4), Ur_rp (um_29 hi4)]
        by_cases e : s = i
        · subst e
          rw [if_neg hc, if_neg hc]
          simp [pt]
        · simp [pt, e]
          exact h2 s (by omega)
      · simp only [qM, at_eq, bd_s, g28 hk hi4, g28 ho hi4, g4 hi4, t28 hk hi4, t28 ho hi4, t4 hi4, q1, q2, B_X6_hear_65, lt_eq, rp_n2 (show (13 : Nat) ≠ 29 by decide), q3]
        rw [if_neg (nI_ge hi (by omega)), if_neg hc, nI_1]
  · rintro a K ⟨hX, h1, h2⟩
    rw [rM a (h1 _ _ _ (by omega)), if_pos (nI_le (Nat.le_refl M) (by omega))]
    exact ⟨a, rfl, hX, h1, h2⟩
