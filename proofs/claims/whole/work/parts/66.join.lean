/-! ===== a rejoin on both sides ===== -/
theorem gt_dec (x : Int32) (k : Nat) (u j : Int32) : gt x k u j ∨ ¬ gt x k u j := Classical.em _
def gn (x : Int32) (σ : CS) (i : Nat) : Int32 := if ((x >>> (nI i &&& 31)) &&& 1) = 1 ∧ ¬ σ 25 i 0 = 0 ∧ ¬ σ 26 i 0 = 0 then 1 else 0
theorem gn_t {x : Int32} {σ : CS} {i : Nat} (h : gt x i (σ 25 i 0) (σ 26 i 0)) : gn x σ i = 1 := if_pos h
theorem gn_f {x : Int32} {σ : CS} {i : Nat} (h : ¬ gt x i (σ 25 i 0) (σ 26 i 0)) : gn x σ i = 0 := if_neg h
def jB (x : Int32) (σ : CS) : Nat → Nat → Int32
  | 0, _ => 0
  | i + 1, s => if gn x σ i = 0 then jB x σ i s else if σ 42 (7 + i) s ≤ jB x σ i s then jB x σ i s else σ 42 (7 + i) s
def jV (x : Int32) (σ : CS) : Nat → Nat → Int32
  | 0, _ => -1
  | i + 1, s => if gn x σ i = 0 then jV x σ i s else if σ 42 (7 + i) s ≤ jB x σ i s then jV x σ i s else σ 43 (7 + i) s
def jP (x : Int32) (σ : CS) : Nat → Int32
  | 0 => 0
  | i + 1 => if gn x σ i = 0 then jP x σ i else imax (jP x σ i) (σ 60 (7 + i) 0)
def jS (x : Int32) (σ : CS) (a : Int32) : Nat → Int32
  | 0 => a
  | i + 1 => if gn x σ i = 0 then jS x σ a i else imax (jS x σ a i) (σ 60 (7 + i) 0)
theorem jdk {rqf : Nat → Prop} {B M : Nat} {zc : Nat → Nat} {x : Int32} {σ τ : CS} (hM : M ≤ 4) (hJ : JJN rqf B zc M σ τ) : ∀ i, i ≤ 7 → ∀ s, s < 4 → dk B M s (jB x σ i s) (jV x σ i s)
  | 0, _, s, _ => Or.inl ⟨rfl, rfl⟩
  | i + 1, hi, s, hs => by
    have ih := jdk (x := x) hM hJ i (by omega) s hs
    have hv := (hJ i (by omega)).2.vd hM s hs
    rw [show (142 : Nat) = 100 + 42 from rfl, show (143 : Nat) = 100 + 43 from rfl, nd_b rfl, nd_b rfl] at hv
    simp only [jB, jV]
    by_cases h1 : gn x σ i = 0
    · rw [if_pos h1, if_pos h1]; exact ih
    · rw [if_neg h1, if_neg h1]
      by_cases h2 : σ 42 (7 + i) s ≤ jB x σ i s
      · rw [if_pos h2, if_pos h2]; exact ih
      · rw [if_neg h2, if_neg h2]; exact hv
theorem jPb {rqf : Nat → Prop} {B M : Nat} {zc : Nat → Nat} {x : Int32} {σ τ : CS} (hB : B < 2 ^ 31) (hJ : JJN rqf B zc M σ τ) : ∀ i, i ≤ 7 → b0 B (jP x σ i)
  | 0, _ => ⟨0, by omega, rfl⟩
  | i + 1, hi => by
    have ih := jPb (x := x) hB hJ i (by omega)
    have hv := (hJ i (by omega)).2.vp
    rw [show (160 : Nat) = 100 + 60 from rfl, nd_b rfl] at hv
    simp only [jP]
    by_cases h1 : gn x σ i = 0
    · rw [if_pos h1]; exact ih
    · rw [if_neg h1]; exact imax_b0 hB ih hv
theorem imax_as {B : Nat} {a b c : Int32} (hB : B < 2 ^ 31) (ha : b0 B a) (hb : b0 B b) (hc : b0 B c) : imax (imax a b) c = imax a (imax b c) := by
  obtain ⟨a, h1, rfl⟩ := ha
  obtain ⟨b, h2, rfl⟩ := hb
  obtain ⟨c, h3, rfl⟩ := hc
  rw [imax_nI (by omega) (by omega), imax_nI (by omega) (by omega), imax_nI (by omega) (by omega), imax_nI (by omega) (by omega)]
  congr 1
  omega
theorem jSP {rqf : Nat → Prop} {B M : Nat} {zc : Nat → Nat} {x a : Int32} {σ τ : CS} (hB : B < 2 ^ 31) (ha : b0 B a) (hJ : JJN rqf B zc M σ τ) : ∀ i, i ≤ 7 → jS x σ a i = imax a (jP x σ i)
  | 0, _ => by
    obtain ⟨n, h1, rfl⟩ := ha
    show nI n = imax (nI n) (nI 0)
    rw [imax_nI (by omega) (by omega), Nat.max_eq_left (by omega)]
  | i + 1, hi => by
    have ih := jSP (x := x) hB ha hJ i (by omega)
    have hv := (hJ i (by omega)).2.vp
    rw [show (160 : Nat) = 100 + 60 from rfl, nd_b rfl] at hv
    simp only [jS, jP]
    by_cases h1 : gn x σ i = 0
    · rw [if_pos h1, if_pos h1]; exact ih
    · rw [if_neg h1, if_neg h1, ih]; exact imax_as hB ha (jPb hB hJ i (by omega)) hv
/-- the class reads from the others into its scratch disk -/
theorem rd_c {N o : Nat} {x : Int32} {σ : CS} (hN : σ 6 0 0 = nI N) (hN7 : N ≤ 7) : ∃ σ1, (∀ f i j, i ≠ 14 → σ1 f i j = σ f i j) ∧ σ1 60 14 0 = jP x σ N ∧ (∀ s, s < 4 → σ1 42 14 s = jB x σ N s ∧ σ1 43 14 s = jV x σ N s) ∧ F_X5_readFromOthers σ o x = (if sm N (gn x σ) < nI N / 2 + 1 then some (σ1, sm N (gn x σ)) else bd (F_X3_join σ1 o 14) fun a _ => some (a, sm N (gn x σ))) := by
  obtain ⟨σ0, er, r1, r2, r3⟩ := rs14 (σ := σ)
  unfold F_X5_readFromOthers
  rw [er, bd_s]
  unfold B_X5_readFromOthers_12
  refine lo3_it N (fun i a v => v = sm i (gn x σ) ∧ (∀ f k j, k ≠ 14 → a f k j = σ f k j) ∧ a 60 14 0 = jP x σ i ∧ ∀ s, s < 4 → a 42 14 s = jB x σ i s ∧ a 43 14 s = jV x σ i s) (fun r => ∃ σ1 : CS, (∀ f i j, i ≠ 14 → σ1 f i j = σ f i j) ∧ σ1 60 14 0 = jP x σ N ∧ (∀ s, s < 4 → σ1 42 14 s = jB x σ N s ∧ σ1 43 14 s = jV x σ N s) ∧ r = (if sm N (gn x σ) < nI N / 2 + 1 then some (σ1, sm N (gn x σ)) else bd (F_X3_join σ1 o 14) fun a _ => some (a, sm N (gn x σ)))) ?_ ?_ N 0 4096 σ0 0 (by omega) (by omega) ⟨rfl, r1, r2, r3⟩
  · rintro i a v hi ⟨rfl, h1, h2, h3⟩
    have hi7 : i < 7 := by omega
    have c6 : a 6 0 0 = nI N := (h1 _ _ _ (by decide)).trans hN
    have e25 : a 25 i 0 = σ 25 i 0 := h1 _ _ _ (by omega)
    have e26 : a 26 i 0 = σ 26 i 0 := h1 _ _ _ (by omega)
    rcases gt_dec x i (σ 25 i 0) (σ 26 i 0) with hg | hg
    · obtain ⟨a', t1, t2, t3⟩ := tk_c (σ := a) (o1 := 7 + i) (by omega)
      have g1 := gn_t hg
      have g0 : ¬ gn x σ i = 0 := by rw [g1]; decide
      refine ⟨pt a' 60 14 0 (imax (a' 60 14 0) (a' 60 (7 + i) 0)), sm i (gn x σ) + 1, ⟨by simp only [sm]; rw [g1], fun f k j hk => ?_, ?_, fun s hs => ?_⟩, fun K => ?_⟩
      · simp only [pt]; rw [if_neg (by omega), t2 _ _ _ (by omega)]; exact h1 f k j hk
      · simp only [jP]
        rw [if_neg g0]
        simp only [pt]; simp
        rw [t2 _ _ _ (by omega), t2 _ _ _ (by omega), h2, h1 _ _ _ (by omega)]
      · obtain ⟨y1, y2⟩ := t3 s hs
        obtain ⟨z1, z2⟩ := h3 s hs
        have e1 : a 42 (7 + i) s = σ 42 (7 + i) s := h1 _ _ _ (by omega)
        have e2 : a 43 (7 + i) s = σ 43 (7 + i) s := h1 _ _ _ (by omega)
        simp only [jB, jV]
        rw [if_neg g0, if_neg g0]
        simp only [pt]; simp
        rw [y1, y2, z1, z2, e1, e2]
        exact ⟨rfl, rfl⟩
      · rw [c6, if_neg (nI_ge hi (by omega)), (gets_c hi7).1 (by rw [e25, e26]; exact hg), bd_s, if_neg (by decide), g7 hi7, t7 hi7, t1, bd_s, g7 hi7, lt_eq, lt_eq]
        unfold B_X5_readFromOthers_81
        rw [lt_eq, nI_1]
    · have g0 := gn_f hg
      refine ⟨a, sm i (gn x σ), ⟨by simp only [sm]; rw [g0, add0], h1, by simp only [jP]; rw [if_pos g0]; exact h2, fun s hs => by simp only [jB, jV]; rw [if_pos g0, if_pos g0]; exact h3 s hs⟩, fun K => ?_⟩
      rw [c6, if_neg (nI_ge hi (by omega)), (gets_c hi7).2 (by rw [e25, e26]; exact hg), bd_s, if_pos rfl]
      unfold B_X5_readFromOthers_81
      rw [lt_eq, nI_1]
  · rintro a v K ⟨rfl, h1, h2, h3⟩
    have c6 : a 6 0 0 = nI N := (h1 _ _ _ (by decide)).trans hN
    refine ⟨a, h1, h2, h3, ?_⟩
    rw [c6, if_pos (nI_le (Nat.le_refl N) (by omega))]
    unfold F_X5_quorum B_X5_readFromOthers_103
    rw [c6, bd_s]
