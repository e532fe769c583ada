/-! ===== pure: small rows ===== -/
theorem lt_eq {α β : Type} (a : α) (k : α → β) : lt a k = k a := rfl
theorem gd_t {β : Type} (x : Option β) : gd true x = x := rfl
theorem bd_s {S T W : Type} (a : S) (b : T) (k : S → T → Option W) : bd (some (a, b)) k = k a b := rfl
theorem bx_l {S T W : Type} (a : S) (b : T) (k : S → T → Option (S × (W ⊕ Nat))) : bx (some (a, .inl b)) k = k a b := rfl
theorem bx_r {S T W : Type} (a : S) (e : Nat) (k : S → T → Option (S × (W ⊕ Nat))) : bx (some (a, .inr e)) k = some (a, .inr e) := rfl
theorem gd_inb {β : Type} {i n : Nat} {x : Option β} (h : i < n) (hn : n < 2 ^ 31) : gd (inb (nI i) n) x = x := by rw [inb_nI h hn]; rfl
theorem gd_isb {β : Type} {v : Int32} {x : Option β} (h : isb v = true) : gd (isb v) x = x := by rw [h]; rfl
theorem tn_nI {i : Nat} (h : i < 2 ^ 31) : tn (nI i) = i := nI_clamp h
theorem isb_0 : isb 0 = true := rfl
theorem isb_1 : isb 1 = true := rfl
theorem gd_isb0 {β : Type} {x : Option β} : gd (isb 0) x = x := rfl
theorem gd_isb1 {β : Type} {x : Option β} : gd (isb 1) x = x := rfl
theorem nI_m1 {n : Nat} (h : n < 2 ^ 31) : ¬ nI n = -1 := fun e => by
  have h1 := nI_toInt h
  rw [e] at h1
  have h2 : (-1 : Int32).toInt = -1 := by decide
  omega
theorem m1_lt0 : (-1 : Int32) < 0 := by decide
section LIT
variable {A B C D E G A' B' C' D' R R' : Type}
theorem lo2_it {st : (A → Int32 → Option R) → A → Int32 → Option R} (N : Nat) (P : Nat → A → Prop) (Z : Option R → Prop) (hs : ∀ i a, i < N → P i a → ∃ a', P (i + 1) a' ∧ ∀ K, st K a (nI i) = K a' (nI (i + 1))) (he : ∀ a K, P N a → Z (st K a (nI N))) : ∀ (d i f : Nat) (a : A), i + d = N → d < f → P i a → Z (lo2 st f a (nI i)) := by
  intro d
  induction d with
  | zero =>
    intro i f a h1 h2 hP
    obtain ⟨f, rfl⟩ : ∃ g, f = g + 1 := ⟨f - 1, by omega⟩
    have e : i = N := by omega
    subst e
    exact he a _ hP
  | succ d ih =>
    intro i f a h1 h2 hP
    obtain ⟨f, rfl⟩ : ∃ g, f = g + 1 := ⟨f - 1, by omega⟩
    obtain ⟨a', hP', hst⟩ := hs i a (by omega) hP
    show Z (st (lo2 st f) a (nI i))
    rw [hst]
    exact ih (i + 1) f a' (by omega) (by omega) hP'
theorem lo3_it {st : (A → B → Int32 → Option R) → A → B → Int32 → Option R} (N : Nat) (P : Nat → A → B → Prop) (Z : Option R → Prop) (hs : ∀ i a b, i < N → P i a b → ∃ a' b', P (i + 1) a' b' ∧ ∀ K, st K a b (nI i) = K a' b' (nI (i + 1))) (he : ∀ a b K, P N a b → Z (st K a b (nI N))) : ∀ (d i f : Nat) (a : A) (b : B), i + d = N → d < f → P i a b → Z (lo3 st f a b (nI i)) := by
  intro d
  induction d with
  | zero =>
    intro i f a b h1 h2 hP
    obtain ⟨f, rfl⟩ : ∃ g, f = g + 1 := ⟨f - 1, by omega⟩
    have e : i = N := by omega
    subst e
    exact he a b _ hP
  | succ d ih =>
    intro i f a b h1 h2 hP
    obtain ⟨f, rfl⟩ : ∃ g, f = g + 1 := ⟨f - 1, by omega⟩
    obtain ⟨a', b', hP', hst⟩ := hs i a b (by omega) hP
    show Z (st (lo3 st f) a b (nI i))
    rw [hst]
    exact ih (i + 1) f a' b' (by omega) (by omega) hP'
theorem lo4_it {st : (A → B → C → Int32 → Option R) → A → B → C → Int32 → Option R} (N : Nat) (P : Nat → A → B → C → Prop) (Z : Option R → Prop) (hs : ∀ i a b c, i < N → P i a b c → ∃ a' b' c', P (i + 1) a' b' c' ∧ ∀ K, st K a b c (nI i) = K a' b' c' (nI (i + 1))) (he : ∀ a b c K, P N a b c → Z (st K a b c (nI N))) : ∀ (d i f : Nat) (a : A) (b : B) (c : C), i + d = N → d < f → P i a b c → Z (lo4 st f a b c (nI i)) := by
  intro d
  induction d with
  | zero =>
    intro i f a b c h1 h2 hP
    obtain ⟨f, rfl⟩ : ∃ g, f = g + 1 := ⟨f - 1, by omega⟩
    have e : i = N := by omega
    subst e
    exact he a b c _ hP
  | succ d ih =>
    intro i f a b c h1 h2 hP
    obtain ⟨f, rfl⟩ : ∃ g, f = g + 1 := ⟨f - 1, by omega⟩
    obtain ⟨a', b', c', hP', hst⟩ := hs i a b c (by omega) hP
    show Z (st (lo4 st f) a b c (nI i))
    rw [hst]
    exact ih (i + 1) f a' b' c' (by omega) (by omega) hP'
end LIT
/-- a sum over places -/
def sm : Nat → (Nat → Int32) → Int32
  | 0, _ => 0
  | n + 1, f => sm n f + f n
theorem sm_cong {n : Nat} {f f' : Nat → Int32} (h : ∀ i, i < n → f i = f' i) : sm n f = sm n f' := by
  induction n with
  | zero => rfl
  | succ n ih => simp only [sm]; rw [ih (fun i hi => h i (by omega)), h n (by omega)]
/-- a loop that leaves its state alone and adds -/
theorem lo3_sum {S R : Type} {st : (S → Int32 → Int32 → Option R) → S → Int32 → Int32 → Option R} (σ : S) (N : Nat) (f : Nat → Int32) (fin : Int32 → Option R) (hs : ∀ K acc i, i < N → st K σ acc (nI i) = K σ (acc + f i) (nI (i + 1))) (he : ∀ K acc, st K σ acc (nI N) = fin acc) (fu : Nat) (hf : N < fu) : lo3 st fu σ 0 0 = fin (sm N f) := by
  refine lo3_it (st := st) N (fun i a b => a = σ ∧ b = sm i f) (fun o => o = fin (sm N f)) ?_ ?_ N 0 fu σ 0 (by omega) hf ⟨rfl, rfl⟩
  · rintro i a b hi ⟨rfl, rfl⟩
    exact ⟨a, sm i f + f i, ⟨rfl, rfl⟩, fun K => hs K _ i hi⟩
  · rintro a b K ⟨rfl, rfl⟩
    exact he K _
/-! ===== the reference's state in the shape of the class's ===== -/
def um (f i j : Nat) : Option (Nat × Nat) := match f with
  | 5 => if i = 0 ∧ j = 0 then some (27, 0) else none
  | 6 => if i = 0 ∧ j = 0 then some (1, 0) else none
  | 7 => if i = 0 ∧ j = 0 then some (2, 0) else none
  | 8 => if i = 0 ∧ j = 0 then some (3, 0) else none
  | 9 => if i = 0 ∧ j = 0 then some (24, 0) else none
  | 10 => if i = 0 ∧ j = 0 then some (25, 0) else none
  | 11 => if i = 0 ∧ j = 0 then some (26, 0) else none
  | 25 => if i < 7 ∧ j = 0 then some (4, i) else none
  | 26 => if i < 7 ∧ j = 0 then some (5, i) else none
  | 27 => if i < 7 ∧ j = 0 then some (6, i) else none
  | 28 => if i < 7 ∧ j = 0 then some (7, i) else none
  | 29 => if i < 7 ∧ j = 0 then some (18, i) else none
  | 40 => if i = 0 ∧ j < 60 then some (28, j) else none
  | 41 => if i < 7 ∧ j < 4 then some (19, 4 * i + j) else none
  | 42 => if i < 7 ∧ j < 4 then some (9, 4 * i + j) else if 7 ≤ i ∧ i < 14 ∧ j < 4 then some (12, 4 * (i - 7) + j) else if i = 14 ∧ j < 4 then some (29, j) else none
  | 43 => if i < 7 ∧ j < 4 then some (10, 4 * i + j) else if 7 ≤ i ∧ i < 14 ∧ j < 4 then some (13, 4 * (i - 7) + j) else none
  | 44 => if i < 7 ∧ j < 2048 then some (15, 2048 * i + j) else none
  | 45 => if i < 7 ∧ j < 2048 then some (16, 2048 * i + j) else none
  | 46 => if i < 7 ∧ j < 2048 then some (17, 2048 * i + j) else none
  | 50 => if i < 4 ∧ j = 0 then some (21, i) else none
  | 51 => if i < 4 ∧ j = 0 then some (22, i) else none
  | 52 => if i < 4 ∧ j = 0 then some (20, i) else none
  | 53 => if i < 4 ∧ j = 0 then some (23, i) else none
  | 60 => if i < 7 ∧ j = 0 then some (8, i) else if 7 ≤ i ∧ i < 14 ∧ j = 0 then some (11, i - 7) else none
  | 83 => if i < 7 ∧ j = 0 then some (14, i) else none
  | _ => none
def Ur (ρ : RS) : CS := fun f i j => match um f i j with
  | some q => ρ.1 q.1 q.2
  | none => 0
def dn (a b : Nat) : Nat × Nat × Nat := match a with
  | 1 => (6, 0, 0)
  | 2 => (7, 0, 0)
  | 3 => (8, 0, 0)
  | 4 => (25, b, 0)
  | 5 => (26, b, 0)
  | 6 => (27, b, 0)
  | 7 => (28, b, 0)
  | 8 => (60, b, 0)
  | 9 => (42, b / 4, b % 4)
  | 10 => (43, b / 4, b % 4)
  | 11 => (60, 7 + b, 0)
  | 12 => (42, 7 + b / 4, b % 4)
  | 13 => (43, 7 + b / 4, b % 4)
  | 14 => (83, b, 0)
  | 15 => (44, b / 2048, b % 2048)
  | 16 => (45, b / 2048, b % 2048)
  | 17 => (46, b / 2048, b % 2048)
  | 18 => (29, b, 0)
  | 19 => (41, b / 4, b % 4)
  | 20 => (52, b, 0)
  | 21 => (50, b, 0)
  | 22 => (51, b, 0)
  | 23 => (53, b, 0)
  | 24 => (9, 0, 0)
  | 25 => (10, 0, 0)
  | 26 => (11, 0, 0)
  | 27 => (5, 0, 0)
  | 28 => (40, 0, b)
  | 29 => (42, 14, b)
  | _ => (0, 0, 0)
theorem dn_um {f i j a b : Nat} (h : um f i j = some (a, b)) : dn a b = (f, i, j) ∧ 1 ≤ a ∧ a ≤ 29 := by
  unfold um at h
  split at h
  · by_cases h0 : i = 0 ∧ j = 0
    · rw [if_pos h0] at h; cases h; exact ⟨Prod.ext rfl (Prod.ext (by simp only [dn] <;> omega) (by simp only [dn] <;> omega)), by omega, by omega⟩
    rw [if_neg h0] at h; cases h
  · by_cases h0 : i = 0 ∧ j = 0
    · rw [if_pos h0] at h; cases h; exact ⟨Prod.ext rfl (Prod.ext (by simp only [dn] <;> omega) (by simp only [dn] <;> omega)), by omega, by omega⟩
    rw [if_neg h0] at h; cases h
  · by_cases h0 : i = 0 ∧ j = 0
    · rw [if_pos h0] at h; cases h; exact ⟨Prod.ext rfl (Prod.ext (by simp only [dn] <;> omega) (by simp only [dn] <;> omega)), by omega, by omega⟩
    rw [if_neg h0] at h; cases h
  · by_cases h0 : i = 0 ∧ j = 0
    · rw [if_pos h0] at h; cases h; exact ⟨Prod.ext rfl (Prod.ext (by simp only [dn] <;> omega) (by simp only [dn] <;> omega)), by omega, by omega⟩
    rw [if_neg h0] at h; cases h
  · by_cases h0 : i = 0 ∧ j = 0
    · rw [if_pos h0] at h; cases h; exact ⟨Prod.ext rfl (Prod.ext (by simp only [dn] <;> omega) (by simp only [dn] <;> omega)), by omega, by omega⟩
    rw [if_neg h0] at h; cases h
  · by_cases h0 : i = 0 ∧ j = 0
    · rw [if_pos h0] at h; cases h; exact ⟨Prod.ext rfl (Prod.ext (by simp only [dn] <;> omega) (by simp only [dn] <;> omega)), by omega, by omega⟩
    rw [if_neg h0] at h; cases h
  · by_cases h0 : i = 0 ∧ j = 0
    · rw [if_pos h0] at h; cases h; exact ⟨Prod.ext rfl (Prod.ext (by simp only [dn] <;> omega) (by simp only [dn] <;> omega)), by omega, by omega⟩
    rw [if_neg h0] at h; cases h
  · by_cases h0 : i < 7 ∧ j = 0
    · rw [if_pos h0] at h; cases h; exact ⟨Prod.ext rfl (Prod.ext (by simp only [dn] <;> omega) (by simp only [dn] <;> omega)), by omega, by omega⟩
    rw [if_neg h0] at h; cases h
  · by_cases h0 : i < 7 ∧ j = 0
    · rw [if_pos h0] at h; cases h; exact ⟨Prod.ext rfl (Prod.ext (by simp only [dn] <;> omega) (by simp only [dn] <;> omega)), by omega, by omega⟩
    rw [if_neg h0] at h; cases h
  · by_cases h0 : i < 7 ∧ j = 0
    · rw [if_pos h0] at h; cases h; exact ⟨Prod.ext rfl (Prod.ext (by simp only [dn] <;> omega) (by simp only [dn] <;> omega)), by omega, by omega⟩
    rw [if_neg h0] at h; cases h
  · by_cases h0 : i < 7 ∧ j = 0
    · rw [if_pos h0] at h; cases h; exact ⟨Prod.ext rfl (Prod.ext (by simp only [dn] <;> omega) (by simp only [dn] <;> omega)), by omega, by omega⟩
    rw [if_neg h0] at h; cases h
  · by_cases h0 : i < 7 ∧ j = 0
    · rw [if_pos h0] at h; cases h; exact ⟨Prod.ext rfl (Prod.ext (by simp only [dn] <;> omega) (by simp only [dn] <;> omega)), by omega, by omega⟩
    rw [if_neg h0] at h; cases h
  · by_cases h0 : i = 0 ∧ j < 60
    · rw [if_pos h0] at h; cases h; exact ⟨Prod.ext rfl (Prod.ext (by simp only [dn] <;> omega) (by simp only [dn] <;> omega)), by omega, by omega⟩
    rw [if_neg h0] at h; cases h
  · by_cases h0 : i < 7 ∧ j < 4
    · rw [if_pos h0] at h; cases h; exact ⟨Prod.ext rfl (Prod.ext (by simp only [dn] <;> omega) (by simp only [dn] <;> omega)), by omega, by omega⟩
    rw [if_neg h0] at h; cases h
  · by_cases h0 : i < 7 ∧ j < 4
    · rw [if_pos h0] at h; cases h; exact ⟨Prod.ext rfl (Prod.ext (by simp only [dn] <;> omega) (by simp only [dn] <;> omega)), by omega, by omega⟩
    by_cases h1 : 7 ≤ i ∧ i < 14 ∧ j < 4
    · rw [if_neg h0] at h; rw [if_pos h1] at h; cases h; exact ⟨Prod.ext rfl (Prod.ext (by simp only [dn] <;> omega) (by simp only [dn] <;> omega)), by omega, by omega⟩
    by_cases h2 : i = 14 ∧ j < 4
    · rw [if_neg h0] at h; rw [if_neg h1] at h; rw [if_pos h2] at h; cases h; exact ⟨Prod.ext rfl (Prod.ext (by simp only [dn] <;> omega) (by simp only [dn] <;> omega)), by omega, by omega⟩
    rw [if_neg h0, if_neg h1, if_neg h2] at h; cases h
  · by_cases h0 : i < 7 ∧ j < 4
    · rw [if_pos h0] at h; cases h; exact ⟨Prod.ext rfl (Prod.ext (by simp only [dn] <;> omega) (by simp only [dn] <;> omega)), by omega, by omega⟩
    by_cases h1 : 7 ≤ i ∧ i < 14 ∧ j < 4
    · rw [if_neg h0] at h; rw [if_pos h1] at h; cases h; exact ⟨Prod.ext rfl (Prod.ext (by simp only [dn] <;> omega) (by simp only [dn] <;> omega)), by omega, by omega⟩
    rw [if_neg h0, if_neg h1] at h; cases h
  · by_cases h0 : i < 7 ∧ j < 2048
    · rw [if_pos h0] at h; cases h; exact ⟨Prod.ext rfl (Prod.ext (by simp only [dn] <;> omega) (by simp only [dn] <;> omega)), by omega, by omega⟩
    rw [if_neg h0] at h; cases h
  · by_cases h0 : i < 7 ∧ j < 2048
    · rw [if_pos h0] at h; cases h; exact ⟨Prod.ext rfl (Prod.ext (by simp only [dn] <;> omega) (by simp only [dn] <;> omega)), by omega, by omega⟩
    rw [if_neg h0] at h; cases h
  · by_cases h0 : i < 7 ∧ j < 2048
    · rw [if_pos h0] at h; cases h; exact ⟨Prod.ext rfl (Prod.ext (by simp only [dn] <;> omega) (by simp only [dn] <;> omega)), by omega, by omega⟩
    rw [if_neg h0] at h; cases h
  · by_cases h0 : i < 4 ∧ j = 0
    · rw [if_pos h0] at h; cases h; exact ⟨Prod.ext rfl (Prod.ext (by simp only [dn] <;> omega) (by simp only [dn] <;> omega)), by omega, by omega⟩
    rw [if_neg h0] at h; cases h
  · by_cases h0 : i < 4 ∧ j = 0
    · rw [if_pos h0] at h; cases h; exact ⟨Prod.ext rfl (Prod.ext (by simp only [dn] <;> omega) (by simp only [dn] <;> omega)), by omega, by omega⟩
    rw [if_neg h0] at h; cases h
  · by_cases h0 : i < 4 ∧ j = 0
    · rw [if_pos h0] at h; cases h; exact ⟨Prod.ext rfl (Prod.ext (by simp only [dn] <;> omega) (by simp only [dn] <;> omega)), by omega, by omega⟩
    rw [if_neg h0] at h; cases h
  · by_cases h0 : i < 4 ∧ j = 0
    · rw [if_pos h0] at h; cases h; exact ⟨Prod.ext rfl (Prod.ext (by simp only [dn] <;> omega) (by simp only [dn] <;> omega)), by omega, by omega⟩
    rw [if_neg h0] at h; cases h
  · by_cases h0 : i < 7 ∧ j = 0
    · rw [if_pos h0] at h; cases h; exact ⟨Prod.ext rfl (Prod.ext (by simp only [dn] <;> omega) (by simp only [dn] <;> omega)), by omega, by omega⟩
    by_cases h1 : 7 ≤ i ∧ i < 14 ∧ j = 0
    · rw [if_neg h0] at h; rw [if_pos h1] at h; cases h; exact ⟨Prod.ext rfl (Prod.ext (by simp only [dn] <;> omega) (by simp only [dn] <;> omega)), by omega, by omega⟩
    rw [if_neg h0, if_neg h1] at h; cases h
  · by_cases h0 : i < 7 ∧ j = 0
    · rw [if_pos h0] at h; cases h; exact ⟨Prod.ext rfl (Prod.ext (by simp only [dn] <;> omega) (by simp only [dn] <;> omega)), by omega, by omega⟩
    rw [if_neg h0] at h; cases h
  · cases h
theorem um_inj {f i j f' i' j' : Nat} {q : Nat × Nat} (h : um f i j = some q) (h' : um f' i' j' = some q) : f = f' ∧ i = i' ∧ j = j' := by
  obtain ⟨a, b⟩ := q
  have e := (dn_um h).1.symm.trans (dn_um h').1
  simp only [Prod.mk.injEq] at e
  exact e
/-- a write of the reference, in the shape of the class -/
theorem Ur_rp {ρ : RS} {a b f i j : Nat} {v : Int32} (h : um f i j = some (a, b)) : Ur (rp ρ a b v) = pt (Ur ρ) f i j v := by
  funext f' i' j'
  simp only [Ur, pt]
  by_cases e : f' = f ∧ i' = i ∧ j' = j
  · obtain ⟨rfl, rfl, rfl⟩ := e
    rw [h]
    simp [rp]
  · rw [if_neg e]
    cases hu : um f' i' j' with
    | none => rfl
    | some q =>
      simp only [rp]
      have : ¬ (q.1 = a ∧ q.2 = b) := fun hq => e (um_inj (by rw [hu]; exact congrArg some (Prod.ext hq.1 hq.2)) h)
      rw [if_neg this]
theorem Ur_rd {ρ : RS} {a b f i j : Nat} (h : um f i j = some (a, b)) : ρ.1 a b = Ur ρ f i j := by simp only [Ur]; rw [h]
theorem Ur_rn {ρ : RS} {a b : Nat} {v : Int32} (h : a = 0 ∨ 30 ≤ a) : Ur (rp ρ a b v) = Ur ρ := by
  funext f' i' j'
  simp only [Ur]
  cases hu : um f' i' j' with
  | none => rfl
  | some q =>
    have h1 := (dn_um (a := q.1) (b := q.2) hu).2
    simp only [rp]
    rw [if_neg (fun hq => by omega)]
theorem Ur_rh {ρ : RS} {v : Int64} : Ur (rh ρ v) = Ur ρ := rfl
/-- what the shape leaves out -/
def Xr (ρ : RS) : (Nat → Nat → Int32) × Int64 := (fun f j => if f = 0 ∨ 30 ≤ f then ρ.1 f j else 0, ρ.2)
theorem Xr_rp {ρ : RS} {a b : Nat} {v : Int32} (h : 1 ≤ a ∧ a ≤ 29) : Xr (rp ρ a b v) = Xr ρ := by
  simp only [Xr, rp]
  congr 1
  funext f j
  by_cases hf : f = 0 ∨ 30 ≤ f
  · rw [if_pos hf, if_pos hf, if_neg (fun hq => by omega)]
  · rw [if_neg hf, if_neg hf]
theorem Xr_rd {ρ ρ' : RS} (h : Xr ρ' = Xr ρ) {f j : Nat} (hf : f = 0 ∨ 30 ≤ f) : ρ'.1 f j = ρ.1 f j := by
  have h1 := congrFun (congrFun (congrArg Prod.fst h) f) j
  simp only [Xr, if_pos hf] at h1
  exact h1
theorem um_27 : um 5 0 0 = some (27, 0) := rfl
theorem um_1 : um 6 0 0 = some (1, 0) := rfl
theorem um_2 : um 7 0 0 = some (2, 0) := rfl
theorem um_3 : um 8 0 0 = some (3, 0) := rfl
theorem um_24 : um 9 0 0 = some (24, 0) := rfl
theorem um_25 : um 10 0 0 = some (25, 0) := rfl
theorem um_26 : um 11 0 0 = some (26, 0) := rfl
theorem um_4 {i : Nat} (h : i < 7) : um 25 i 0 = some (4, i) := by
  simp [um, h]
theorem um_5 {i : Nat} (h : i < 7) : um 26 i 0 = some (5, i) := by
  simp [um, h]
theorem um_6 {i : Nat} (h : i < 7) : um 27 i 0 = some (6, i) := by
  simp [um, h]
theorem um_7 {i : Nat} (h : i < 7) : um 28 i 0 = some (7, i) := by
  simp [um, h]
theorem um_18 {i : Nat} (h : i < 7) : um 29 i 0 = some (18, i) := by
  simp [um, h]
theorem um_14 {i : Nat} (h : i < 7) : um 83 i 0 = some (14, i) := by
  simp [um, h]
theorem um_21 {i : Nat} (h : i < 4) : um 50 i 0 = some (21, i) := by
  simp [um, h]
theorem um_22 {i : Nat} (h : i < 4) : um 51 i 0 = some (22, i) := by
  simp [um, h]
theorem um_20 {i : Nat} (h : i < 4) : um 52 i 0 = some (20, i) := by
  simp [um, h]
theorem um_23 {i : Nat} (h : i < 4) : um 53 i 0 = some (23, i) := by
  simp [um, h]
theorem um_8 {i : Nat} (h : i < 7) : um 60 i 0 = some (8, i) := by
  simp [um, h]
theorem um_11 {i : Nat} (h : i < 7) : um 60 (7 + i) 0 = some (11, i) := by
  simp [um, show 7 + i < 14 by omega]
theorem um_9 {i s : Nat} (h : i < 7) (hs : s < 4) : um 42 i s = some (9, 4 * i + s) := by
  simp [um, h, hs]
theorem um_12 {i s : Nat} (h : i < 7) (hs : s < 4) : um 42 (7 + i) s = some (12, 4 * i + s) := by
  simp [um, show 7 + i < 14 by omega, hs]
theorem um_10 {i s : Nat} (h : i < 7) (hs : s < 4) : um 43 i s = some (10, 4 * i + s) := by
  simp [um, h, hs]
theorem um_13 {i s : Nat} (h : i < 7) (hs : s < 4) : um 43 (7 + i) s = some (13, 4 * i + s) := by
  simp [um, show 7 + i < 14 by omega, hs]
theorem um_29 {s : Nat} (hs : s < 4) : um 42 14 s = some (29, s) := by
  simp [um, hs]
theorem um_19 {i s : Nat} (h : i < 7) (hs : s < 4) : um 41 i s = some (19, 4 * i + s) := by
  simp [um, h, hs]
theorem um_15 {i s : Nat} (h : i < 7) (hs : s < 2048) : um 44 i s = some (15, 2048 * i + s) := by
  simp [um, h, hs]
theorem um_16 {i s : Nat} (h : i < 7) (hs : s < 2048) : um 45 i s = some (16, 2048 * i + s) := by
  simp [um, h, hs]
theorem um_17 {i s : Nat} (h : i < 7) (hs : s < 2048) : um 46 i s = some (17, 2048 * i + s) := by
  simp [um, h, hs]
theorem um_28 {s : Nat} (hs : s < 60) : um 40 0 s = some (28, s) := by
  simp [um, hs]
/-! ===== one node of a state ===== -/
abbrev ND : Type := Nat → Nat → Int32
def nc (f : Nat) : Bool := decide ((25 ≤ f ∧ f ≤ 29) ∨ (41 ≤ f ∧ f ≤ 49) ∨ f = 60 ∨ f = 83)
def nd (σ : CS) (i : Nat) : ND := fun f j => if nc f = true then σ f i j else if 100 ≤ f ∧ nc (f - 100) = true then σ (f - 100) (7 + i) j else 0
def nu (n : ND) (f j : Nat) (v : Int32) : ND := fun f' j' => if f' = f ∧ j' = j then v else n f' j'
theorem nc_lt {f : Nat} (h : nc f = true) : f < 100 := by simp only [nc, decide_eq_true_eq] at h; omega
theorem nc_hi {f : Nat} (h : 100 ≤ f) : nc f = false := by simp only [nc, decide_eq_false_iff_not]; omega
theorem nd_a {σ : CS} {i f j : Nat} (h : nc f = true) : nd σ i f j = σ f i j := by simp only [nd, h, if_true]
theorem nd_b {σ : CS} {i f j : Nat} (h : nc f = true) : nd σ i (100 + f) j = σ f (7 + i) j := by
  simp only [nd]
  rw [if_neg (by rw [nc_hi (by omega)]; decide), if_pos ⟨by omega, by rw [Nat.add_sub_cancel_left]; exact h⟩, Nat.add_sub_cancel_left]
theorem nd_pa {σ : CS} {i f j : Nat} {v : Int32} (h : nc f = true) : nd (pt σ f i j v) i = nu (nd σ i) f j v := by
  funext f' j'
  simp only [nd, nu, pt]
  by_cases e : f' = f
  · subst e
    simp [h]
  · by_cases h1 : nc f' = true
    · simp [h1, e]
    · have h7 : ¬ (7 + i = i) := by omega
      simp [h1, e, h7]
theorem nd_pb {σ : CS} {i f j : Nat} {v : Int32} (h : nc f = true) : nd (pt σ f (7 + i) j v) i = nu (nd σ i) (100 + f) j v := by
  funext f' j'
  simp only [nd, nu, pt]
  have h7 : ¬ (i = 7 + i) := by omega
  by_cases h1 : nc f' = true
  · have := nc_lt h1
    have h2 : ¬ (f' = 100 + f) := by omega
    simp [h1, h2, h7]
  · by_cases e : f' = 100 + f
    · subst e
      simp [h1, h]
    · have h3 : ¬ (100 ≤ f' ∧ nc (f' - 100) = true ∧ f' - 100 = f) := by omega
      by_cases h4 : 100 ≤ f' ∧ nc (f' - 100) = true
      · have h5 : ¬ (f' - 100 = f) := fun q => h3 ⟨h4.1, h4.2, q⟩
        simp [h1, e, h4, h5]
      · simp [h1, e, h4]
theorem nd_pn {σ : CS} {i o f j : Nat} {v : Int32} (h : o ≠ i) (h' : o ≠ 7 + i) : nd (pt σ f o j v) i = nd σ i := by
  funext f' j'
  simp [nd, pt, Ne.symm h, Ne.symm h']
theorem nd_pf {σ : CS} {i o f j : Nat} {v : Int32} (h : nc f = false) : nd (pt σ f o j v) i = nd σ i := by
  funext f' j'
  simp only [nd, pt]
  by_cases h1 : nc f' = true
  · have : ¬ (f' = f) := fun e => by rw [e, h] at h1; cases h1
    simp [h1, this]
  · by_cases h2 : 100 ≤ f' ∧ nc (f' - 100) = true
    · have : ¬ (f' - 100 = f) := fun e => by rw [e, h] at h2; cases h2.2
      simp [h1, h2, this]
    · simp [h1, h2]
/-- only node k of the state differs -/
def Fr (k : Nat) (σ σ' : CS) : Prop := ∀ f o j, ¬ (nc f = true ∧ (o = k ∨ o = 7 + k)) → σ' f o j = σ f o j
theorem Fr.rf (k : Nat) (σ : CS) : Fr k σ σ := fun _ _ _ _ => rfl
theorem Fr.tr {k : Nat} {σ σ' σ'' : CS} (h : Fr k σ σ') (h' : Fr k σ' σ'') : Fr k σ σ'' := fun f o j hq => (h' f o j hq).trans (h f o j hq)
theorem Fr.pa {k f j : Nat} {σ : CS} {v : Int32} (h : nc f = true) : Fr k σ (pt σ f k j v) := fun f' o j' hq => by
  simp only [pt]
  rw [if_neg]
  rintro ⟨rfl, rfl, rfl⟩
  exact hq ⟨h, Or.inl rfl⟩
theorem Fr.pb {k f j : Nat} {σ : CS} {v : Int32} (h : nc f = true) : Fr k σ (pt σ f (7 + k) j v) := fun f' o j' hq => by
  simp only [pt]
  rw [if_neg]
  rintro ⟨rfl, rfl, rfl⟩
  exact hq ⟨h, Or.inr rfl⟩
theorem Fr.node {k i : Nat} {σ σ' : CS} (h : Fr k σ σ') (hi : i < 7) (hk : k < 7) (hne : i ≠ k) : nd σ' i = nd σ i := by
  funext f j
  simp only [nd]
  by_cases h1 : nc f = true
  · simp only [h1, if_true]; exact h f i j (fun q => by omega)
  · by_cases h2 : 100 ≤ f ∧ nc (f - 100) = true
    · simp only [h1, h2, if_true, and_self]; exact h (f - 100) (7 + i) j (fun q => by omega)
    · simp [h1, h2]
theorem Fr.o {k f o j : Nat} {σ σ' : CS} (h : Fr k σ σ') (hf : nc f = false) : σ' f o j = σ f o j := h f o j (fun q => by rw [hf] at q; cases q.1)
theorem Fr.s {k f j : Nat} {σ σ' : CS} (h : Fr k σ σ') (hk : k < 7) : σ' f 14 j = σ f 14 j := h f 14 j (fun q => by omega)
theorem nd_ext {σ σ' : CS} {i : Nat} (h1 : ∀ f j, nc f = true → σ' f i j = σ f i j) (h2 : ∀ f j, nc f = true → σ' f (7 + i) j = σ f (7 + i) j) : nd σ' i = nd σ i := by
  funext f j
  simp only [nd]
  by_cases h : nc f = true
  · simp only [h, if_true]; exact h1 f j h
  · by_cases h3 : 100 ≤ f ∧ nc (f - 100) = true
    · simp only [h, h3, if_true, and_self]; exact h2 _ j h3.2
    · simp [h, h3]
