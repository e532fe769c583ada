/-! ===== pure words: the state of the class as one function (field, object, place), that of the reference as one (field, place) beside its hash ===== -/
abbrev CS : Type := Nat → Nat → Nat → Int32
abbrev RS : Type := (Nat → Nat → Int32) × Int64
abbrev tn (x : Int32) : Nat := x.toNatClampNeg
def pt (σ : CS) (f i j : Nat) (v : Int32) : CS := fun f' i' j' => if f' = f ∧ i' = i ∧ j' = j then v else σ f' i' j'
def rp (ρ : RS) (f j : Nat) (v : Int32) : RS := (fun f' j' => if f' = f ∧ j' = j then v else ρ.1 f' j', ρ.2)
def rh (ρ : RS) (v : Int64) : RS := (ρ.1, v)
/-- fill: the first n places -/
def pf (σ : CS) (f i n : Nat) (v : Int32) : CS := fun f' i' j' => if f' = f ∧ i' = i ∧ j' < n then v else σ f' i' j'
/-- copy: n places of row (f2, i2) into row (f, i) -/
def pcp (σ : CS) (f i f2 i2 n : Nat) : CS := fun f' i' j' => if f' = f ∧ i' = i ∧ j' < n then σ f2 i2 j' else σ f' i' j'
def lt {α β : Type} (a : α) (k : α → β) : β := k a
def gd {β : Type} (b : Bool) (x : Option β) : Option β := if b = true then x else none
def bd {S T U : Type} (o : Option (S × T)) (k : S → T → Option U) : Option U := match o with
  | some (a, b) => k a b
  | none => none
def bx {S T U : Type} (o : Option (S × (T ⊕ Nat))) (k : S → T → Option (S × (U ⊕ Nat))) : Option (S × (U ⊕ Nat)) := match o with
  | some (a, .inl b) => k a b
  | some (a, .inr e) => some (a, .inr e)
  | none => none
/-- a place of a row -/
def inb (i : Int32) (n : Nat) : Bool := decide (¬ (i < 0 ∨ n ≤ i.toNatClampNeg))
/-- a boolean -/
def isb (v : Int32) : Bool := decide (v = 0 ∨ v = 1)
def fok (r : UInt32) : Bool := decide (r &&& 0x7fffffff ≤ 0x7f800000)
def dok (r : UInt64) : Bool := decide (r &&& 0x7fffffffffffffff ≤ 0x7ff0000000000000)
theorem lt_e {α β : Type} {a : α} {k : α → β} {r : β} (h : lt a k = r) : ∀ y, y = a → k y = r := fun y e => by rw [e]; exact h
theorem gd_e {β : Type} {b : Bool} {x : Option β} {r : β} (h : gd b x = some r) : b = true ∧ x = some r := by
  cases b with
  | true => exact ⟨rfl, h⟩
  | false => exact absurd h (by simp [gd])
theorem bd_e {S T U : Type} {o : Option (S × T)} {k : S → T → Option U} {r : U} (h : bd o k = some r) : ∃ a b, o = some (a, b) ∧ k a b = some r := by
  match o, h with
  | some (a, b), h => exact ⟨a, b, rfl, h⟩
theorem bx_e {S T U : Type} {o : Option (S × (T ⊕ Nat))} {k : S → T → Option (S × (U ⊕ Nat))} {r : S × (U ⊕ Nat)} (h : bx o k = some r) : (∃ a b, o = some (a, .inl b) ∧ k a b = some r) ∨ ∃ a e, o = some (a, .inr e) ∧ some (a, .inr e) = some r := by
  match o, h with
  | some (a, .inl b), h => exact Or.inl ⟨a, b, rfl, h⟩
  | some (a, .inr e), h => exact Or.inr ⟨a, e, rfl, h⟩
theorem it_t {α : Type} {c : Prop} [Decidable c] {a b r : α} (hc : c) (h : ite c a b = r) : a = r := by rw [if_pos hc] at h; exact h
theorem it_f {α : Type} {c : Prop} [Decidable c] {a b r : α} (hc : ¬ c) (h : ite c a b = r) : b = r := by rw [if_neg hc] at h; exact h
theorem inb_in {i : Int32} {n : Nat} (h : inb i n = true) : vp_in i n := of_decide_eq_true (p := ¬ (i < 0 ∨ n ≤ i.toNatClampNeg)) h
theorem inb_lt {i : Int32} {n : Nat} (h : inb i n = true) : tn i < n := Nat.not_le.mp fun q => (of_decide_eq_true h) (Or.inr q)
theorem isb_or {v : Int32} (h : isb v = true) : v = 0 ∨ v = 1 := of_decide_eq_true h
theorem isb_n {v : Int32} (h : isb v = true) : narrow .boolean (.int v) = .int v := by
  rcases isb_or h with rfl | rfl <;> rfl
theorem isb_f {v : Int32} (h : isb v = true) : fits .boolean (.int v) = true := by
  rcases isb_or h with rfl | rfl <;> rfl
theorem fok_n {r : UInt32} (h : fok r = true) : vf_n32 r := of_decide_eq_true (p := r &&& 0x7fffffff ≤ 0x7f800000) h
theorem dok_n {r : UInt64} (h : dok r = true) : vf_n64 r := of_decide_eq_true (p := r &&& 0x7fffffffffffffff ≤ 0x7ff0000000000000) h
section LOO
variable {A0 A1 A2 A3 A4 A5 A6 A7 A8 R : Type}
def lo1 (step : (A1 → Option R) → A1 → Option R) : Nat → A1 → Option R
  | 0, _ => none
  | f + 1, a => step (lo1 step f) a
def lo2 (step : (A1 → A2 → Option R) → A1 → A2 → Option R) : Nat → A1 → A2 → Option R
  | 0, _, _ => none
  | f + 1, a, b => step (lo2 step f) a b
def lo3 (step : (A1 → A2 → A3 → Option R) → A1 → A2 → A3 → Option R) : Nat → A1 → A2 → A3 → Option R
  | 0, _, _, _ => none
  | f + 1, a, b, c => step (lo3 step f) a b c
def lo4 (step : (A1 → A2 → A3 → A4 → Option R) → A1 → A2 → A3 → A4 → Option R) : Nat → A1 → A2 → A3 → A4 → Option R
  | 0, _, _, _, _ => none
  | f + 1, a, b, c, d => step (lo4 step f) a b c d
def lo5 (step : (A1 → A2 → A3 → A4 → A5 → Option R) → A1 → A2 → A3 → A4 → A5 → Option R) : Nat → A1 → A2 → A3 → A4 → A5 → Option R
  | 0, _, _, _, _, _ => none
  | f + 1, a, b, c, d, e => step (lo5 step f) a b c d e
def lo6 (step : (A1 → A2 → A3 → A4 → A5 → A6 → Option R) → A1 → A2 → A3 → A4 → A5 → A6 → Option R) : Nat → A1 → A2 → A3 → A4 → A5 → A6 → Option R
  | 0, _, _, _, _, _, _ => none
  | f + 1, a, b, c, d, e, g => step (lo6 step f) a b c d e g
def lo7 (step : (A1 → A2 → A3 → A4 → A5 → A6 → A7 → Option R) → A1 → A2 → A3 → A4 → A5 → A6 → A7 → Option R) : Nat → A1 → A2 → A3 → A4 → A5 → A6 → A7 → Option R
  | 0, _, _, _, _, _, _, _ => none
  | f + 1, a, b, c, d, e, g, h => step (lo7 step f) a b c d e g h
end LOO
theorem pt_ne {σ : CS} {f i j f' : Nat} {v : Int32} (h : f' ≠ f) : pt σ f i j v f' = σ f' := by
  funext i' j'; simp [pt, h]
theorem pt_ni {σ : CS} {f i j f' i' : Nat} {v : Int32} (h : i' ≠ i) : pt σ f i j v f' i' = σ f' i' := by
  funext j'; simp [pt, h]
theorem pt_self {σ : CS} {f i j : Nat} {v : Int32} : pt σ f i j v f i j = v := by simp [pt]
theorem pt_upd {σ : CS} {f i j : Nat} {v : Int32} : pt σ f i j v f i = upd (σ f i) j v := by
  funext j'; by_cases h : j' = j <;> simp [pt, upd, h]
