/-! ===== the reader of events, on both sides ===== -/
def Rf (σ σ' : CS) : Prop := ∀ f o j, ¬ (70 ≤ f ∧ f ≤ 76 ∧ o = 0 ∧ j = 0) → σ' f o j = σ f o j
theorem Rf.rfl {σ : CS} : Rf σ σ := fun _ _ _ _ => Eq.refl _
theorem Rf.w {σ σ' : CS} {f : Nat} {v : Int32} (h : Rf σ σ') (h1 : 70 ≤ f) (h2 : f ≤ 76) : Rf σ (pt σ' f 0 0 v) := fun f' o j q => by
  simp only [pt]
  rw [if_neg (by omega)]
  exact h f' o j q
theorem Rf.trans {a b d : CS} (h : Rf a b) (h' : Rf b d) : Rf a d := fun f o j q => (h' f o j q).trans (h f o j q)
theorem Jc.rf {c N M L : Nat} {σ σ' : CS} {ρ : RS} (h : Jc c N M L σ ρ) (q : Rf σ σ') : Jc c N M L σ' ρ :=
  ⟨h.1.cg (fun f j _ => q f 0 j (by omega)) (fun _ _ _ => Eq.refl _), h.2.1.cg (fun i hi => nd_ext (fun f j hf => q f i j (by have := nc_lt hf; simp only [nc, decide_eq_true_eq] at hf; omega)) (fun f j _ => q f (7 + i) j (by omega))) (fun _ _ => Eq.refl _) (fun _ => Nat.le_refl _), fun s hs => (h.2.2 s hs).cg (fun f _ _ => q f s 0 (by omega)) (fun _ _ _ => Eq.refl _)⟩
def Pf (ρ ρ' : RS) : Prop := Ur ρ' = Ur ρ ∧ ρ'.1 0 0 = ρ.1 0 0
theorem Pf.rfl {ρ : RS} : Pf ρ ρ := ⟨Eq.refl _, Eq.refl _⟩
theorem Pf.w {ρ ρ' : RS} {f j : Nat} {v : Int32} (h : Pf ρ ρ') (h1 : 30 ≤ f) : Pf ρ (rp ρ' f j v) := ⟨(Ur_rn (Or.inr h1)).trans h.1, (rp_n2 (by omega)).trans h.2⟩
theorem Pf.trans {a b d : RS} (h : Pf a b) (h' : Pf b d) : Pf a d := ⟨h'.1.trans h.1, h'.2.trans h.2⟩
theorem Jc.pf {c N M L : Nat} {σ : CS} {ρ ρ' : RS} (h : Jc c N M L σ ρ) (q : Pf ρ ρ') : Jc c N M L σ ρ' := by
  unfold Jc
  rw [q.1]
  exact h
def HL (l : Nat) : Prop := l = 97 ∨ l = 99 ∨ l = 102 ∨ l = 106 ∨ l = 112 ∨ l = 114 ∨ l = 119
def hi (m : Nat) : Int32 := if m = 0 then -1 else nI m.log2
theorem rb1 : ∀ m, m < 128 → ∀ d, d < 7 → ((nI m >>> (nI d &&& 31) = 0) ↔ ¬ nI d ≤ hi m) := by decide +kernel
theorem rb2 : ∀ m, m < 128 → ∀ d, d < 7 → nI m >>> (nI d &&& 31) = 0 → (nI m ||| ((1 : Int32) <<< (nI d &&& 31))) = nI (m ||| 2 ^ d) ∧ hi (m ||| 2 ^ d) = nI d ∧ m ||| 2 ^ d ≠ 0 := by decide +kernel
theorem hi_m1 : ∀ m, m < 128 → m ≠ 0 → ¬ hi m = -1 := by decide +kernel
theorem rb3 {m d N : Nat} (hm : m < 2 ^ N) (hd : d < N) : m ||| 2 ^ d < 2 ^ N := Nat.or_lt_two_pow hm (Nat.pow_lt_pow_right (by decide) hd)
/-- reader and parser at the same place -/
def Qr (N M : Nat) (σ : CS) (ρ : RS) (e p : Nat) : Prop :=
  σ 76 0 0 = nI p ∧ ρ.1 31 0 = nI e ∧ (p = 0 ∧ ρ.1 30 0 = nI 0 ∨ ∃ l m, 1 ≤ p ∧ HL l ∧ σ 70 0 0 = nI l ∧ ρ.1 32 (5 * e) = nI l ∧ m < 2 ^ N ∧ σ 74 0 0 = nI m ∧ ρ.1 32 (5 * e + 4) = nI m ∧ ρ.1 33 0 = hi m ∧ (p = 8 → m ≠ 0) ∧ (p ≠ 8 → m = 0) ∧
    (p = 1 ∧ ρ.1 30 0 = nI 1 ∨ ∃ k, k < N ∧ σ 71 0 0 = nI k ∧ ρ.1 32 (5 * e + 1) = nI k ∧
      (p = 2 ∧ l = 97 ∧ ρ.1 30 0 = nI 2 ∨ p = 3 ∧ l = 97 ∧ ρ.1 30 0 = nI 3 ∨ p = 9 ∧ l = 99 ∧ ρ.1 30 0 = nI 2 ∨ p = 10 ∧ l = 99 ∧ ρ.1 30 0 = nI 8 ∨
       p = 11 ∧ l = 99 ∧ ρ.1 30 0 = nI 9 ∧ (∃ v, v ≤ 9 ∧ σ 75 0 0 = nI v ∧ ρ.1 32 (5 * e + 3) = nI v) ∨ p = 11 ∧ (l = 102 ∨ l = 114 ∨ l = 119) ∧ ρ.1 30 0 = nI 9 ∨
       p = 6 ∧ (l = 106 ∨ l = 112) ∧ ρ.1 30 0 = nI 2 ∨ (p = 7 ∨ p = 8) ∧ (l = 106 ∨ l = 112) ∧ ρ.1 30 0 = nI 7 ∨
       ∃ s, l = 97 ∧ s < M ∧ σ 72 0 0 = nI s ∧ ρ.1 32 (5 * e + 2) = nI s ∧ (p = 4 ∧ ρ.1 30 0 = nI 4 ∨ p = 5 ∧ ρ.1 30 0 = nI 5 ∨
         ∃ v, v ≤ 9 ∧ σ 73 0 0 = nI v ∧ ρ.1 32 (5 * e + 3) = nI v ∧ (p = 6 ∧ ρ.1 30 0 = nI 6 ∨ (p = 7 ∨ p = 8) ∧ ρ.1 30 0 = nI 7)))))
theorem Qr.cg {N M e p : Nat} {σ σ' : CS} {ρ : RS} (h : Qr N M σ ρ e p) (q : ∀ f, 70 ≤ f → f ≤ 76 → σ' f 0 0 = σ f 0 0) : Qr N M σ' ρ e p := by
  unfold Qr
  rw [q 76 (by decide) (by decide), q 70 (by decide) (by decide), q 71 (by decide) (by decide), q 72 (by decide) (by decide), q 73 (by decide) (by decide), q 74 (by decide) (by decide), q 75 (by decide) (by decide)]
  exact h
def TK (N M a e p : Nat) (σ : CS) (ρ : RS) : Prop := ∃ σ' ρ' r, F_X2_takes σ (nI a) (nI N) (nI M) = some (σ', r) ∧ F_X6_takes ρ (nI a) = some (ρ', r) ∧ Rf σ σ' ∧ Pf ρ ρ' ∧ (r = 0 ∨ (r = 1 ∧ ∃ e' p', Qr N M σ' ρ' e' p' ∧ (∀ j, j < 5 * e' → ρ'.1 32 j = ρ.1 32 j) ∧ ((a = 59 ∧ (p = 8 ∨ p = 11) ∧ e' = e + 1 ∧ p' = 0) ∨ (a ≠ 59 ∧ e' = e ∧ 1 ≤ p' ∧ (p = 0 → p' = 1)))))
theorem TK.bad {N M a e p : Nat} {σ σ' : CS} {ρ ρ' : RS} (h1 : F_X2_takes σ (nI a) (nI N) (nI M) = some (σ', 0)) (h2 : F_X6_takes ρ (nI a) = some (ρ', 0)) (h3 : Rf σ σ') (h4 : Pf ρ ρ') : TK N M a e p σ ρ := ⟨σ', ρ', 0, h1, h2, h3, h4, Or.inl rfl⟩
theorem TK.go {N M a e p p' : Nat} {σ σ' : CS} {ρ ρ' : RS} (h1 : F_X2_takes σ (nI a) (nI N) (nI M) = some (σ', 1)) (h2 : F_X6_takes ρ (nI a) = some (ρ', 1)) (h3 : Rf σ σ') (h4 : Pf ρ ρ') (hQ : Qr N M σ' ρ' e p') (ht : ∀ j, j < 5 * e → ρ'.1 32 j = ρ.1 32 j) (ha : a ≠ 59) (hp : 1 ≤ p') (h0 : p = 0 → p' = 1) : TK N M a e p σ ρ := ⟨σ', ρ', 1, h1, h2, h3, h4, Or.inr ⟨rfl, e, p', hQ, ht, Or.inr ⟨ha, rfl, hp, h0⟩⟩⟩
theorem go1 {σ : CS} {x : Int32} : F_X2_goesOn σ 1 x = some (pt σ 76 0 0 x, 1) := rfl
theorem go0 {σ : CS} {x : Int32} : F_X2_goesOn σ 0 x = some (σ, 0) := rfl
theorem gr1 {ρ : RS} {x : Int32} : F_X6_go ρ 1 x = some (rp ρ 30 0 x, 1) := rfl
theorem gr0 {ρ : RS} {x : Int32} : F_X6_go ρ 0 x = some (rp ρ 30 0 (ρ.1 30 0), 0) := rfl
theorem m5 (e : Nat) : (5 : Int32) * nI e = nI (5 * e) := pk_mul 5 e
theorem put_r {ρ : RS} {e f : Nat} {v : Int32} (h : ρ.1 31 0 = nI e) (he : 5 * e + f < 150) : F_X6_put ρ (nI f) v = some (rp ρ 32 (5 * e + f) v, ()) := by
  unfold F_X6_put
  rw [h, m5, nI_add, gd_inb he (by decide), lt_eq, tn_nI (by omega)]
theorem neg48 : ∀ a, a < 48 → nI a - 48 < 0 := by decide +kernel
theorem sub48 {a : Nat} (h : 48 ≤ a) : nI a - 48 = nI (a - 48) := tn_sub (b := 48) h
theorem dig_y {σ : CS} {a n : Nat} (h1 : 48 ≤ a) (h2 : a < 48 + n) (hn : n < 100) : F_X2_digit σ (nI a) (nI n) = some (σ, nI (a - 48)) := by
  unfold F_X2_digit
  rw [lt_eq, sub48 h1, if_neg (nI_pos (by omega)), if_neg (nI_ge (by omega) (by omega))]
theorem dig_n {σ : CS} {a n : Nat} (h : ¬ (48 ≤ a ∧ a < 48 + n)) (ha : a < 127) : F_X2_digit σ (nI a) (nI n) = some (σ, -1) := by
  unfold F_X2_digit B_X2_digit_18
  rw [lt_eq]
  by_cases h1 : a < 48
  · rw [if_pos (neg48 a h1)]
  · rw [sub48 (by omega), if_neg (nI_pos (by omega)), if_pos (nI_le (by omega) (by omega))]
theorem wd_y {ρ : RS} {a : Nat} (h1 : 48 ≤ a) (h2 : a < 58) : F_X6_within ρ (nI a) 48 57 = some (ρ, 1) := (wi_r (a := 48) (b := 57) (by decide)).1 a h1 (by omega) rfl
theorem wd_n {ρ : RS} {a : Nat} (h : ¬ (48 ≤ a ∧ a < 58)) (ha : a < 127) : F_X6_within ρ (nI a) 48 57 = some (ρ, 0) := (wi_r (a := 48) (b := 57) (by decide)).2 (by
  by_cases h1 : a < 48
  · exact Or.inl (nI_lt h1 (by decide))
  · exact Or.inr (nI_lt (by omega) (by omega)))
theorem isn_y {ρ : RS} {a N : Nat} (d1 : ρ.1 1 0 = nI N) (hN : N ≤ 7) (h1 : 48 ≤ a) (h2 : a < 48 + N) : F_X6_isNode ρ (nI a - 48) = some (ρ, 1) := by
  rw [sub48 h1]
  exact (ndr d1 (by omega) hN).1 (a - 48) (by omega) rfl
theorem isn_n {ρ : RS} {a N : Nat} (d1 : ρ.1 1 0 = nI N) (h3 : 0 < N) (hN : N ≤ 7) (h : ¬ (48 ≤ a ∧ a < 48 + N)) (ha : a < 127) : F_X6_isNode ρ (nI a - 48) = some (ρ, 0) := (ndr d1 h3 hN).2 (by
  by_cases h1 : a < 48
  · exact Or.inl (neg48 a h1)
  · exact Or.inr (by rw [sub48 (by omega)]; exact nI_le (by omega) (by omega)))
theorem iss_y {ρ : RS} {a M : Nat} (d2 : ρ.1 2 0 = nI M) (hM : M ≤ 4) (h1 : 48 ≤ a) (h2 : a < 48 + M) : F_X6_isSlot ρ (nI a - 48) = some (ρ, 1) := by
  rw [sub48 h1]
  exact (slr d2 (by omega) hM).1 (a - 48) (by omega) rfl
theorem iss_n {ρ : RS} {a M : Nat} (d2 : ρ.1 2 0 = nI M) (h3 : 0 < M) (hM : M ≤ 4) (h : ¬ (48 ≤ a ∧ a < 48 + M)) (ha : a < 127) : F_X6_isSlot ρ (nI a - 48) = some (ρ, 0) := (slr d2 h3 hM).2 (by
  by_cases h1 : a < 48
  · exact Or.inl (neg48 a h1)
  · exact Or.inr (by rw [sub48 (by omega)]; exact nI_le (by omega) (by omega)))
theorem ite_w {α : Type} {c : Prop} [Decidable c] {a b r : α} (h1 : c → a = r) (h2 : ¬ c → b = r) : ite c a b = r := by
  by_cases h : c
  · rw [if_pos h]; exact h1 h
  · rw [if_neg h]; exact h2 h
theorem nI_ne {a b : Nat} (ha : a < 127) (hb : b < 127) (h : a ≠ b) : ¬ nI a = nI b := fun e => h (nI_inj (by omega) (by omega) e)
theorem let_y {σ : CS} {a : Nat} (h : HL a) : F_X2_isLetter σ (nI a) = some (σ, 1) := by
  rcases h with rfl | rfl | rfl | rfl | rfl | rfl | rfl <;> rfl
theorem let_n {σ : CS} {a : Nat} (h : ¬ HL a) (ha : a < 127) : F_X2_isLetter σ (nI a) = some (σ, 0) := by
  have q : ∀ l, HL l → ¬ nI a = nI l := fun l hl => nI_ne ha (by unfold HL at hl; omega) (fun e => h (e ▸ hl))
  unfold F_X2_isLetter
  refine ite_w (fun e => absurd (show nI a = nI 97 from e) (q 97 (by unfold HL; omega))) (fun _ => ?_)
  refine ite_w (fun _ => rfl) (fun _ => ?_)
  refine ite_w (fun e => absurd (show nI a = nI 99 from e) (q 99 (by unfold HL; omega))) (fun _ => ?_)
  refine ite_w (fun _ => rfl) (fun _ => ?_)
  refine ite_w (fun _ => rfl) (fun _ => ?_)
  refine ite_w (fun e => absurd (show nI a = nI 102 from e) (q 102 (by unfold HL; omega))) (fun _ => ?_)
  refine ite_w (fun _ => rfl) (fun _ => ?_)
  refine ite_w (fun _ => rfl) (fun _ => ?_)
  refine ite_w (fun _ => rfl) (fun _ => ?_)
  refine ite_w (fun e => absurd (show nI a = nI 106 from e) (q 106 (by unfold HL; omega))) (fun _ => ?_)
  refine ite_w (fun _ => rfl) (fun _ => ?_)
  refine ite_w (fun _ => rfl) (fun _ => ?_)
  refine ite_w (fun _ => rfl) (fun _ => ?_)
  refine ite_w (fun _ => rfl) (fun _ => ?_)
  refine ite_w (fun _ => rfl) (fun _ => ?_)
  refine ite_w (fun e => absurd (show nI a = nI 112 from e) (q 112 (by unfold HL; omega))) (fun _ => ?_)
  refine ite_w (fun _ => rfl) (fun _ => ?_)
  refine ite_w (fun e => absurd (show nI a = nI 114 from e) (q 114 (by unfold HL; omega))) (fun _ => ?_)
  refine ite_w (fun _ => rfl) (fun _ => ?_)
  refine ite_w (fun _ => rfl) (fun _ => ?_)
  refine ite_w (fun _ => rfl) (fun _ => ?_)
  refine ite_w (fun _ => rfl) (fun _ => ?_)
  refine ite_w (fun e => absurd (show nI a = nI 119 from e) (q 119 (by unfold HL; omega))) (fun _ => ?_)
  rfl
theorem beg_y {ρ : RS} {a : Nat} (h : HL a) : F_X6_begins ρ (nI a) = B_X6_begins_47 (nI a) ρ 1 := by
  rcases h with rfl | rfl | rfl | rfl | rfl | rfl | rfl <;> rfl
theorem beg_n {ρ : RS} {a : Nat} (h : ¬ HL a) (ha : a < 127) : F_X6_begins ρ (nI a) = B_X6_begins_47 (nI a) ρ 0 := by
  have q : ∀ l, HL l → ¬ nI a = nI l := fun l hl => nI_ne ha (by unfold HL at hl; omega) (fun e => h (e ▸ hl))
  unfold F_X6_begins
  rw [if_neg (show ¬ nI a = (112 : Int32) from q 112 (by unfold HL; omega)), if_neg (show ¬ nI a = (97 : Int32) from q 97 (by unfold HL; omega)), if_neg (show ¬ nI a = (102 : Int32) from q 102 (by unfold HL; omega)), if_neg (show ¬ nI a = (99 : Int32) from q 99 (by unfold HL; omega)), if_neg (show ¬ nI a = (119 : Int32) from q 119 (by unfold HL; omega)), if_neg (show ¬ nI a = (114 : Int32) from q 114 (by unfold HL; omega)), if_neg (show ¬ nI a = (106 : Int32) from q 106 (by unfold HL; omega))]
/-- no end here -/
theorem tks {ρ : RS} {x : Int32} (h : F_X6_mayEnd ρ = some (ρ, 0) ∨ ¬ x = 59) : F_X6_takes ρ x = B_X6_takes_30 x ρ := by
  unfold F_X6_takes
  by_cases e : x = 59
  · rw [if_pos e, h.resolve_right (fun q => q e), bd_s, if_pos rfl]
  · rw [if_neg e]
theorem mE {ρ : RS} {q : Nat} (h : ρ.1 30 0 = nI q) (h9 : q < 9) (h7 : q ≠ 7) : F_X6_mayEnd ρ = some (ρ, 0) := by
  unfold F_X6_mayEnd B_X6_mayEnd_30
  rw [h, if_neg (show ¬ nI q = (9 : Int32) from nI_ne (b := 9) (by omega) (by decide) (by omega)), if_neg (show ¬ nI q = (7 : Int32) from nI_ne (b := 7) (by omega) (by decide) h7)]
section ONE
variable {N M a e : Nat} {σ : CS} {ρ : RS}
theorem tk_0 (ha : a < 127) (h76 : σ 76 0 0 = nI 0) (h31 : ρ.1 31 0 = nI e) (he : 5 * e + 4 < 150) (h30 : ρ.1 30 0 = nI 0) : TK N M a e 0 σ ρ := by
  have c0 : F_X2_takes σ (nI a) (nI N) (nI M) = bd (F_X2_takesLetter σ (nI a)) fun σ103 r104 => gd (isb r104) (some (σ103, r104)) := by
    unfold F_X2_takes; rw [lt_eq, h76]; rfl
  have r0 : F_X6_takes ρ (nI a) = bd (F_X6_begins ρ (nI a)) fun σ111 r112 => gd (isb r112) (some (σ111, r112)) := by
    rw [tks (Or.inl (mE h30 (by decide) (by decide)))]
    unfold B_X6_takes_30; rw [lt_eq, h30]; rfl
  have pu : ∀ w, B_X6_begins_47 (nI a) ρ w = bd (F_X6_go (rp (rp (rp ρ 32 (5 * e + 0) (nI a)) 32 (5 * e + 4) 0) 33 0 (-1)) w 1) fun σ113 r114 => gd (isb r114) (some (σ113, r114)) := fun w => by
    unfold B_X6_begins_47
    rw [show F_X6_put ρ (0 : Int32) (nI a) = some (rp ρ 32 (5 * e + 0) (nI a), ()) from put_r (f := 0) h31 (by omega), bd_s, show F_X6_put (rp ρ 32 (5 * e + 0) (nI a)) (4 : Int32) 0 = some (rp (rp ρ 32 (5 * e + 0) (nI a)) 32 (5 * e + 4) 0, ()) from put_r (f := 4) (by rw [rp_n2 (by decide)]; exact h31) (by omega), bd_s, lt_eq]
  unfold F_X2_takesLetter at c0
  rw [lt_eq, lt_eq] at c0
  by_cases hl : HL a
  · rw [let_y hl, bd_s, go1, bd_s] at c0
    rw [beg_y hl, pu, gr1, bd_s] at r0
    refine TK.go (p' := 1) c0 r0 (((Rf.rfl.w (by decide) (by decide)).w (by decide) (by decide)).w (by decide) (by decide)) ((((Pf.rfl.w (by decide)).w (by decide)).w (by decide)).w (by decide)) ⟨by simp [pt]; rfl, by simp [rp]; exact h31, Or.inr ⟨a, 0, by decide, hl, by simp [pt], by simp [rp], Nat.two_pow_pos N, by simp [pt]; rfl, by simp [rp]; rfl, by simp [rp]; rfl, by omega, fun _ => rfl, Or.inl ⟨rfl, by simp [rp]; rfl⟩⟩⟩ (fun j hj => by simp [rp]; rw [if_neg (by omega), if_neg (by omega)]) (fun q => by unfold HL at hl; omega) (by decide) (fun _ => rfl)
  · rw [let_n hl ha, bd_s, go0, bd_s] at c0
    rw [beg_n hl ha, pu, gr0, bd_s] at r0
    exact TK.bad c0 r0 ((Rf.rfl.w (by decide) (by decide)).w (by decide) (by decide)) ((((Pf.rfl.w (by decide)).w (by decide)).w (by decide)).w (by decide))
end ONE
