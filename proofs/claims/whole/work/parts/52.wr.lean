/-! ===== a write is added to a node ===== -/
def cap (C : Nat) : Prop := C = 8 ∨ C = 16 ∨ C = 32 ∨ C = 64 ∨ C = 128 ∨ C = 256 ∨ C = 512
/-- node n' is node n with one more write: slot x, ballot b, value v; in the view too -/
def WrN (n : ND) (z : Nat) (x b v : Int32) (n' : ND) : Prop := (∀ j, j < z → n' 44 j = n 44 j ∧ n' 45 j = n 45 j ∧ n' 46 j = n 46 j) ∧ n' 44 z = x ∧ n' 45 z = b ∧ n' 46 z = v ∧ n' 83 0 = nI (z + 1) ∧ n' 160 0 = b ∧ (∀ s, s < 4 → n' 142 s = (if x = nI s then b else n 142 s) ∧ n' 143 s = (if x = nI s then v else n 143 s)) ∧ ∀ f j, (f < 44 ∨ 49 < f) → f ≠ 83 → f ≠ 160 → f ≠ 142 → f ≠ 143 → n' f j = n f j
theorem add_ok {σ : CS} {k z C : Nat} {x b v : Int32} (hz : σ 83 k 0 = nI z) (hzC : z < C) (hC : C ≤ 512) (h47 : σ 47 k 0 = nI C) (h48 : σ 48 k 0 = nI C) (h49 : σ 49 k 0 = nI C) : B_X4_add_27 k x b v σ = some (pt (pt (pt (pt σ 44 k z x) 45 k z b) 46 k z v) 83 k 0 (nI (z + 1)), ()) := by
  unfold B_X4_add_27
  simp only [lt_eq, hz, h47, tn_nI (show C < 2 ^ 31 by omega), tn_nI (show z < 2 ^ 31 by omega)]
  rw [gd_inb hzC (by omega)]
  have e1 : pt σ 44 k z x 83 k 0 = nI z := by simp [pt, hz]
  have e2 : pt σ 44 k z x 48 k 0 = nI C := by simp [pt, h48]
  rw [e1, e2, tn_nI (show C < 2 ^ 31 by omega), tn_nI (show z < 2 ^ 31 by omega), gd_inb hzC (by omega)]
  have e3 : pt (pt σ 44 k z x) 45 k z b 83 k 0 = nI z := by simp [pt, hz]
  have e4 : pt (pt σ 44 k z x) 45 k z b 49 k 0 = nI C := by simp [pt, h49]
  rw [e3, e4, tn_nI (show C < 2 ^ 31 by omega), tn_nI (show z < 2 ^ 31 by omega), gd_inb hzC (by omega)]
  have e5 : pt (pt (pt σ 44 k z x) 45 k z b) 46 k z v 83 k 0 = nI z := by simp [pt, hz]
  rw [e5, nI_1]
/-- the rows may have grown -/
def Gr (k z : Nat) (σ a : CS) : Prop := ∃ C', cap C' ∧ z < C' ∧ a 47 k 0 = nI C' ∧ a 48 k 0 = nI C' ∧ a 49 k 0 = nI C' ∧ a 83 k 0 = nI z ∧ (∀ j, j < z → a 44 k j = σ 44 k j ∧ a 45 k j = σ 45 k j ∧ a 46 k j = σ 46 k j) ∧ ∀ f o j, ¬ (o = k ∧ 44 ≤ f ∧ f ≤ 49) → a f o j = σ f o j
theorem grow_ok {σ : CS} {k z C : Nat} (hz : σ 83 k 0 = nI z) (hzC : z ≤ C) (hC : cap C) (hz5 : z < 512) (h47 : σ 47 k 0 = nI C) (h48 : σ 48 k 0 = nI C) (h49 : σ 49 k 0 = nI C) {x b v : Int32} : ∃ a, F_X4_add σ k x b v = B_X4_add_27 k x b v a ∧ Gr k z σ a := by
  have hC5 : C ≤ 512 := by unfold cap at hC; omega
  unfold F_X4_add
  rw [hz, if_pos (show nI z < (512 : Int32) from nI_lt hz5 (by decide)), h47, tn_nI (show C < 2 ^ 31 by omega)]
  by_cases hlt : z < C
  · rw [if_pos (nI_lt hlt (by omega))]
    exact ⟨σ, rfl, C, hC, hlt, h47, h48, h49, hz, fun j hj => ⟨rfl, rfl, rfl⟩, fun f o j _ => rfl⟩
  · have e : z = C := by omega
    subst e
    rw [if_neg (nI_nlt (Nat.le_refl z) (by omega))]
    have hg : F_X4_grow σ k = some (pgr (pgr (pgr σ 44 47 k) 45 48 k) 46 49 k, ()) := by
      unfold F_X4_grow
      rw [h47, h48, h49, tn_nI (show z < 2 ^ 31 by omega)]
      rw [decide_eq_true (show z ≤ 256 ∧ z = z ∧ z = z ∧ 0 < z by unfold cap at hC; omega)]
      rfl
    rw [hg, bd_s]
    have t47 : tn (σ 47 k 0) = z := by rw [h47]; exact tn_nI (by omega)
    have t48 : tn (σ 48 k 0) = z := by rw [h48]; exact tn_nI (by omega)
    have t49 : tn (σ 49 k 0) = z := by rw [h49]; exact tn_nI (by omega)
    have s48 : tn (pgr σ 44 47 k 48 k 0) = z := by
      have : pgr σ 44 47 k 48 k 0 = σ 48 k 0 := by simp [pgr]
      rw [this, t48]
    have s49 : tn (pgr (pgr σ 44 47 k) 45 48 k 49 k 0) = z := by
      have : pgr (pgr σ 44 47 k) 45 48 k 49 k 0 = σ 49 k 0 := by simp [pgr]
      rw [this, t49]
    refine ⟨_, rfl, z * 2, by unfold cap at hC ⊢; omega, by unfold cap at hC; omega, ?_, ?_, ?_, ?_, fun j hj => ⟨?_, ?_, ?_⟩, fun f o j hq => ?_⟩
    · simp [pgr, t47]
    · simp only [pgr, s48]; simp; rw [t48]
    · simp only [pgr, s48]; simp; rw [t49]
    · simp [pgr, hz]
    · simp only [pgr, s48, s49, t47]; simp [show ¬ z ≤ j by omega]
    · simp only [pgr, s48, s49, t47]; simp; intro h1; rw [t48] at h1; omega
    · simp only [pgr, s48, s49, t47]; simp; intro h1; rw [t49] at h1; omega
    · simp only [pgr]
      rw [if_neg (by omega), if_neg (by omega), if_neg (by omega), if_neg (by omega), if_neg (by omega), if_neg (by omega)]
theorem wr_c {σ : CS} {k z C : Nat} {x b v : Int32} (hz : σ 83 k 0 = nI z) (hzC : z ≤ C) (hC : cap C) (hz5 : z < 512) (h47 : σ 47 k 0 = nI C) (h48 : σ 48 k 0 = nI C) (h49 : σ 49 k 0 = nI C) (hx : x = -1 ∨ ∃ s, s < 4 ∧ x = nI s) :
    ∃ σ', F_X3_write σ k x b v = some (σ', ()) ∧ Fr k σ σ' ∧ WrN (nd σ k) z x b v (nd σ' k) ∧ ∃ C', cap C' ∧ z + 1 ≤ C' ∧ nd σ' k 47 0 = nI C' ∧ nd σ' k 48 0 = nI C' ∧ nd σ' k 49 0 = nI C' := by
  obtain ⟨a, hadd, C', hC', hz', g47, g48, g49, g83, gw, gf⟩ := grow_ok (x := x) (b := b) (v := v) hz hzC hC hz5 h47 h48 h49
  have hC5 : C' ≤ 512 := by unfold cap at hC'; omega
  have h7 : ¬ (7 + k = k) := by omega
  have h7' : ¬ (k = 7 + k) := by omega
  unfold F_X3_write
  rw [hadd, add_ok g83 hz' hC5 g47 g48 g49, bd_s]
  have frA : Fr k σ (pt (pt (pt (pt a 44 k z x) 45 k z b) 46 k z v) 83 k 0 (nI (z + 1))) := by
    refine Fr.tr (σ' := a) ?_ (Fr.tr (Fr.pa rfl) (Fr.tr (Fr.pa rfl) (Fr.tr (Fr.pa rfl) (Fr.pa rfl))))
    intro f o j hn
    refine gf f o j ?_
    rintro ⟨rfl, h1, h2⟩
    exact hn ⟨by simp only [nc, decide_eq_true_eq]; omega, Or.inl rfl⟩
  have rd : ∀ f j, ¬ (44 ≤ f ∧ f ≤ 49) → f ≠ 83 → pt (pt (pt (pt a 44 k z x) 45 k z b) 46 k z v) 83 k 0 (nI (z + 1)) f k j = σ f k j := fun f j h1 h2 => by
    have q1 : ¬ f = 44 := by omega
    have q2 : ¬ f = 45 := by omega
    have q3 : ¬ f = 46 := by omega
    simp only [pt, q1, q2, q3, h2, false_and, if_false]
    exact gf f k j (by omega)
  have rd2 : ∀ f j, pt (pt (pt (pt a 44 k z x) 45 k z b) 46 k z v) 83 k 0 (nI (z + 1)) f (7 + k) j = σ f (7 + k) j := fun f j => by
    simp only [pt, h7, false_and, and_false, if_false]
    exact gf f _ j (by omega)
  generalize hA : pt (pt (pt (pt a 44 k z x) 45 k z b) 46 k z v) 83 k 0 (nI (z + 1)) = A at frA rd rd2
  have a44 : A 44 k z = x := by rw [← hA]; simp [pt]
  have a45 : A 45 k z = b := by rw [← hA]; simp [pt]
  have a46 : A 46 k z = v := by rw [← hA]; simp [pt]
  have a83 : A 83 k 0 = nI (z + 1) := by rw [← hA]; simp [pt]
  have aw : ∀ j, j < z → A 44 k j = σ 44 k j ∧ A 45 k j = σ 45 k j ∧ A 46 k j = σ 46 k j := fun j hj => by
    have hne : ¬ j = z := by omega
    rw [← hA]
    simp only [pt, hne, and_false, if_false]
    refine ⟨?_, ?_, ?_⟩ <;> simp
    · exact (gw j hj).1
    · exact (gw j hj).2.1
    · exact (gw j hj).2.2
  have ac : A 47 k 0 = nI C' ∧ A 48 k 0 = nI C' ∧ A 49 k 0 = nI C' := by
    rw [← hA]; simp [pt, g47, g48, g49]
  have hfin : ∀ (S : CS), Fr k A S → (∀ f j, S f k j = A f k j) → S 60 (7 + k) 0 = b → (∀ s, s < 4 → S 42 (7 + k) s = (if x = nI s then b else A 42 (7 + k) s) ∧ S 43 (7 + k) s = (if x = nI s then v else A 43 (7 + k) s)) → (∀ f j, f ≠ 60 → f ≠ 42 → f ≠ 43 → S f (7 + k) j = A f (7 + k) j) → Fr k σ S ∧ WrN (nd σ k) z x b v (nd S k) ∧ ∃ C', cap C' ∧ z + 1 ≤ C' ∧ nd S k 47 0 = nI C' ∧ nd S k 48 0 = nI C' ∧ nd S k 49 0 = nI C' := by
    intro S hS h1 h2 h3 h4
    refine ⟨Fr.tr frA hS, ⟨fun j hj => ?_, ?_, ?_, ?_, ?_, ?_, fun s hs => ?_, fun f j g1 g2 g3 g4 g5 => ?_⟩, C', hC', hz', ?_, ?_, ?_⟩
    · simp only [nd_a (show nc 44 = true from rfl), nd_a (show nc 45 = true from rfl), nd_a (show nc 46 = true from rfl), h1]
      exact aw j hj
    · rw [nd_a rfl, h1, a44]
    · rw [nd_a rfl, h1, a45]
    · rw [nd_a rfl, h1, a46]
    · rw [nd_a rfl, h1, a83]
    · rw [show (160 : Nat) = 100 + 60 from rfl, nd_b rfl, h2]
    · rw [show (142 : Nat) = 100 + 42 from rfl, show (143 : Nat) = 100 + 43 from rfl, nd_b rfl, nd_b rfl, nd_b rfl, nd_b rfl, (h3 s hs).1, (h3 s hs).2, rd2, rd2]
      exact ⟨rfl, rfl⟩
    · simp only [nd]
      by_cases hf : nc f = true
      · simp only [hf, if_true]
        rw [h1, rd f j (by omega) g2]
      · by_cases hf2 : 100 ≤ f ∧ nc (f - 100) = true
        · simp only [hf, hf2, if_true, and_self]
          simp
          rw [h4 _ _ (by omega) (by omega) (by omega), rd2]
        · simp [hf, hf2]
    · rw [nd_a rfl, h1, ac.1]
    · rw [nd_a rfl, h1, ac.2.1]
    · rw [nd_a rfl, h1, ac.2.2]
  rcases hx with rfl | ⟨s, hs, rfl⟩
  · rw [co_n, bd_s]
    refine ⟨_, rfl, hfin _ (Fr.pb rfl) (fun f j => by simp [pt, h7']) (by simp [pt]) (fun s hs => ?_) (fun f j g1 g2 g3 => by simp [pt, g1])⟩
    have hne : ¬ ((-1 : Int32) = nI s) := fun q => nI_m1 (by omega) q.symm
    simp [pt, hne]
  · rw [co_s hs, bd_s]
    refine ⟨_, rfl, hfin _ (Fr.tr (Fr.pb rfl) (Fr.tr (Fr.pb rfl) (Fr.pb rfl))) (fun f j => by simp [pt, h7']) (by simp [pt]) (fun s' hs' => ?_) (fun f j g1 g2 g3 => by simp [pt, g1, g2, g3])⟩
    by_cases hss : s' = s
    · subst hss
      simp [pt]
    · have hne : ¬ (nI s = nI s') := fun q => hss (nI_inj (by omega) (by omega) q).symm
      simp [pt, hne, hss]
