/-! ===== the reference's rows of one node ===== -/
theorem rp_n2 {ρ : RS} {f j f1 j1 : Nat} {v : Int32} (h : f1 ≠ f) : (rp ρ f j v).1 f1 j1 = ρ.1 f1 j1 := by simp [rp, h]
theorem rp_se {ρ : RS} {f j : Nat} {v : Int32} : (rp ρ f j v).1 f j = v := by simp [rp]
theorem m2048 (k : Nat) : (2048 : Int32) * nI k = nI (2048 * k) := pk_mul 2048 k
theorem m4 (k : Nat) : (4 : Int32) * nI k = nI (4 * k) := pk_mul 4 k
theorem at_eq {ρ : RS} {k s : Nat} : F_X6_at ρ (nI k) (nI s) = some (ρ, nI (4 * k + s)) := by
  unfold F_X6_at
  rw [m4, nI_add]
theorem g7 {β : Type} {k : Nat} {x : Option β} (h : k < 7) : gd (inb (nI k) 7) x = x := gd_inb h (by decide)
theorem g4 {β : Type} {k : Nat} {x : Option β} (h : k < 4) : gd (inb (nI k) 4) x = x := gd_inb h (by decide)
theorem g28 {β : Type} {k s : Nat} {x : Option β} (h : k < 7) (hs : s < 4) : gd (inb (nI (4 * k + s)) 28) x = x := gd_inb (by omega) (by decide)
theorem gw {β : Type} {k s : Nat} {x : Option β} (h : k < 7) (hs : s < 2048) : gd (inb (nI (2048 * k + s)) 14336) x = x := gd_inb (by omega) (by decide)
theorem t7 {k : Nat} (h : k < 7) : tn (nI k) = k := tn_nI (by omega)
theorem t4 {k : Nat} (h : k < 4) : tn (nI k) = k := tn_nI (by omega)
theorem t28 {k s : Nat} (h : k < 7) (hs : s < 4) : tn (nI (4 * k + s)) = 4 * k + s := tn_nI (by omega)
theorem tw {k s : Nat} (h : k < 7) (hs : s < 2048) : tn (nI (2048 * k + s)) = 2048 * k + s := tn_nI (by omega)
def FlN (n : ND) (q : Nat) (n' : ND) : Prop := n' 83 0 = 0 ∧ n' 60 0 = apP n (n 60 0) q ∧ (∀ s, s < 4 → n' 42 s = apB n (n 42) q s ∧ n' 43 s = apV n (n 43) q s) ∧ ∀ f j, f ≠ 83 → f ≠ 60 → f ≠ 42 → f ≠ 43 → n' f j = n f j
theorem ap_fl {σ a : CS} {k z : Nat} (hA : Ap k k z σ a) : Fr k σ (pt a 83 k 0 0) ∧ FlN (nd σ k) z (nd (pt a 83 k 0 0) k) := by
  refine ⟨?_, ?_⟩
  · refine Fr.tr (σ' := a) ?_ (Fr.pa rfl)
    intro f o j hn
    refine hA.1 f o j ?_
    rintro ⟨rfl, ⟨rfl, _⟩ | ⟨rfl | rfl, _⟩⟩ <;> exact hn ⟨rfl, Or.inl rfl⟩
  · rw [nd_pa rfl]
    have e42 : nd σ k 42 = σ 42 k := by funext j; exact nd_a rfl
    have e43 : nd σ k 43 = σ 43 k := by funext j; exact nd_a rfl
    refine ⟨by simp [nu], ?_, fun s hs => ?_, fun f j g1 g2 g3 g4 => ?_⟩
    · simp only [nu]; simp; rw [nd_a rfl, nd_a rfl, hA.2.1]
    · simp only [nu]; simp; rw [nd_a rfl, nd_a rfl, e42, e43]; exact hA.2.2 s hs
    · simp only [nu, g1, false_and, if_false, nd]
      by_cases hf : nc f = true
      · simp only [hf, if_true]; exact hA.1 f k j (by omega)
      · by_cases hf2 : 100 ≤ f ∧ nc (f - 100) = true
        · simp only [hf, hf2, if_true, and_self]
          simp
          exact hA.1 _ _ _ (by omega)
        · simp [hf, hf2]
/-- the class's flush leaves the view -/
theorem coa {σ : CS} {k z C : Nat} (hz : σ 83 k 0 = nI z) (hzC : z ≤ C) (hC : C ≤ 512) (h47 : σ 47 k 0 = nI C) (h48 : σ 48 k 0 = nI C) (h49 : σ 49 k 0 = nI C) (hw : ∀ t, t < z → σ 44 k t = -1 ∨ ∃ s, s < 4 ∧ σ 44 k t = nI s) : ∃ σ', F_X3_carryOutAll σ k = some (σ', σ 83 k 0) ∧ Fr k σ σ' ∧ FlN (nd σ k) z (nd σ' k) := by
  obtain ⟨a, ha, hA⟩ := coo (o := k) hz (Nat.le_refl z) hzC hC h47 h48 h49 hw
  refine ⟨_, ?_, (ap_fl hA).1, (ap_fl hA).2⟩
  unfold F_X3_carryOutAll
  rw [lt_eq, hz, ha, bd_s, lt_eq]
theorem fl_r {ρ : RS} {k z : Nat} (hk : k < 7) (hz : Ur ρ 83 k 0 = nI z) (hz2 : z < 2048) (hw : ∀ t, t < z → Ur ρ 44 k t = -1 ∨ ∃ s, s < 4 ∧ Ur ρ 44 k t = nI s) : ∃ ρ', F_X6_flush ρ (nI k) = some (ρ', ()) ∧ Xr ρ' = Xr ρ ∧ Fr k (Ur ρ) (Ur ρ') ∧ FlN (nd (Ur ρ) k) z (nd (Ur ρ') k) := by
  have hfin : ∀ a : RS, Xr a = Xr ρ → Ap k k z (Ur ρ) (Ur a) → ∃ ρ', some (rp a 14 k 0, ()) = some (ρ', ()) ∧ Xr ρ' = Xr ρ ∧ Fr k (Ur ρ) (Ur ρ') ∧ FlN (nd (Ur ρ) k) z (nd (Ur ρ') k) := by
    intro a hX hA
    refine ⟨_, rfl, (Xr_rp (by decide)).trans hX, ?_, ?_⟩
    · rw [Ur_rp (um_14 hk)]
      refine Fr.tr (σ' := Ur a) ?_ (Fr.pa rfl)
      intro f o j hn
      refine hA.1 f o j ?_
      rintro ⟨rfl, ⟨rfl, _⟩ | ⟨rfl | rfl, _⟩⟩ <;> exact hn ⟨rfl, Or.inl rfl⟩
    · rw [Ur_rp (um_14 hk), nd_pa rfl]
      have e42 : nd (Ur ρ) k 42 = Ur ρ 42 k := by funext j; exact nd_a rfl
      have e43 : nd (Ur ρ) k 43 = Ur ρ 43 k := by funext j; exact nd_a rfl
      refine ⟨by simp [nu], ?_, fun s hs => ?_, fun f j g1 g2 g3 g4 => ?_⟩
      · simp only [nu]; simp; rw [nd_a rfl, nd_a rfl, hA.2.1]
      · simp only [nu]; simp; rw [nd_a rfl, nd_a rfl, e42, e43]; exact hA.2.2 s hs
      · simp only [nu, g1, false_and, if_false, nd]
        by_cases hf : nc f = true
        · simp only [hf, if_true]; exact hA.1 f k j (by omega)
        · by_cases hf2 : 100 ≤ f ∧ nc (f - 100) = true
          · simp only [hf, hf2, if_true, and_self]
            simp
            exact hA.1 _ _ _ (by omega)
          · simp [hf, hf2]
  unfold F_X6_flush B_X6_flush_6
  rw [lt_eq, m2048]
  refine lo2_it (2048 * k + z) (fun i a => ∃ t, i = 2048 * k + t ∧ Xr a = Xr ρ ∧ Ap k k t (Ur ρ) (Ur a)) (fun r => ∃ ρ', r = some (ρ', ()) ∧ Xr ρ' = Xr ρ ∧ Fr k (Ur ρ) (Ur ρ') ∧ FlN (nd (Ur ρ) k) z (nd (Ur ρ') k)) ?_ ?_ z (2048 * k) 4096 ρ (by omega) (by omega) ⟨0, by omega, rfl, Ap.z⟩
  · rintro i a hi ⟨t, rfl, hX, hA⟩
    have ht : t < z := by omega
    have r83 : a.1 14 k = nI z := by rw [Ur_rd (um_14 hk), hA.1 _ _ _ (by omega), hz]
    have c1 : ¬ nI (2048 * k + z) ≤ nI (2048 * k + t) := nI_ge (by omega) (by omega)
    have r44 : a.1 15 (2048 * k + t) = Ur ρ 44 k t := by rw [Ur_rd (um_15 hk (by omega))]; exact hA.1 _ _ _ (by omega)
    obtain ⟨σ', hA', hco⟩ := hA.s (hw t ht)
    rcases hw t ht with e | ⟨s, hs, e⟩
    · refine ⟨rp a 8 k (a.1 16 (2048 * k + t)), ⟨t + 1, by omega, (Xr_rp (by decide)).trans hX, ?_⟩, fun K => ?_⟩
      · have : Ur a 44 k t = -1 := by rw [hA.1 _ _ _ (by omega)]; exact e
        rw [this, co_n] at hco
        cases hco
        rw [Ur_rp (um_8 hk), Ur_rd (um_16 hk (by omega))]
        exact hA'
      · simp only [t7 hk, m2048, r83, nI_add, g7 hk, if_neg c1, gw hk (show t < 2048 by omega), tw hk (show t < 2048 by omega), lt_eq, B_X6_flush_86, rp_n2 (show (15 : Nat) ≠ 8 by decide), r44, e, if_true, nI_1]
    · refine ⟨rp (rp (rp a 8 k (a.1 16 (2048 * k + t))) 9 (4 * k + s) (a.1 16 (2048 * k + t))) 10 (4 * k + s) (a.1 17 (2048 * k + t)), ⟨t + 1, by omega, (Xr_rp (by decide)).trans ((Xr_rp (by decide)).trans ((Xr_rp (by decide)).trans hX)), ?_⟩, fun K => ?_⟩
      · have : Ur a 44 k t = nI s := by rw [hA.1 _ _ _ (by omega)]; exact e
        rw [this, co_s hs] at hco
        cases hco
        rw [Ur_rp (um_10 hk hs), Ur_rp (um_9 hk hs), Ur_rp (um_8 hk), Ur_rd (um_16 hk (by omega)), Ur_rd (um_17 hk (by omega))]
        exact hA'
      · have hne : ¬ nI s = -1 := nI_m1 (by omega)
        simp only [t7 hk, m2048, r83, nI_add, g7 hk, if_neg c1, gw hk (show t < 2048 by omega), tw hk (show t < 2048 by omega), lt_eq, B_X6_flush_86, rp_n2 (show (15 : Nat) ≠ 8 by decide), rp_n2 (show (15 : Nat) ≠ 9 by decide), rp_n2 (show (16 : Nat) ≠ 8 by decide), rp_n2 (show (17 : Nat) ≠ 8 by decide), rp_n2 (show (17 : Nat) ≠ 9 by decide), r44, e, if_neg hne, at_eq, bd_s, g28 hk hs, t28 hk hs, nI_1]
  · rintro a K ⟨t, e, hX, hA⟩
    have et : t = z := by omega
    subst et
    have r83 : a.1 14 k = nI t := by rw [Ur_rd (um_14 hk), hA.1 _ _ _ (by omega), hz]
    simp only [t7 hk, m2048, r83, nI_add, g7 hk, if_pos (nI_le (Nat.le_refl (2048 * k + t)) (by omega)), lt_eq]
    exact hfin a hX hA
