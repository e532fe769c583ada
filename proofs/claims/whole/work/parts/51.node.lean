/-! ===== one node: its waiting writes laid over a disk ===== -/
def apP (n : ND) (p0 : Int32) : Nat → Int32
  | 0 => p0
  | t + 1 => n 45 t
def apB (n : ND) (b0 : Nat → Int32) : Nat → Nat → Int32
  | 0, s => b0 s
  | t + 1, s => if n 44 t = nI s then n 45 t else apB n b0 t s
def apV (n : ND) (v0 : Nat → Int32) : Nat → Nat → Int32
  | 0, s => v0 s
  | t + 1, s => if n 44 t = nI s then n 46 t else apV n v0 t s
theorem apP_cong {n m : ND} {p0 p1 : Int32} (hp : p0 = p1) : ∀ {z : Nat}, (∀ j, j < z → n 45 j = m 45 j) → apP n p0 z = apP m p1 z
  | 0, _ => hp
  | z + 1, h => h z (by omega)
theorem apB_cong {n m : ND} {b0 b1 : Nat → Int32} {s : Nat} (hb : b0 s = b1 s) : ∀ {z : Nat}, (∀ j, j < z → n 44 j = m 44 j ∧ n 45 j = m 45 j) → apB n b0 z s = apB m b1 z s
  | 0, _ => hb
  | z + 1, h => by simp only [apB]; rw [(h z (by omega)).1, (h z (by omega)).2, apB_cong hb (fun j hj => h j (by omega))]
theorem apV_cong {n m : ND} {b0 b1 : Nat → Int32} {s : Nat} (hb : b0 s = b1 s) : ∀ {z : Nat}, (∀ j, j < z → n 44 j = m 44 j ∧ n 46 j = m 46 j) → apV n b0 z s = apV m b1 z s
  | 0, _ => hb
  | z + 1, h => by simp only [apV]; rw [(h z (by omega)).1, (h z (by omega)).2, apV_cong hb (fun j hj => h j (by omega))]
theorem nI_inj {a b : Nat} (ha : a < 2 ^ 31) (hb : b < 2 ^ 31) (h : nI a = nI b) : a = b := (nI_eq ha hb).mp h
theorem co_n {σ : CS} {o : Nat} {b v : Int32} : F_X1_carryOut σ o (-1) b v = some (pt σ 60 o 0 b, ()) := by
  simp only [F_X1_carryOut, lt_eq]
  rw [if_pos m1_lt0]
theorem co_s {σ : CS} {o s : Nat} {b v : Int32} (hs : s < 4) : F_X1_carryOut σ o (nI s) b v = some (pt (pt (pt σ 60 o 0 b) 42 o s b) 43 o s v, ()) := by
  simp only [F_X1_carryOut, lt_eq]
  rw [if_neg (nI_pos (by omega)), if_neg (show ¬ (4 : Int32) ≤ nI s from nI_ge hs (by decide)), gd_inb hs (by decide), gd_inb hs (by decide), tn_nI (by omega)]
/-- the first q writes of node k are carried out on disk o -/
def Ap (k o q : Nat) (σ σ' : CS) : Prop := (∀ f o' j, ¬ (o' = o ∧ ((f = 60 ∧ j = 0) ∨ ((f = 42 ∨ f = 43) ∧ j < 4))) → σ' f o' j = σ f o' j) ∧ σ' 60 o 0 = apP (nd σ k) (σ 60 o 0) q ∧ ∀ s, s < 4 → σ' 42 o s = apB (nd σ k) (σ 42 o) q s ∧ σ' 43 o s = apV (nd σ k) (σ 43 o) q s
theorem Ap.z {k o : Nat} {σ : CS} : Ap k o 0 σ σ := ⟨fun _ _ _ _ => rfl, rfl, fun _ _ => ⟨rfl, rfl⟩⟩
theorem Ap.s {k o q : Nat} {σ a : CS} (h : Ap k o q σ a) (hw : σ 44 k q = -1 ∨ ∃ s, s < 4 ∧ σ 44 k q = nI s) : ∃ a', Ap k o (q + 1) σ a' ∧ F_X1_carryOut a o (a 44 k q) (a 45 k q) (a 46 k q) = some (a', ()) := by
  have r44 : a 44 k q = σ 44 k q := h.1 _ _ _ (by omega)
  have r45 : a 45 k q = σ 45 k q := h.1 _ _ _ (by omega)
  have r46 : a 46 k q = σ 46 k q := h.1 _ _ _ (by omega)
  rw [r44, r45, r46]
  rcases hw with e | ⟨s, hs, e⟩
  · rw [e]
    refine ⟨_, ⟨fun f o' j hq => ?_, ?_, fun s hs => ?_⟩, co_n⟩
    · simp only [pt]
      rw [if_neg (by omega)]
      exact h.1 f o' j hq
    · simp only [pt, apP, nd_a (show nc 45 = true from rfl)]
      simp
    · have hne : ¬ ((-1 : Int32) = nI s) := fun q => nI_m1 (by omega) q.symm
      simp only [pt, apB, apV, nd_a (show nc 44 = true from rfl), e, if_neg hne]
      simp
      exact h.2.2 s hs
  · rw [e]
    refine ⟨_, ⟨fun f o' j hq => ?_, ?_, fun s' hs' => ?_⟩, co_s hs⟩
    · simp only [pt]
      rw [if_neg (by omega), if_neg (by omega), if_neg (by omega)]
      exact h.1 f o' j hq
    · simp only [pt, apP, nd_a (show nc 45 = true from rfl)]
      simp
    · simp only [pt, apB, apV, nd_a (show nc 44 = true from rfl), nd_a (show nc 45 = true from rfl), nd_a (show nc 46 = true from rfl), e]
      by_cases hss : s' = s
      · subst hss
        simp
      · have hne : ¬ (nI s = nI s') := fun q => hss (nI_inj (by omega) (by omega) q).symm
        simp only [if_neg hne]
        simp [hss]
        exact h.2.2 s' hs'
theorem coo {σ : CS} {k o q z C : Nat} (hz : σ 83 k 0 = nI z) (hq : q ≤ z) (hzC : z ≤ C) (hC : C ≤ 512) (h47 : σ 47 k 0 = nI C) (h48 : σ 48 k 0 = nI C) (h49 : σ 49 k 0 = nI C) (hw : ∀ t, t < q → σ 44 k t = -1 ∨ ∃ s, s < 4 ∧ σ 44 k t = nI s) : ∃ σ', F_X4_carryOutOn σ k o (nI q) = some (σ', ()) ∧ Ap k o q σ σ' := by
  unfold F_X4_carryOutOn B_X4_carryOutOn_2
  refine lo2_it q (fun t a => Ap k o t σ a) (fun r => ∃ σ', r = some (σ', ()) ∧ Ap k o q σ σ') ?_ ?_ q 0 4096 σ (by omega) (by omega) Ap.z
  · intro i a hi hP
    obtain ⟨a', hA, hco⟩ := hP.s (hw i hi)
    refine ⟨a', hA, fun K => ?_⟩
    have r83 : a 83 k 0 = nI z := (hP.1 _ _ _ (by omega)).trans hz
    have r47 : a 47 k 0 = nI C := (hP.1 _ _ _ (by omega)).trans h47
    have r48 : a 48 k 0 = nI C := (hP.1 _ _ _ (by omega)).trans h48
    have r49 : a 49 k 0 = nI C := (hP.1 _ _ _ (by omega)).trans h49
    rw [if_neg (nI_ge hi (by omega)), r83, if_neg (nI_ge (show i < z by omega) (by omega)), r47, r48, r49, tn_nI (show C < 2 ^ 31 by omega), gd_inb (by omega) (by omega), gd_inb (by omega) (by omega), gd_inb (by omega) (by omega), tn_nI (show i < 2 ^ 31 by omega), hco, bd_s, lt_eq, nI_1]
  · intro a K hP
    rw [if_pos (nI_le (Nat.le_refl q) (by omega))]
    exact ⟨a, rfl, hP⟩
/-- node n' after its first q writes went to its disk and the others were lost -/
def KpN (n : ND) (q : Nat) (n' : ND) : Prop := n' 83 0 = 0 ∧ n' 60 0 = apP n (n 60 0) q ∧ n' 160 0 = apP n (n 60 0) q ∧ (∀ s, s < 4 → n' 42 s = apB n (n 42) q s ∧ n' 43 s = apV n (n 43) q s ∧ n' 142 s = apB n (n 42) q s ∧ n' 143 s = apV n (n 43) q s) ∧ ∀ f j, f ≠ 83 → f ≠ 60 → f ≠ 160 → f ≠ 42 → f ≠ 43 → f ≠ 142 → f ≠ 143 → n' f j = n f j
theorem kpo {σ : CS} {k q z C : Nat} (hz : σ 83 k 0 = nI z) (hq : q ≤ z) (hzC : z ≤ C) (hC : C ≤ 512) (h47 : σ 47 k 0 = nI C) (h48 : σ 48 k 0 = nI C) (h49 : σ 49 k 0 = nI C) (hw : ∀ t, t < q → σ 44 k t = -1 ∨ ∃ s, s < 4 ∧ σ 44 k t = nI s) : ∃ σ', (∀ {T : Type} (kk : CS → Option T), (bd (F_X4_carryOutOn σ k k (nI q)) fun a _ => lt (pt a 83 k 0 0) fun b => bd (F_X1_copyFrom b (7 + k) k) fun c _ => kk c) = kk σ') ∧ Fr k σ σ' ∧ KpN (nd σ k) q (nd σ' k) := by
  obtain ⟨a, ha, hA⟩ := coo (o := k) hz hq hzC hC h47 h48 h49 hw
  simp only [ha, bd_s, lt_eq, F_X1_copyFrom]
  refine ⟨_, fun kk => rfl, ?_, ?_⟩
  · intro f o j hn
    have h7 : ¬ (7 + k = k) := by omega
    have n60 : nc 60 = true := rfl
    have n42 : nc 42 = true := rfl
    have n43 : nc 43 = true := rfl
    have n83 : nc 83 = true := rfl
    simp only [pcp, pt]
    rw [if_neg (by rintro ⟨rfl, rfl, _⟩; exact hn ⟨n43, Or.inr rfl⟩), if_neg (by rintro ⟨rfl, rfl, _⟩; exact hn ⟨n42, Or.inr rfl⟩), if_neg (by rintro ⟨rfl, rfl, _⟩; exact hn ⟨n60, Or.inr rfl⟩), if_neg (by rintro ⟨rfl, rfl, _⟩; exact hn ⟨n83, Or.inl rfl⟩)]
    refine hA.1 f o j ?_
    rintro ⟨rfl, ⟨rfl, _⟩ | ⟨rfl | rfl, _⟩⟩
    · exact hn ⟨n60, Or.inl rfl⟩
    · exact hn ⟨n42, Or.inl rfl⟩
    · exact hn ⟨n43, Or.inl rfl⟩
  · have h7 : ¬ (7 + k = k) := by omega
    have h7' : ¬ (k = 7 + k) := by omega
    refine ⟨?_, ?_, ?_, fun s hs => ?_, fun f j g1 g2 g3 g4 g5 g6 g7 => ?_⟩
    · rw [nd_a rfl]; simp [pcp, pt]
    · rw [nd_a rfl]; simp [pcp, pt, h7']; rw [hA.2.1, nd_a rfl]
    · rw [show (160 : Nat) = 100 + 60 from rfl, nd_b rfl]; simp [pcp, pt, h7]; rw [hA.2.1, nd_a rfl]
    · have hb := hA.2.2 s hs
      have e42 : nd σ k 42 = σ 42 k := by funext j; exact nd_a rfl
      have e43 : nd σ k 43 = σ 43 k := by funext j; exact nd_a rfl
      rw [show (142 : Nat) = 100 + 42 from rfl, show (143 : Nat) = 100 + 43 from rfl, nd_b rfl, nd_b rfl, nd_a (f := 42) rfl, nd_a (f := 43) rfl, e42, e43]
      refine ⟨?_, ?_, ?_, ?_⟩
      · simp [pcp, pt, h7']; exact hb.1
      · simp [pcp, pt, h7']; exact hb.2
      · simp [pcp, pt, h7, hs]; exact hb.1
      · simp [pcp, pt, h7, hs]; exact hb.2
    · simp only [nd]
      by_cases hf : nc f = true
      · simp only [hf, if_true]
        simp only [pcp, pt, h7']
        simp [g1]
        exact hA.1 f k j (by omega)
      · by_cases hf2 : 100 ≤ f ∧ nc (f - 100) = true
        · have x1 : ¬ f - 100 = 43 := by omega
          have x2 : ¬ f - 100 = 42 := by omega
          have x3 : ¬ f - 100 = 60 := by omega
          simp only [hf, hf2, if_true, and_self, pcp, pt, h7, x1, x2, x3]
          simp
          exact hA.1 _ _ _ (by omega)
        · simp [hf, hf2]
