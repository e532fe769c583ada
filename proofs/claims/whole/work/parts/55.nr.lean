/-! ===== what one node of the class and of the reference keep together ===== -/
def vl (x : Int32) : Prop := ∃ v : Nat, v ≤ 9 ∧ x = nI v
def bl (B : Nat) (x : Int32) : Prop := ∃ b : Nat, 0 < b ∧ b ≤ B ∧ x = nI b
def b0 (B : Nat) (x : Int32) : Prop := ∃ b : Nat, b ≤ B ∧ x = nI b
def wok (B M : Nat) (x b v : Int32) : Prop := bl B b ∧ (x = -1 ∨ ∃ s, s < M ∧ x = nI s ∧ vl v)
def dk (B M s : Nat) (b v : Int32) : Prop := (b = 0 ∧ v = -1) ∨ (bl B b ∧ vl v ∧ s < M)
theorem bl.mono {B B' : Nat} {x : Int32} (h : B ≤ B') : bl B x → bl B' x := fun ⟨b, h1, h2, h3⟩ => ⟨b, h1, by omega, h3⟩
theorem b0.mono {B B' : Nat} {x : Int32} (h : B ≤ B') : b0 B x → b0 B' x := fun ⟨b, h2, h3⟩ => ⟨b, by omega, h3⟩
theorem bl.b0 {B : Nat} {x : Int32} : bl B x → b0 B x := fun ⟨b, h1, h2, h3⟩ => ⟨b, h2, h3⟩
theorem wok.mono {B B' M : Nat} {x b v : Int32} (h : B ≤ B') : wok B M x b v → wok B' M x b v := fun ⟨h1, h2⟩ => ⟨h1.mono h, h2⟩
theorem dk.mono {B B' M s : Nat} {b v : Int32} (h : B ≤ B') : dk B M s b v → dk B' M s b v
  | Or.inl q => Or.inl q
  | Or.inr ⟨h1, h2⟩ => Or.inr ⟨h1.mono h, h2⟩
def EN (rq : Prop) (n m : ND) : Prop := (n 25 0 = m 25 0 ∧ n 26 0 = m 26 0 ∧ n 27 0 = m 27 0 ∧ n 28 0 = m 28 0 ∧ (rq → n 29 0 = m 29 0) ∧ n 60 0 = m 60 0 ∧ n 160 0 = m 160 0 ∧ n 83 0 = m 83 0) ∧ (∀ s, s < 4 → n 42 s = m 42 s ∧ n 43 s = m 43 s ∧ n 142 s = m 142 s ∧ n 143 s = m 143 s) ∧ (∀ j, j < tn (n 83 0) → n 44 j = m 44 j ∧ n 45 j = m 45 j ∧ n 46 j = m 46 j) ∧ (rq → n 29 0 ≠ -1 → ∀ s, s < 4 → n 41 s = m 41 s)
def IA (B : Nat) (n : ND) : Prop := isb (n 25 0) = true ∧ isb (n 26 0) = true ∧ b0 B (n 28 0) ∧ b0 B (n 60 0)
def IC (zc : Nat) (n : ND) (z : Nat) : Prop := z ≤ zc ∧ n 83 0 = nI z ∧ (∃ C, cap C ∧ z ≤ C ∧ n 47 0 = nI C ∧ n 48 0 = nI C ∧ n 49 0 = nI C) ∧ (n 25 0 = 0 → z = 0) ∧ (n 26 0 = 0 → z = 0)
def IW (B M : Nat) (n : ND) (z : Nat) : Prop := (∀ j, j < z → wok B M (n 44 j) (n 45 j) (n 46 j)) ∧ ∀ s, s < 4 → dk B M s (n 42 s) (n 43 s)
def IV (n : ND) (z : Nat) : Prop := n 160 0 = apP n (n 60 0) z ∧ ∀ s, s < 4 → n 142 s = apB n (n 42) z s ∧ n 143 s = apV n (n 43) z s
def IJ (n : ND) : Prop := n 26 0 = 0 → n 60 0 = 0 ∧ ∀ s, s < 4 → n 42 s = 0 ∧ n 43 s = -1
def IR (B : Nat) (n : ND) : Prop := n 29 0 = -1 ∨ (bl B (n 29 0) ∧ n 25 0 = 1 ∧ n 26 0 = 1 ∧ ∀ s, s < 4 → n 41 s = -1 ∨ vl (n 41 s))
def IN (B zc M : Nat) (n : ND) : Prop := ∃ z, IA B n ∧ IC zc n z ∧ IW B M n z ∧ IV n z ∧ IJ n ∧ IR B n
def NR (rq : Prop) (B zc M : Nat) (n m : ND) : Prop := EN rq n m ∧ IN B zc M n
theorem cap_le {C : Nat} (h : cap C) : C ≤ 512 := by unfold cap at h; omega
theorem IN.mono {B B' zc zc' M : Nat} {n : ND} (hB : B ≤ B') (hz : zc ≤ zc') (h : IN B zc M n) : IN B' zc' M n := by
  obtain ⟨z, ⟨a1, a2, a3, a4⟩, ⟨c1, c2⟩, ⟨w1, w2⟩, hv, hj, hr⟩ := h
  refine ⟨z, ⟨a1, a2, a3.mono hB, a4.mono hB⟩, ⟨by omega, c2⟩, ⟨fun j hj => (w1 j hj).mono hB, fun s hs => (w2 s hs).mono hB⟩, hv, hj, ?_⟩
  rcases hr with h | ⟨h1, h2⟩
  · exact Or.inl h
  · exact Or.inr ⟨h1.mono hB, h2⟩
theorem NR.mono {rq : Prop} {B B' zc zc' M : Nat} {n m : ND} (hB : B ≤ B') (hz : zc ≤ zc') (h : NR rq B zc M n m) : NR rq B' zc' M n m := ⟨h.1, h.2.mono hB hz⟩
theorem ap_dk {B M z : Nat} {n : ND} (hM : M ≤ 4) (hw : ∀ j, j < z → wok B M (n 44 j) (n 45 j) (n 46 j)) (hd : ∀ s, s < 4 → dk B M s (n 42 s) (n 43 s)) : ∀ s, s < 4 → dk B M s (apB n (n 42) z s) (apV n (n 43) z s) := by
  induction z with
  | zero => exact hd
  | succ z ih =>
    intro s hs
    simp only [apB, apV]
    by_cases h : n 44 z = nI s
    · rw [if_pos h, if_pos h]
      obtain ⟨h1, h2 | ⟨s', h3, h4, h5⟩⟩ := hw z (by omega)
      · exact absurd (h.symm.trans h2) (nI_m1 (by omega))
      · have : s' = s := nI_inj (by omega) (by omega) (h4.symm.trans h)
        subst this
        exact Or.inr ⟨h1, h5, h3⟩
    · rw [if_neg h, if_neg h]
      exact ih (fun j hj => hw j (by omega)) s hs
theorem ap_b0 {B M z : Nat} {n : ND} {p : Int32} (hw : ∀ j, j < z → wok B M (n 44 j) (n 45 j) (n 46 j)) (hp : b0 B p) : b0 B (apP n p z) := by
  cases z with
  | zero => exact hp
  | succ z => exact (hw z (by omega)).1.b0
theorem IN.vp {B zc M : Nat} {n : ND} (h : IN B zc M n) : b0 B (n 160 0) := by
  obtain ⟨z, ⟨a1, a2, a3, a4⟩, hc, ⟨w1, w2⟩, ⟨v1, v2⟩, hj, hr⟩ := h
  rw [v1]
  exact ap_b0 w1 a4
theorem IN.vd {B zc M : Nat} {n : ND} (hM : M ≤ 4) (h : IN B zc M n) : ∀ s, s < 4 → dk B M s (n 142 s) (n 143 s) := by
  obtain ⟨z, ha, hc, ⟨w1, w2⟩, ⟨v1, v2⟩, hj, hr⟩ := h
  intro s hs
  rw [(v2 s hs).1, (v2 s hs).2]
  exact ap_dk hM w1 w2 s hs
theorem wok.sl {B M : Nat} {x b v : Int32} (hM : M ≤ 4) (h : wok B M x b v) : x = -1 ∨ ∃ s, s < 4 ∧ x = nI s := by
  obtain ⟨_, h | ⟨s, h1, h2, _⟩⟩ := h
  · exact Or.inl h
  · exact Or.inr ⟨s, by omega, h2⟩
theorem wr_nr {rq : Prop} {B zc zc' M z : Nat} {n m n' m' : ND} {x b v : Int32} (h : NR rq B zc M n m) (hz : n 83 0 = nI z) (hz5 : z < 512) (hc : WrN n z x b v n') (hr : WrN m z x b v m') (hcap : ∃ C', cap C' ∧ z + 1 ≤ C' ∧ n' 47 0 = nI C' ∧ n' 48 0 = nI C' ∧ n' 49 0 = nI C') (hw : wok B M x b v) (hup : n 25 0 = 1) (hjn : n 26 0 = 1) (hzc : z + 1 ≤ zc') : NR rq B zc' M n' m' := by
  obtain ⟨⟨⟨e1, e2, e3, e4, e5, e6, e7, e8⟩, e9, e10, e11⟩, z0, ⟨a1, a2, a3, a4⟩, ⟨c1, c2, c3⟩, ⟨w1, w2⟩, ⟨v1, v2⟩, hj, hrr⟩ := h
  have ez : z0 = z := by
    obtain ⟨C, k1, k2, _⟩ := c3.1
    exact nI_inj (by have := cap_le k1; omega) (by omega) (c2.symm.trans hz)
  subst ez
  obtain ⟨p1, p2, p3, p4, p5, p6, p7, p8⟩ := hc
  obtain ⟨q1, q2, q3, q4, q5, q6, q7, q8⟩ := hr
  have g : ∀ f, (25 ≤ f ∧ f ≤ 43) ∨ f = 60 → ∀ j, n' f j = n f j := fun f hf j => p8 f j (by omega) (by omega) (by omega) (by omega) (by omega)
  have g' : ∀ f, (25 ≤ f ∧ f ≤ 43) ∨ f = 60 → ∀ j, m' f j = m f j := fun f hf j => q8 f j (by omega) (by omega) (by omega) (by omega) (by omega)
  have t83 : tn (n 83 0) = z0 := by rw [hz]; exact tn_nI (by omega)
  refine ⟨⟨⟨?_, ?_, ?_, ?_, ?_, ?_, ?_, ?_⟩, fun s hs => ?_, fun j hj2 => ?_, fun hrq hne s hs => ?_⟩, z0 + 1, ⟨?_, ?_, ?_, ?_⟩, ⟨hzc, p5, hcap, ?_, ?_⟩, ⟨fun j hj2 => ?_, fun s hs => ?_⟩, ⟨?_, fun s hs => ?_⟩, ?_, ?_⟩
  · rw [g 25 (by omega), g' 25 (by omega)]; exact e1
  · rw [g 26 (by omega), g' 26 (by omega)]; exact e2
  · rw [g 27 (by omega), g' 27 (by omega)]; exact e3
  · rw [g 28 (by omega), g' 28 (by omega)]; exact e4
  · rw [g 29 (by omega), g' 29 (by omega)]; exact e5
  · rw [g 60 (by omega), g' 60 (by omega)]; exact e6
  · rw [p6, q6]
  · rw [p5, q5]
  · obtain ⟨f1, f2, f3, f4⟩ := e9 s hs
    rw [g 42 (by omega), g' 42 (by omega), g 43 (by omega), g' 43 (by omega), (p7 s hs).1, (p7 s hs).2, (q7 s hs).1, (q7 s hs).2, f3, f4]
    exact ⟨f1, f2, rfl, rfl⟩
  · rw [p5, tn_nI (by omega)] at hj2
    by_cases hjz : j = z0
    · subst hjz
      rw [p2, p3, p4, q2, q3, q4]
      exact ⟨rfl, rfl, rfl⟩
    · obtain ⟨f1, f2, f3⟩ := p1 j (by omega)
      obtain ⟨k1, k2, k3⟩ := q1 j (by omega)
      rw [f1, f2, f3, k1, k2, k3]
      exact e10 j (by omega)
  · rw [g 41 (by omega), g' 41 (by omega)]
    rw [g 29 (by omega)] at hne
    exact e11 hrq hne s hs
  · rw [g 25 (by omega)]; exact a1
  · rw [g 26 (by omega)]; exact a2
  · rw [g 28 (by omega)]; exact a3
  · rw [g 60 (by omega)]; exact a4
  · rw [g 25 (by omega), hup]; intro hq; exact absurd hq (by decide)
  · rw [g 26 (by omega), hjn]; intro hq; exact absurd hq (by decide)
  · by_cases hjz : j = z0
    · subst hjz
      rw [p2, p3, p4]
      exact hw
    · obtain ⟨f1, f2, f3⟩ := p1 j (by omega)
      rw [f1, f2, f3]
      exact w1 j (by omega)
  · rw [g 42 (by omega), g 43 (by omega)]
    exact w2 s hs
  · simp only [apP]; rw [p6, p3]
  · simp only [apB, apV]
    rw [(p7 s hs).1, (p7 s hs).2, p2, p3, p4, (v2 s hs).1, (v2 s hs).2]
    rw [apB_cong (n := n') (m := n) (b1 := n 42) (by rw [g 42 (by omega)]) (fun j hj2 => ⟨(p1 j hj2).1, (p1 j hj2).2.1⟩), apV_cong (n := n') (m := n) (b1 := n 43) (by rw [g 43 (by omega)]) (fun j hj2 => ⟨(p1 j hj2).1, (p1 j hj2).2.2⟩)]
    exact ⟨rfl, rfl⟩
  · intro hq
    rw [g 26 (by omega), hjn] at hq
    exact absurd hq (by decide)
  · rcases hrr with h | ⟨h1, h2, h3, h4⟩
    · exact Or.inl (by rw [g 29 (by omega)]; exact h)
    · refine Or.inr ⟨by rw [g 29 (by omega)]; exact h1, by rw [g 25 (by omega)]; exact h2, by rw [g 26 (by omega)]; exact h3, fun s hs => ?_⟩
      rw [g 41 (by omega)]
      exact h4 s hs
/-- the first q writes reach the disk, the others are lost; the view as the disk is -/
theorem kp_nr {rq : Prop} {B zc zc' M z q : Nat} {n m n' m' : ND} (hM : M ≤ 4) (h : NR rq B zc M n m) (hz : n 83 0 = nI z) (hz5 : z ≤ 512) (hq : q ≤ z) (hc : KpN n q n') (hr : KpN m q m') : NR rq B zc' M n' m' := by
  obtain ⟨⟨⟨e1, e2, e3, e4, e5, e6, e7, e8⟩, e9, e10, e11⟩, z0, ⟨a1, a2, a3, a4⟩, ⟨c1, c2, ⟨C, c3, c4, c5, c6, c7⟩, c8, c9⟩, ⟨w1, w2⟩, ⟨v1, v2⟩, hj, hrr⟩ := h
  have ez : z0 = z := nI_inj (by have := cap_le c3; omega) (by omega) (c2.symm.trans hz)
  subst ez
  obtain ⟨p1, p2, p3, p4, p5⟩ := hc
  obtain ⟨q1, q2, q3, q4, q5⟩ := hr
  have t83 : tn (n 83 0) = z0 := by rw [hz]; exact tn_nI (by omega)
  have g : ∀ f, (25 ≤ f ∧ f ≤ 41) ∨ (44 ≤ f ∧ f ≤ 49) → ∀ j, n' f j = n f j := fun f hf j => p5 f j (by omega) (by omega) (by omega) (by omega) (by omega) (by omega) (by omega)
  have g' : ∀ f, (25 ≤ f ∧ f ≤ 41) ∨ (44 ≤ f ∧ f ≤ 49) → ∀ j, m' f j = m f j := fun f hf j => q5 f j (by omega) (by omega) (by omega) (by omega) (by omega) (by omega) (by omega)
  have hP : apP n (n 60 0) q = apP m (m 60 0) q := apP_cong e6 (fun j hj2 => (e10 j (by omega)).2.1)
  have hBe : ∀ s, s < 4 → apB n (n 42) q s = apB m (m 42) q s := fun s hs => apB_cong (e9 s hs).1 (fun j hj2 => ⟨(e10 j (by omega)).1, (e10 j (by omega)).2.1⟩)
  have hVe : ∀ s, s < 4 → apV n (n 43) q s = apV m (m 43) q s := fun s hs => apV_cong (e9 s hs).2.1 (fun j hj2 => ⟨(e10 j (by omega)).1, (e10 j (by omega)).2.2⟩)
  refine ⟨⟨⟨?_, ?_, ?_, ?_, ?_, ?_, ?_, ?_⟩, fun s hs => ?_, fun j hj2 => ?_, fun hrq hne s hs => ?_⟩, 0, ⟨?_, ?_, ?_, ?_⟩, ⟨Nat.zero_le _, p1, ⟨C, c3, Nat.zero_le _, ?_, ?_, ?_⟩, fun _ => rfl, fun _ => rfl⟩, ⟨fun j hj2 => by omega, fun s hs => ?_⟩, ⟨?_, fun s hs => ?_⟩, ?_, ?_⟩
  · rw [g 25 (by omega), g' 25 (by omega)]; exact e1
  · rw [g 26 (by omega), g' 26 (by omega)]; exact e2
  · rw [g 27 (by omega), g' 27 (by omega)]; exact e3
  · rw [g 28 (by omega), g' 28 (by omega)]; exact e4
  · rw [g 29 (by omega), g' 29 (by omega)]; exact e5
  · rw [p2, q2, hP]
  · rw [p3, q3, hP]
  · rw [p1, q1]
  · obtain ⟨f1, f2, f3, f4⟩ := p4 s hs
    obtain ⟨k1, k2, k3, k4⟩ := q4 s hs
    rw [f1, f2, f3, f4, k1, k2, k3, k4, hBe s hs, hVe s hs]
    exact ⟨rfl, rfl, rfl, rfl⟩
  · rw [p1, show tn (0 : Int32) = 0 from rfl] at hj2
    omega
  · rw [g 41 (by omega), g' 41 (by omega)]
    rw [g 29 (by omega)] at hne
    exact e11 hrq hne s hs
  · rw [g 25 (by omega)]; exact a1
  · rw [g 26 (by omega)]; exact a2
  · rw [g 28 (by omega)]; exact a3
  · rw [p2]; exact ap_b0 (fun j hj2 => w1 j (by omega)) a4
  · rw [g 47 (by omega)]; exact c5
  · rw [g 48 (by omega)]; exact c6
  · rw [g 49 (by omega)]; exact c7
  · rw [(p4 s hs).1, (p4 s hs).2.1]
    exact ap_dk hM (fun j hj2 => w1 j (by omega)) w2 s hs
  · simp only [apP]; rw [p3, p2]
  · simp only [apB, apV]; rw [(p4 s hs).1, (p4 s hs).2.1, (p4 s hs).2.2.1, (p4 s hs).2.2.2]; exact ⟨rfl, rfl⟩
  · intro hq2
    rw [g 26 (by omega)] at hq2
    have hz0 := c9 hq2
    have hq0 : q = 0 := by omega
    obtain ⟨k1, k2⟩ := hj hq2
    subst hq0
    refine ⟨by rw [p2]; exact k1, fun s hs => ?_⟩
    rw [(p4 s hs).1, (p4 s hs).2.1]
    exact k2 s hs
  · rcases hrr with h | ⟨h1, h2, h3, h4⟩
    · exact Or.inl (by rw [g 29 (by omega)]; exact h)
    · refine Or.inr ⟨by rw [g 29 (by omega)]; exact h1, by rw [g 25 (by omega)]; exact h2, by rw [g 26 (by omega)]; exact h3, fun s hs => ?_⟩
      rw [g 41 (by omega)]
      exact h4 s hs
/-- the reference leaves its view: it is what the disk has become -/
theorem fl_kp {rq : Prop} {B zc M z : Nat} {n m m' : ND} (h : NR rq B zc M n m) (hz : n 83 0 = nI z) (hz5 : z ≤ 512) (hr : FlN m z m') : KpN m z m' := by
  obtain ⟨⟨⟨e1, e2, e3, e4, e5, e6, e7, e8⟩, e9, e10, e11⟩, z0, ⟨a1, a2, a3, a4⟩, ⟨c1, c2, ⟨C, c3, c4, c5, c6, c7⟩, c8, c9⟩, ⟨w1, w2⟩, ⟨v1, v2⟩, hj, hrr⟩ := h
  have ez : z0 = z := nI_inj (by have := cap_le c3; omega) (by omega) (c2.symm.trans hz)
  subst ez
  have t83 : tn (n 83 0) = z0 := by rw [hz]; exact tn_nI (by omega)
  obtain ⟨q1, q2, q3, q4⟩ := hr
  have hP : apP n (n 60 0) z0 = apP m (m 60 0) z0 := apP_cong e6 (fun j hj2 => (e10 j (by omega)).2.1)
  refine ⟨q1, q2, ?_, fun s hs => ⟨(q3 s hs).1, (q3 s hs).2, ?_, ?_⟩, fun f j g1 g2 g3 g4 g5 g6 g7 => q4 f j g1 g2 g4 g5⟩
  · rw [q4 _ _ (by decide) (by decide) (by decide) (by decide), ← e7, v1, hP]
  · rw [q4 _ _ (by decide) (by decide) (by decide) (by decide), ← (e9 s hs).2.2.1, (v2 s hs).1]
    exact apB_cong (e9 s hs).1 (fun j hj2 => ⟨(e10 j (by omega)).1, (e10 j (by omega)).2.1⟩)
  · rw [q4 _ _ (by decide) (by decide) (by decide) (by decide), ← (e9 s hs).2.2.2, (v2 s hs).2]
    exact apV_cong (e9 s hs).2.1 (fun j hj2 => ⟨(e10 j (by omega)).1, (e10 j (by omega)).2.2⟩)
/-- so does the class -/
theorem fl_kc {B zc M z : Nat} {n n' : ND} (h : IN B zc M n) (hz : n 83 0 = nI z) (hz5 : z ≤ 512) (hr : FlN n z n') : KpN n z n' := by
  obtain ⟨z0, ⟨a1, a2, a3, a4⟩, ⟨c1, c2, ⟨C, c3, c4, c5, c6, c7⟩, c8, c9⟩, ⟨w1, w2⟩, ⟨v1, v2⟩, hj, hrr⟩ := h
  have ez : z0 = z := nI_inj (by have := cap_le c3; omega) (by omega) (c2.symm.trans hz)
  subst ez
  obtain ⟨q1, q2, q3, q4⟩ := hr
  refine ⟨q1, q2, ?_, fun s hs => ⟨(q3 s hs).1, (q3 s hs).2, ?_, ?_⟩, fun f j g1 g2 g3 g4 g5 g6 g7 => q4 f j g1 g2 g4 g5⟩
  · rw [q4 _ _ (by decide) (by decide) (by decide) (by decide), v1]
  · rw [q4 _ _ (by decide) (by decide) (by decide) (by decide), (v2 s hs).1]
  · rw [q4 _ _ (by decide) (by decide) (by decide) (by decide), (v2 s hs).2]
