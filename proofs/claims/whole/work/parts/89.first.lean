/-! ===== the whole input is read ===== -/
theorem lo22_ex {A A2 R R2 : Type} {st : (A → Int32 → Option R) → A → Int32 → Option R} {st2 : (A2 → Int32 → Option R2) → A2 → Int32 → Option R2} (N : Nat) (P : Nat → A → A2 → Prop) (Z : Option R → Option R2 → Prop) (hs : ∀ i a a2, i < N → P i a a2 → (∀ K K2, Z (st K a (nI i)) (st2 K2 a2 (nI i))) ∨ ∃ a' a2', P (i + 1) a' a2' ∧ (∀ K, st K a (nI i) = K a' (nI (i + 1))) ∧ ∀ K, st2 K a2 (nI i) = K a2' (nI (i + 1))) (he : ∀ a a2 K K2, P N a a2 → Z (st K a (nI N)) (st2 K2 a2 (nI N))) : ∀ (d i f f2 : Nat) (a : A) (a2 : A2), i + d = N → d < f → d < f2 → P i a a2 → Z (lo2 st f a (nI i)) (lo2 st2 f2 a2 (nI i)) := by
  intro d
  induction d with
  | zero =>
    intro i f f2 a a2 h1 h2 h3 hP
    obtain ⟨f, rfl⟩ : ∃ g, f = g + 1 := ⟨f - 1, by omega⟩
    obtain ⟨f2, rfl⟩ : ∃ g, f2 = g + 1 := ⟨f2 - 1, by omega⟩
    have e : i = N := by omega
    subst e
    exact he a a2 _ _ hP
  | succ d ih =>
    intro i f f2 a a2 h1 h2 h3 hP
    obtain ⟨f, rfl⟩ : ∃ g, f = g + 1 := ⟨f - 1, by omega⟩
    obtain ⟨f2, rfl⟩ : ∃ g, f2 = g + 1 := ⟨f2 - 1, by omega⟩
    show Z (st (lo2 st f) a (nI i)) (st2 (lo2 st2 f2) a2 (nI i))
    rcases hs i a a2 (by omega) hP with h | ⟨a', a2', hP', hst, hst2⟩
    · exact h _ _
    · rw [hst, hst2]
      exact ih (i + 1) f f2 a' a2' (by omega) (by omega) (by omega) hP'
/-- the parser's states while all goes well -/
def gs (ρ : RS) (ch : Nat → Int32) : Nat → RS
  | 0 => rp (rp ρ 30 0 0) 31 0 0
  | i + 1 => match F_X6_takes (gs ρ ch i) (ch i) with
    | some (ρ', _) => ρ'
    | none => gs ρ ch i
def St (ρ : RS) (ch : Nat → Int32) (j : Nat) : Prop := F_X6_takes (gs ρ ch j) (ch j) = some (gs ρ ch (j + 1), 1) ∧ ∃ e e', (gs ρ ch j).1 31 0 = nI e ∧ (gs ρ ch (j + 1)).1 31 0 = nI e' ∧ e ≤ e' ∧ e' ≤ 25 ∧ (ch j = 59 → e' = e + 1) ∧ ∀ t, t < 5 * e' → (gs ρ ch (j + 1)).1 32 t = (gs ρ ch j).1 32 t
def Wl (N M L : Nat) (σ' : CS) (ρ ρ' : RS) (ch : Nat → Int32) : Prop := ρ' = gs ρ ch L ∧ (∃ e p, Qr N M σ' ρ' e p ∧ 3 * e + min p 2 ≤ L) ∧ (∀ j, j < L → St ρ ch j) ∧ ∀ j, j ≤ L → Pf ρ (gs ρ ch j)
theorem Qr.p11 {N M e p : Nat} {σ : CS} {ρ : RS} (h : Qr N M σ ρ e p) : p ≤ 11 := by
  obtain ⟨_, _, ⟨rfl, _⟩ | ⟨l, m, _, _, _, _, _, _, _, _, _, _, ⟨rfl, _⟩ | ⟨k, _, _, _, hc⟩⟩⟩ := h
  · decide
  · decide
  · rcases hc with ⟨rfl, _⟩ | ⟨rfl, _⟩ | ⟨rfl, _⟩ | ⟨rfl, _⟩ | ⟨rfl, _⟩ | ⟨rfl, _⟩ | ⟨rfl, _⟩ | ⟨rfl | rfl, _⟩ | ⟨s, _, _, _, _, ⟨rfl, _⟩ | ⟨rfl, _⟩ | ⟨v, _, _, _, ⟨rfl, _⟩ | ⟨rfl | rfl, _⟩⟩⟩ <;> decide
theorem fp_2 {c N M L : Nat} {σ : CS} {ρ : RS} (hJ : Jc c N M L σ ρ) : ∃ σ' ρ' i, F_X5_readUpToError σ = some (σ', nI i) ∧ F_X6_rightLength ρ = some (ρ', nI i) ∧ Rf σ σ' ∧ Pf ρ ρ' ∧ (i < L ∨ i = L ∧ Wl N M L σ' ρ ρ' (σ 40 0)) := by
  have hN := hJ.1.1.2.2
  have hM := hJ.1.2.1.2.2
  have hL := hJ.1.2.2.1.2.2
  unfold F_X5_readUpToError F_X6_rightLength F_X2_reset
  rw [lt_eq, bd_s, lt_eq, lt_eq]
  unfold B_X5_readUpToError_9 B_X6_rightLength_12 B_X6_rightLength_39
  refine lo22_ex L (fun i a a2 => Rf σ a ∧ a2 = gs ρ (σ 40 0) i ∧ (∃ e p, Qr N M a a2 e p ∧ 3 * e + min p 2 ≤ i) ∧ (∀ j, j < i → St ρ (σ 40 0) j) ∧ ∀ j, j ≤ i → Pf ρ (gs ρ (σ 40 0) j)) (fun (R : Option (CS × Int32)) (R2 : Option (RS × Int32)) => ∃ σ' ρ' i, R = some (σ', nI i) ∧ R2 = some (ρ', nI i) ∧ Rf σ σ' ∧ Pf ρ ρ' ∧ (i < L ∨ i = L ∧ Wl N M L σ' ρ ρ' (σ 40 0))) ?_ ?_ L 0 4096 4096 (pt σ 76 0 0 0) (rp (rp ρ 30 0 0) 31 0 0) (by omega) (by omega) (by omega) ⟨Rf.rfl.w (by decide) (by decide), rfl, ⟨0, 0, ⟨by simp [pt]; rfl, by simp [rp]; rfl, Or.inl ⟨rfl, by simp [rp]; rfl⟩⟩, by omega⟩, fun j hj => by omega, fun j hj => by rw [show j = 0 by omega]; exact (Pf.rfl.w (by decide)).w (by decide)⟩
  · rintro i a a2 hi ⟨hR, h2, ⟨e, p, hQ, hep⟩, hS, hPf⟩
    have hP : Pf ρ a2 := by rw [h2]; exact hPf i (Nat.le_refl i)
    have hJa := (hJ.rf hR).pf hP
    obtain ⟨b, hb1, hb2, e1, e2⟩ := hJa.1.2.2.2.2.2.2 i hi
    have e1' : σ 40 0 i = nI b := by rw [← hR 40 0 i (by omega)]; exact e1
    have r27 : a2.1 27 0 = nI L := by rw [Ur_rd um_27]; exact hJa.1.2.2.1.2.1
    have r28 : a2.1 28 i = nI b := by rw [Ur_rd (um_28 (by omega)), e2]
    have hne : ¬ nI L ≤ nI i := nI_ge hi (by omega)
    have hst : ∀ K : CS → Int32 → Option (CS × Int32), (if (a 5 0 0) ≤ nI i then some (a, (a 5 0 0)) else gd (inb (nI i) 60) (bd (F_X2_takes a (a 40 0 (tn (nI i))) (a 6 0 0) (a 7 0 0)) fun σ105 r106 => (if r106 = 0 then some (σ105, nI i) else lt (nI i + 1) fun x108 => K σ105 x108))) = bd (F_X2_takes a (nI b) (nI N) (nI M)) fun σ105 r106 => (if r106 = 0 then some (σ105, nI i) else K σ105 (nI (i + 1))) := fun K => by
      rw [hJa.1.2.2.1.1, if_neg hne, gd_inb (show i < 60 by omega) (by decide), tn_nI (show i < 2 ^ 31 by omega), e1, hJa.1.1.1, hJa.1.2.1.1, nI_1]
      rfl
    have hst2 : ∀ K : RS → Int32 → Option (RS × Int32), (if (a2.1 27 0) ≤ nI i then some (a2, nI i) else gd (inb (nI i) 60) (bd (F_X6_takes a2 (a2.1 28 (tn (nI i)))) fun σ105 r106 => (if r106 = 0 then some (σ105, nI i) else lt (nI i + 1) fun x108 => K σ105 x108))) = bd (F_X6_takes a2 (nI b)) fun σ105 r106 => (if r106 = 0 then some (σ105, nI i) else K σ105 (nI (i + 1))) := fun K => by
      rw [r27, if_neg hne, gd_inb (show i < 60 by omega) (by decide), tn_nI (show i < 2 ^ 31 by omega), r28, nI_1]
      rfl
    obtain ⟨σ', ρ', r, t1, t2, t3, t4, t5⟩ := tk_all (a := b) hQ (by omega) (by omega) (by omega) hN.2 (by omega) hM.2 hJa.r1 hJa.r2
    rcases t5 with rfl | ⟨rfl, e', p', hQ', htb, hnx⟩
    · refine Or.inl fun K K2 => ⟨σ', ρ', i, ?_, ?_, hR.trans t3, hP.trans t4, Or.inl hi⟩
      · rw [hst, t1, bd_s, if_pos rfl]
      · rw [hst2, t2, bd_s, if_pos rfl]
    · have hg : gs ρ (σ 40 0) (i + 1) = ρ' := by
        show (match F_X6_takes (gs ρ (σ 40 0) i) (σ 40 0 i) with | some (ρ', _) => ρ' | none => gs ρ (σ 40 0) i) = ρ'
        rw [← h2, e1', t2]
      refine Or.inr ⟨σ', ρ', ⟨hR.trans t3, hg.symm, ⟨e', p', hQ', by omega⟩, fun j hj => ?_, fun j hj => ?_⟩, fun K => ?_, fun K => ?_⟩
      · by_cases hji : j = i
        · subst hji
          refine ⟨by rw [hg, ← h2, e1', t2], e, e', by rw [← h2]; exact hQ.2.1, by rw [hg]; exact hQ'.2.1, by omega, by omega, fun q => ?_, fun t ht => ?_⟩
          · have hb59 : b = 59 := nI_inj (b := 59) (by omega) (by decide) (by rw [← e1']; exact q)
            omega
          · rw [hg, ← h2]
            exact htb t ht
        · exact hS j (by omega)
      · by_cases hji : j = i + 1
        · subst hji
          rw [hg]
          exact hP.trans t4
        · exact hPf j (by omega)
      · rw [hst, t1, bd_s, if_neg (by decide)]
      · rw [hst2, t2, bd_s, if_neg (by decide)]
  · rintro a a2 K K2 ⟨hR, h2, hQ, hS, hPf⟩
    have hP : Pf ρ a2 := by rw [h2]; exact hPf L (Nat.le_refl L)
    have hJa := (hJ.rf hR).pf hP
    have r27 : a2.1 27 0 = nI L := by rw [Ur_rd um_27]; exact hJa.1.2.2.1.2.1
    refine ⟨a, a2, L, ?_, ?_, hR, hP, Or.inr ⟨rfl, h2, hQ, hS, hPf⟩⟩
    · rw [hJa.1.2.2.1.1, if_pos (nI_le (Nat.le_refl L) (by omega))]
    · rw [r27, if_pos (nI_le (Nat.le_refl L) (by omega))]
theorem sm_firstError : Sm_firstError Inv := by
  rintro n σ ρ hn ⟨c, N, M, L, hcL, hJ⟩
  obtain ⟨σ', ρ', i, e1, e2, hR, hP, _⟩ := fp_2 (hJ.t0 (v := 0))
  have hJ' := ((hJ.t0 (v := 0)).rf hR).pf hP
  refine ⟨σ', ρ', nI i, ?_, ?_, ⟨c, N, M, L, by omega, hJ'⟩, by rw [hJ'.le, hJ.le]; exact Nat.le_refl _⟩
  · unfold F_X5_firstError
    rw [e1, bd_s]
  · unfold F_X6_firstError
    rw [lt_eq, e2, bd_s]
