/-! ===== the reader of events: one character, the whole input ===== -/
theorem tk_all {N M a e p : Nat} {σ : CS} {ρ : RS} (h : Qr N M σ ρ e p) (ha : a < 127) (he : 5 * e + 4 < 150) (hN3 : 0 < N) (hN : N ≤ 7) (hM3 : 0 < M) (hM : M ≤ 4) (d1 : ρ.1 1 0 = nI N) (d2 : ρ.1 2 0 = nI M) : TK N M a e p σ ρ := by
  obtain ⟨h76, h31, ⟨rfl, h30⟩ | ⟨l, m, hp1, hl, h70, hT0, hm, h74, hT4, h33, hm8, hm0, ⟨rfl, h30⟩ | ⟨k, hk, h71, hT1, hc⟩⟩⟩ := h
  · exact tk_0 ha h76 h31 he h30
  · have e0 := hm0 (by decide)
    subst e0
    exact tk_1 ha hN3 hN d1 hl h76 h31 he h30 h70 hT0 h74 hT4 h33
  · have hp := pw_N N (by omega)
    have end8 : ∀ (hp8 : p = 8) (h30 : ρ.1 30 0 = nI 7) (h59 : a = 59), TK N M a e p σ ρ := fun hp8 h30 h59 => by
      refine tk_e (Or.inl hp8) h59 h31 ?_ ?_
      · subst hp8; subst h59
        unfold F_X2_takes; rw [lt_eq, h76]; rfl
      · unfold F_X6_mayEnd B_X6_mayEnd_26
        rw [h30, if_neg (show ¬ nI 7 = (9 : Int32) by decide), if_pos (show nI 7 = (7 : Int32) from rfl), h33, if_neg (hi_m1 m (by omega) (hm8 hp8))]
    have rch : ∀ (hp78 : p = 7 ∨ p = 8) (h30 : ρ.1 30 0 = nI 7) (hQ : ∀ m', m' < 2 ^ N → m' ≠ 0 → ∀ σ' ρ', (∀ f, f ≠ 74 → f ≠ 76 → σ' f 0 0 = σ f 0 0) → σ' 74 0 0 = nI m' → σ' 76 0 0 = nI 8 → (∀ f j, ¬ (f = 33 ∧ j = 0) → ¬ (f = 32 ∧ j = 5 * e + 4) → ρ'.1 f j = ρ.1 f j) → ρ'.1 33 0 = hi m' → ρ'.1 32 (5 * e + 4) = nI m' → Qr N M σ' ρ' e 8), TK N M a e p σ ρ := fun hp78 h30 hQ => by
      by_cases h59 : p = 8 ∧ a = 59
      · exact end8 h59.1 h30 h59.2
      · refine tk_r ha hN3 hN d1 hm (by omega) h31 he h74 hT4 h33 ?_ ?_ hQ
        · rcases hp78 with rfl | rfl
          · unfold F_X2_takes; rw [lt_eq, h76]
            show bd (F_X2_digit σ (nI a) (nI N)) _ = _
            cases F_X2_digit σ (nI a) (nI N) with
            | none => rfl
            | some q => rfl
          · have hne : ¬ nI a = (59 : Int32) := nI_ne (b := 59) ha (by decide) (fun q => h59 ⟨rfl, q⟩)
            have c1 : F_X2_takes σ (nI a) (nI N) (nI M) = if nI a = (59 : Int32) then B_X2_takes_233 (nI a) (nI N) (nI M) σ 1 else B_X2_takes_233 (nI a) (nI N) (nI M) σ 0 := by
              unfold F_X2_takes; rw [lt_eq, h76]; rfl
            rw [c1, if_neg hne]
            unfold B_X2_takes_233 B_X2_takes_252
            rw [go0, bd_s, if_pos rfl]
            by_cases hd : 48 ≤ a ∧ a < 48 + N
            · rw [dig_y hd.1 hd.2 (by omega), bd_s, bd_s]
              unfold F_X2_takesReached B_X2_takesReached_14
              rw [if_neg (show ¬ nI (a - 48) = -1 from nI_m1 (by omega))]
              by_cases hz : σ 74 0 0 >>> (nI (a - 48) &&& 31) = 0
              · rw [if_pos hz, lt_eq, lt_eq]; rfl
              · rw [if_neg hz]; rfl
            · rw [dig_n hd ha, bd_s, bd_s]; rfl
        · have hE : F_X6_mayEnd ρ = some (ρ, 0) ∨ ¬ nI a = (59 : Int32) := by
            rcases hp78 with rfl | rfl
            · left
              have e0 := hm0 (by decide)
              subst e0
              unfold F_X6_mayEnd B_X6_mayEnd_30
              rw [h30, if_neg (show ¬ nI 7 = (9 : Int32) by decide), if_pos (show nI 7 = (7 : Int32) from rfl), h33, if_pos (show hi 0 = -1 from rfl)]
            · exact Or.inr (nI_ne (b := 59) ha (by decide) (fun q => h59 ⟨rfl, q⟩))
          rw [tks hE]
          unfold B_X6_takes_30; rw [lt_eq, h30]; rfl
    have end11 : ∀ (hp11 : p = 11) (h30 : ρ.1 30 0 = nI 9), TK N M a e p σ ρ := fun hp11 h30 => by
      subst hp11
      have c1 : F_X2_takes σ (nI a) (nI N) (nI M) = if nI a = (59 : Int32) then B_X2_takes_318 (nI a) (nI N) (nI M) σ 1 else B_X2_takes_318 (nI a) (nI N) (nI M) σ 0 := by
        unfold F_X2_takes; rw [lt_eq, h76]; rfl
      by_cases h59 : a = 59
      · refine tk_e (Or.inr rfl) h59 h31 ?_ ?_
        · subst h59; rw [c1]; rfl
        · unfold F_X6_mayEnd B_X6_mayEnd_26
          rw [h30, if_pos (show nI 9 = (9 : Int32) from rfl)]
      · have hne : ¬ nI a = (59 : Int32) := nI_ne (b := 59) ha (by decide) h59
        refine TK.bad (σ' := σ) (ρ' := ρ) (by rw [c1, if_neg hne]; rfl) ?_ Rf.rfl Pf.rfl
        rw [tks (Or.inr hne)]
        unfold B_X6_takes_30; rw [lt_eq, h30]; rfl
    rcases hc with ⟨rfl, rfl, h30⟩ | ⟨rfl, rfl, h30⟩ | ⟨rfl, rfl, h30⟩ | ⟨rfl, rfl, h30⟩ | ⟨hp11, _, h30, _⟩ | ⟨hp11, _, h30⟩ | ⟨rfl, hl2, h30⟩ | ⟨hp78, hl2, h30⟩ | ⟨s, rfl, hs, h72, hT2, hc⟩
    · have e0 := hm0 (by decide)
      subst e0
      exact tk_2 ha hk h76 h31 he h30 h70 hT0 h74 hT4 h33 h71 hT1
    · have e0 := hm0 (by decide)
      subst e0
      exact tk_3 ha hM3 hM d2 hk h76 h31 he h30 h70 hT0 h74 hT4 h33 h71 hT1
    · have e0 := hm0 (by decide)
      subst e0
      exact tk_9 ha hk h76 h31 he h30 h70 hT0 h74 hT4 h33 h71 hT1
    · have e0 := hm0 (by decide)
      subst e0
      exact tk_10 ha hk h76 h31 he h30 h70 hT0 h74 hT4 h33 h71 hT1
    · exact end11 hp11 h30
    · exact end11 hp11 h30
    · have e0 := hm0 (by decide)
      subst e0
      exact tk_6 ha hk hl2 h76 h31 he h30 h70 hT0 h74 hT4 h33 h71 hT1
    · refine rch hp78 h30 (fun m' hm' hz σ' ρ' q1 q2 q3 q4 q5 q6 => ⟨q3, by rw [q4 31 0 (by omega) (by omega)]; exact h31, Or.inr ⟨l, m', by decide, hl, by rw [q1 70 (by decide) (by decide)]; exact h70, by rw [q4 32 (5 * e) (by omega) (by omega)]; exact hT0, hm', q2, q6, q5, fun _ => hz, fun q => absurd rfl q, Or.inr ⟨k, hk, by rw [q1 71 (by decide) (by decide)]; exact h71, by rw [q4 32 (5 * e + 1) (by omega) (by omega)]; exact hT1, Or.inr (Or.inr (Or.inr (Or.inr (Or.inr (Or.inr (Or.inr (Or.inl ⟨Or.inr rfl, hl2, by rw [q4 30 0 (by omega) (by omega)]; exact h30⟩)))))))⟩⟩⟩)
    · rcases hc with ⟨rfl, h30⟩ | ⟨rfl, h30⟩ | ⟨v, hv, h73, hT3, ⟨rfl, h30⟩ | ⟨hp78, h30⟩⟩
      · have e0 := hm0 (by decide)
        subst e0
        exact tk_4 ha hk hs h76 h31 he h30 h70 hT0 h74 hT4 h33 h71 hT1 h72 hT2
      · have e0 := hm0 (by decide)
        subst e0
        exact tk_5 ha hk hs h76 h31 he h30 h70 hT0 h74 hT4 h33 h71 hT1 h72 hT2
      · have e0 := hm0 (by decide)
        subst e0
        exact tk_6a ha hk hs hv h76 h31 he h30 h70 hT0 h74 hT4 h33 h71 hT1 h72 hT2 h73 hT3
      · refine rch hp78 h30 (fun m' hm' hz σ' ρ' q1 q2 q3 q4 q5 q6 => ⟨q3, by rw [q4 31 0 (by omega) (by omega)]; exact h31, Or.inr ⟨97, m', by decide, hl, by rw [q1 70 (by decide) (by decide)]; exact h70, by rw [q4 32 (5 * e) (by omega) (by omega)]; exact hT0, hm', q2, q6, q5, fun _ => hz, fun q => absurd rfl q, Or.inr ⟨k, hk, by rw [q1 71 (by decide) (by decide)]; exact h71, by rw [q4 32 (5 * e + 1) (by omega) (by omega)]; exact hT1, Or.inr (Or.inr (Or.inr (Or.inr (Or.inr (Or.inr (Or.inr (Or.inr ⟨s, rfl, hs, by rw [q1 72 (by decide) (by decide)]; exact h72, by rw [q4 32 (5 * e + 2) (by omega) (by omega)]; exact hT2, Or.inr (Or.inr ⟨v, hv, by rw [q1 73 (by decide) (by decide)]; exact h73, by rw [q4 32 (5 * e + 3) (by omega) (by omega)]; exact hT3, Or.inr ⟨Or.inr rfl, by rw [q4 30 0 (by omega) (by omega)]; exact h30⟩⟩)⟩)))))))⟩⟩⟩)
