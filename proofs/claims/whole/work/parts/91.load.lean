/-! ===== the input is loaded ===== -/
theorem Qr.me {N M e p : Nat} {σ : CS} {g : RS} (h : Qr N M σ g e p) (hN : N ≤ 7) : F_X6_mayEnd g = some (g, if p = 8 ∨ p = 11 then 1 else 0) := by
  have hp := pw_N N (by omega)
  have fin9 : g.1 30 0 = nI 9 → F_X6_mayEnd g = some (g, 1) := fun h30 => by
    unfold F_X6_mayEnd B_X6_mayEnd_26
    rw [h30, if_pos (show nI 9 = (9 : Int32) from rfl)]
  have fin7 : ∀ m, g.1 30 0 = nI 7 → g.1 33 0 = hi m → m < 128 → (p = 8 → m ≠ 0) → (p ≠ 8 → m = 0) → (p = 7 ∨ p = 8) → F_X6_mayEnd g = some (g, if p = 8 ∨ p = 11 then 1 else 0) := fun m h30 h33 hm h8 h0 h78 => by
    unfold F_X6_mayEnd B_X6_mayEnd_26 B_X6_mayEnd_30
    rw [h30, if_neg (show ¬ nI 7 = (9 : Int32) by decide), if_pos (show nI 7 = (7 : Int32) from rfl), h33]
    rcases h78 with rfl | rfl
    · rw [h0 (by decide), if_pos (show hi 0 = -1 from rfl), if_neg (by decide)]
    · rw [if_neg (hi_m1 m hm (h8 rfl)), if_pos (Or.inl rfl)]
  have no : ∀ q, g.1 30 0 = nI q → q < 9 → q ≠ 7 → ¬ (p = 8 ∨ p = 11) → F_X6_mayEnd g = some (g, if p = 8 ∨ p = 11 then 1 else 0) := fun q h30 h9 h7 hn => by rw [mE h30 h9 h7, if_neg hn]
  obtain ⟨_, _, ⟨rfl, h30⟩ | ⟨l, m, _, _, _, _, hm, _, _, h33, hm8, hm0, ⟨rfl, h30⟩ | ⟨k, _, _, _, hc⟩⟩⟩ := h
  · exact no 0 h30 (by decide) (by decide) (by decide)
  · exact no 1 h30 (by decide) (by decide) (by decide)
  · rcases hc with ⟨rfl, _, h30⟩ | ⟨rfl, _, h30⟩ | ⟨rfl, _, h30⟩ | ⟨rfl, _, h30⟩ | ⟨rfl, _, h30, _⟩ | ⟨rfl, _, h30⟩ | ⟨rfl, _, h30⟩ | ⟨h78, _, h30⟩ | ⟨s, _, _, _, _, ⟨rfl, h30⟩ | ⟨rfl, h30⟩ | ⟨v, _, _, _, ⟨rfl, h30⟩ | ⟨h78, h30⟩⟩⟩
    · exact no 2 h30 (by decide) (by decide) (by decide)
    · exact no 3 h30 (by decide) (by decide) (by decide)
    · exact no 2 h30 (by decide) (by decide) (by decide)
    · exact no 8 h30 (by decide) (by decide) (by decide)
    · rw [fin9 h30, if_pos (Or.inr rfl)]
    · rw [fin9 h30, if_pos (Or.inr rfl)]
    · exact no 2 h30 (by decide) (by decide) (by decide)
    · exact fin7 m h30 h33 (by omega) hm8 hm0 h78
    · exact no 4 h30 (by decide) (by decide) (by decide)
    · exact no 5 h30 (by decide) (by decide) (by decide)
    · exact no 6 h30 (by decide) (by decide) (by decide)
    · exact fin7 m h30 h33 (by omega) hm8 hm0 h78
theorem Qr.ic {N M e p : Nat} {σ : CS} {g : RS} (h : Qr N M σ g e p) : F_X2_isComplete σ = some (σ, if p = 8 ∨ p = 11 then 1 else 0) := by
  have hp := h.p11
  unfold F_X2_isComplete B_X2_isComplete_18
  rw [h.1]
  by_cases h1 : p = 11
  · subst h1
    rw [if_pos (show nI 11 = (11 : Int32) from rfl), if_pos (Or.inr rfl)]
  · rw [if_neg (show ¬ nI p = (11 : Int32) from nI_ne (b := 11) (by omega) (by decide) h1)]
    by_cases h2 : p = 8
    · subst h2
      rw [if_pos (show nI 8 = (8 : Int32) from rfl), if_pos (Or.inl rfl)]
    · rw [if_neg (show ¬ nI p = (8 : Int32) from nI_ne (b := 8) (by omega) (by decide) h2), if_neg (by omega)]
section LD
variable {L : Nat} {ρ : RS} {ch : Nat → Int32}
theorem pers0 (hst : ∀ j, j < L → St ρ ch j) : ∀ d i x e, i + d = L → (gs ρ ch i).1 31 0 = nI e → e ≤ 25 → x ≤ e → ∀ t, t < 5 * x → (gs ρ ch L).1 32 t = (gs ρ ch i).1 32 t
  | 0, i, x, e, hi, _, _, _, t, _ => by rw [show i = L by omega]
  | d + 1, i, x, e, hi, h31, he, hx, t, ht => by
    obtain ⟨_, e1, e1', a1, a2, a3, a4, _, a6⟩ := hst i (by omega)
    have : e1 = e ∨ ¬ e1 < 2 ^ 31 := by
      by_cases hb : e1 < 2 ^ 31
      · exact Or.inl (nI_inj hb (by omega) (a1.symm.trans h31))
      · exact Or.inr hb
    have hee : e1 = e := by omega
    rw [pers0 hst d (i + 1) x e1' (by omega) a2 a4 (by omega) t ht, a6 t (by omega)]
theorem pers (hst : ∀ j, j < L → St ρ ch j) {i x : Nat} (hi : i ≤ L) (h31 : (gs ρ ch i).1 31 0 = nI x) (hx : x ≤ 25) (h59 : i < L → ch i = 59) : ∀ t, t < 5 * (x + 1) → (gs ρ ch L).1 32 t = (gs ρ ch i).1 32 t := fun t ht => by
  by_cases e : i = L
  · rw [e]
  · obtain ⟨_, e1, e1', a1, a2, a3, a4, a5, a6⟩ := hst i (by omega)
    have hee : e1 = x := nI_inj (by omega) (by omega) (a1.symm.trans h31)
    have := a5 (h59 (by omega))
    rw [pers0 hst (L - (i + 1)) (i + 1) (x + 1) e1' (by omega) a2 a4 (by omega) t ht, a6 t (by omega)]
theorem monoE (hst : ∀ j, j < L → St ρ ch j) {eL : Nat} (hL : (gs ρ ch L).1 31 0 = nI eL) (heL : eL ≤ 25) : ∀ d i e, i + d = L → (gs ρ ch i).1 31 0 = nI e → e ≤ 25 → e ≤ eL
  | 0, i, e, hi, h31, he => by
    rw [show i = L by omega, hL] at h31
    have := nI_inj (by omega) (by omega) h31
    omega
  | d + 1, i, e, hi, h31, he => by
    obtain ⟨_, e1, e1', a1, a2, a3, a4, _, _⟩ := hst i (by omega)
    have hee : e1 = e := nI_inj (by omega) (by omega) (a1.symm.trans h31)
    have := monoE hst hL heL d (i + 1) e1' (by omega) a2 a4
    omega
end LD
theorem eq11 {N0 f : Nat} {σ : CS} {v1 v2 : Int32} : B_X5_load_42 N0 (f + 1) σ v1 v2 = (if (σ 5 0 0) ≤ v2 then lt (pt σ 5 0 0 (0 : Int32)) fun σ110 => some (σ110, .inl v1) else gd (inb v2 60) (bd (F_X2_takes σ (σ 40 0 (tn v2)) (σ 6 0 0) (σ 7 0 0)) fun σ105 r106 => (if (v2 + (1 : Int32)) = (σ105 5 0 0) then B_X5_load_95 N0 (B_X5_load_42 N0 f) σ105 v1 v2 else gd (inb (v2 + (1 : Int32)) 60) (if (σ105 40 0 (tn (v2 + (1 : Int32)))) = (59 : Int32) then B_X5_load_95 N0 (B_X5_load_42 N0 f) σ105 v1 v2 else B_X5_load_105 N0 (B_X5_load_42 N0 f) σ105 v1 v2)))) := rfl
theorem eq60 {f : Nat} {ρ : RS} {v2 v3 : Int32} : B_X6_load_60 (f + 1) ρ v2 v3 = (if (ρ.1 31 0) ≤ v3 then lt (rp ρ 27 0 (0 : Int32)) fun σ112 => some (σ112, v2) else bd (F_X6_does ρ ((5 : Int32) * v3)) fun σ113 r114 => (if r114 = 0 then B_X6_load_84 (B_X6_load_60 f) σ113 v3 (0 : Int32) v2 else B_X6_load_84 (B_X6_load_60 f) σ113 v3 (1 : Int32) v2)) := rfl
theorem sp_2 {c0 N M L eL N0 : Nat} {σ0 : CS} {ρ R0 : RS} (hJ0 : Jc c0 N M L σ0 ρ) (hcL : c0 + L ≤ 512) (hst : ∀ j, j < L → St ρ (σ0 40 0) j) (hpf : ∀ j, j ≤ L → Pf ρ (gs ρ (σ0 40 0) j)) (hme : F_X6_mayEnd (gs ρ (σ0 40 0) L) = some (gs ρ (σ0 40 0) L, 1)) (hL : (gs ρ (σ0 40 0) L).1 31 0 = nI eL) (heL : eL + 1 ≤ L) (heL2 : eL ≤ 25) (h31 : R0.1 31 0 = nI (eL + 1)) (hT : ∀ t, R0.1 32 t = (gs ρ (σ0 40 0) L).1 32 t) :
    ∀ d i σi R x v f f2 e p, i + d = L → d < f → eL + 1 - x < f2 → x ≤ eL + 1 → Jc (c0 + x) N M L σi R → Xr R = Xr R0 → (∀ j, σi 40 0 j = σ0 40 0 j) → Qr N M σi (gs ρ (σ0 40 0) i) e p → 3 * e + min p 2 ≤ i → (i < L → (σ0 40 0 i = 59 → x = e + 1) ∧ (¬ σ0 40 0 i = 59 → x = e)) → (i = L → x = eL + 1) →
      ∃ σ' R' r, B_X5_load_42 N0 f σi v (nI i) = some (pt σ' 5 0 0 0, .inl r) ∧ B_X6_load_60 f2 R v (nI x) = some (rp R' 27 0 0, r) ∧ Jc (c0 + (eL + 1)) N M L σ' R' ∧ Xr R' = Xr R0 := by
  intro d
  have hN := hJ0.1.1.2.2
  have hM := hJ0.1.2.1.2.2
  have hL60 := hJ0.1.2.2.1.2.2
  induction d with
  | zero =>
    intro i σi R x v f f2 e p hi hf hf2 hx hJ hX hch hQ hep hx1 hx2
    obtain ⟨f, rfl⟩ : ∃ g, f = g + 1 := ⟨f - 1, by omega⟩
    obtain ⟨f2, rfl⟩ : ∃ g, f2 = g + 1 := ⟨f2 - 1, by omega⟩
    have hiL : i = L := by omega
    have hxL := hx2 hiL
    subst hxL
    refine ⟨σi, R, v, ?_, ?_, hJ, hX⟩
    · rw [eq11, hJ.1.2.2.1.1, if_pos (nI_le (by omega) (by omega)), lt_eq]
    · rw [eq60, Xr_rd hX (Or.inr (by decide)), h31, if_pos (nI_le (Nat.le_refl _) (by omega)), lt_eq]
  | succ d ih =>
    intro i σi R x v f f2 e p hi hf hf2 hx hJ hX hch hQ hep hx1 hx2
    obtain ⟨f, rfl⟩ : ∃ g, f = g + 1 := ⟨f - 1, by omega⟩
    have hiL : i < L := by omega
    have hJg := hJ0.pf (hpf i (by omega))
    obtain ⟨b, hb1, hb2, eb, _⟩ := hJ0.1.2.2.2.2.2.2 i hiL
    obtain ⟨σ1, ρ1, r1, t1, t2, t3, t4, t5⟩ := tk_all (a := b) hQ (by omega) (by omega) (by omega) hN.2 (by omega) hM.2 hJg.r1 hJg.r2
    have hSi := (hst i hiL).1
    rw [eb, t2] at hSi
    obtain ⟨rfl, rfl⟩ := Prod.mk.inj (Option.some.inj hSi)
    rcases t5 with h0 | ⟨_, e', p', hQ', htb, hnx⟩
    · exact absurd h0 (by decide)
    have hxe : x = e' ∧ 3 * e' + min p' 2 ≤ i + 1 := by
      rcases hnx with ⟨h59, _, h1, h2⟩ | ⟨h59, h1, h2, h3⟩
      · have := (hx1 hiL).1 (by rw [eb, h59]; rfl)
        omega
      · have := (hx1 hiL).2 (by rw [eb]; exact nI_ne (b := 59) (by omega) (by decide) h59)
        omega
    obtain ⟨rfl, hep'⟩ := hxe
    have hJ1 : Jc (c0 + x) N M L σ1 R := hJ.rf t3
    have hch1 : ∀ j, σ1 40 0 j = σ0 40 0 j := fun j => (t3 40 0 j (by omega)).trans (hch j)
    have hxle := monoE hst hL heL2 (L - (i + 1)) (i + 1) x (by omega) hQ'.2.1 (by omega)
    have e51 : σ1 5 0 0 = nI L := hJ1.1.2.2.1.1
    have step : B_X5_load_42 N0 (f + 1) σi v (nI i) = (if nI (i + 1) = nI L then B_X5_load_95 N0 (B_X5_load_42 N0 f) σ1 v (nI i) else gd (inb (nI (i + 1)) 60) (if (σ1 40 0 (tn (nI (i + 1)))) = (59 : Int32) then B_X5_load_95 N0 (B_X5_load_42 N0 f) σ1 v (nI i) else B_X5_load_105 N0 (B_X5_load_42 N0 f) σ1 v (nI i))) := by
      rw [eq11, hJ.1.2.2.1.1, if_neg (nI_ge hiL (by omega)), gd_inb (show i < 60 by omega) (by decide), tn_nI (show i < 2 ^ 31 by omega), hch, eb, hJ.1.1.1, hJ.1.2.1.1, t1, bd_s, nI_1, e51]
    -- an event is carried out behind this character
    have exec : (p' = 8 ∨ p' = 11) → (i + 1 < L → σ0 40 0 (i + 1) = 59) → ∃ σ' R' r, B_X5_load_95 N0 (B_X5_load_42 N0 f) σ1 v (nI i) = some (pt σ' 5 0 0 0, .inl r) ∧ B_X6_load_60 f2 R v (nI x) = some (rp R' 27 0 0, r) ∧ Jc (c0 + (eL + 1)) N M L σ' R' ∧ Xr R' = Xr R0 := fun hp h59 => by
      have hT' : ∀ j, j < 5 * (x + 1) → R.1 32 j = (gs ρ (σ0 40 0) (i + 1)).1 32 j := fun j hj => by
        rw [Xr_rd hX (Or.inr (by decide)), hT, pers hst (i := i + 1) (by omega) hQ'.2.1 (by omega) h59 j hj]
      have hp2 : 2 ≤ min p' 2 := by omega
      obtain ⟨σ2, R2, r, k1, k2, k3, k4, k5, k6⟩ := ev_2 hJ1 (by omega) (by omega) hQ' hp hT'
      obtain ⟨f2, rfl⟩ : ∃ g, f2 = g + 1 := ⟨f2 - 1, by omega⟩
      have hsx : x + 1 ≤ eL + 1 := by omega
      obtain ⟨σ', R', r', q1, q2, q3, q4⟩ := ih (i + 1) σ2 R2 (x + 1) (v + r) f f2 x p' (by omega) (by omega) (by omega) hsx k5 (k4.trans hX) (fun j => (k6 40 j (Or.inr rfl)).trans (hch1 j)) (hQ'.cg (fun f g1 g2 => k6 f 0 (Or.inl ⟨g1, g2⟩))) hep' (fun hl => ⟨fun _ => rfl, fun q => absurd (h59 hl) q⟩) (fun hl => by
        have e0 : nI x = nI eL := by rw [← hL, ← hl]; exact hQ'.2.1.symm
        have := nI_inj (by omega) (by omega) e0
        omega)
      refine ⟨σ', R', r', ?_, ?_, q3, q4⟩
      · unfold B_X5_load_95 B_X5_load_105
        have ea : asn r = r := by rcases k3 with rfl | rfl <;> rfl
        rw [k1, bd_s, asn_c, bd_s, ea, lt_eq, lt_eq, nI_1, q1]
      · rw [eq60, Xr_rd hX (Or.inr (by decide)), h31, if_neg (nI_ge (by omega) (by omega)), m5, k2, bd_s]
        unfold B_X6_load_84
        rcases k3 with rfl | rfl
        · rw [if_pos rfl, lt_eq, lt_eq, nI_1, q2]
        · rw [if_neg (show ¬ (1 : Int32) = 0 by decide), lt_eq, lt_eq, nI_1, q2]
    rw [step]
    by_cases hend : i + 1 = L
    · rw [if_pos (by rw [hend])]
      refine exec ?_ (fun h => absurd hend (by omega))
      have hm := hQ'.me hN.2
      rw [hend, hme] at hm
      have := (Prod.mk.inj (Option.some.inj hm)).2
      by_cases hp : p' = 8 ∨ p' = 11
      · exact hp
      · rw [if_neg hp] at this
        exact absurd this (by decide)
    · have hi1 : i + 1 < L := by omega
      rw [if_neg (fun q => hend (nI_inj (by omega) (by omega) q)), gd_inb (show i + 1 < 60 by omega) (by decide), tn_nI (show i + 1 < 2 ^ 31 by omega), hch1]
      by_cases h59 : σ0 40 0 (i + 1) = 59
      · rw [if_pos h59]
        refine exec ?_ (fun _ => h59)
        have hJg1 := hJ0.pf (hpf (i + 1) (by omega))
        obtain ⟨σ3, ρ3, r3, s1, s2, s3, s4, s5⟩ := tk_all (a := 59) hQ' (by omega) (by omega) (by omega) hN.2 (by omega) hM.2 hJg1.r1 hJg1.r2
        have hS1 := (hst (i + 1) hi1).1
        rw [h59, show (59 : Int32) = nI 59 from rfl, s2] at hS1
        have e3 := (Prod.mk.inj (Option.some.inj hS1)).2
        rcases s5 with h0 | ⟨_, e'', p'', _, _, hn⟩
        · rw [h0] at e3; exact absurd e3 (by decide)
        · omega
      · rw [if_neg h59]
        obtain ⟨σ', R', r', q1, q2, q3, q4⟩ := ih (i + 1) σ1 R x v f f2 x p' (by omega) (by omega) hf2 (by omega) hJ1 hX hch1 hQ' hep' (fun hl => ⟨fun q => absurd q h59, fun _ => rfl⟩) (fun hl => absurd hl hend)
        refine ⟨σ', R', r', ?_, q2, q3, q4⟩
        unfold B_X5_load_105
        rw [lt_eq, nI_1, q1]
theorem sm_load : Sm_load Inv := by
  rintro n σ ρ hn ⟨c, N, M, L, hcL, hJ⟩
  have hN := hJ.1.1.2.2
  have hL60 := hJ.1.2.2.1.2.2
  rw [hJ.le]
  obtain ⟨σ1, ρ1, i, e1, e2, hR, hP, hW⟩ := fp_2 hJ
  have hJ1 := (hJ.rf hR).pf hP
  have e5 : σ1 5 0 0 = nI L := hJ1.1.2.2.1.1
  have r27 : ρ1.1 27 0 = nI L := by rw [Ur_rd um_27]; exact hJ1.1.2.2.1.2.1
  have bad : F_X5_load σ (L + 1) = some (σ1, .inr 2) → F_X6_load ρ = some (rp ρ1 0 0 1, 0) → SL Inv n σ [(2, 1)] (F_X5_load σ (L + 1)) (F_X6_load ρ) := fun h1 h2 =>
    Or.inr ⟨σ1, rp ρ1 0 0 1, 0, 2, 1, h1, h2, rp_se, by decide, ⟨c, N, M, L, by omega, hJ1.t0⟩, by rw [hJ1.le, hJ.le]; exact Nat.le_refl _⟩
  have r22 : B_X6_load_22 ρ1 = some (rp ρ1 0 0 1, 0) := by
    unfold B_X6_load_22 B_X6_load_23 B_X6_load_34
    rw [if_pos rfl, lt_eq, if_neg (by rw [rp_se]; decide)]
  rcases hW with hi | ⟨rfl, hg, ⟨e, p, hQ, hep⟩, hst, hpf⟩
  · refine bad ?_ ?_
    · unfold F_X5_load B_X5_load_21
      rw [e1, bd_s, e5, if_pos (nI_lt hi (by omega))]
    · unfold F_X6_load
      rw [e2, bd_s, r27, if_neg (fun q => absurd (nI_inj (by omega) (by omega) q) (by omega)), r22]
  · have hme := hQ.me hN.2
    have hic := hQ.ic
    by_cases hp : p = 8 ∨ p = 11
    · rw [if_pos hp] at hme hic
      have he1 : e + 1 ≤ i := by omega
      generalize hR0 : rp (rp ρ1 0 0 0) 31 0 (nI (e + 1)) = R0
      have h31 : R0.1 31 0 = nI (e + 1) := by rw [← hR0]; exact rp_se
      have hT : ∀ t, R0.1 32 t = (gs ρ (σ 40 0) i).1 32 t := fun t => by rw [← hR0, rp_n2 (by decide), rp_n2 (by decide), hg]
      have hJR : Jc (c + 0) N M i (pt σ1 76 0 0 0) R0 := by
        have := (hJ1.t0 (v := 0)).rf (Rf.rfl.w (f := 76) (v := 0) (by decide) (by decide))
        refine this.pf ?_
        rw [← hR0]
        exact Pf.rfl.w (by decide)
      have hQ0 : Qr N M (pt σ1 76 0 0 0) (gs ρ (σ 40 0) 0) 0 0 := ⟨by simp [pt]; rfl, by simp [gs, rp]; rfl, Or.inl ⟨rfl, by simp [gs, rp]; rfl⟩⟩
      have hL31 : (gs ρ (σ 40 0) i).1 31 0 = nI e := by rw [← hg]; exact hQ.2.1
      have hi0 : 0 < i := by omega
      have h0ne : ¬ σ 40 0 0 = 59 := fun q => by
        have hJg := hJ.pf (hpf 0 (by omega))
        obtain ⟨σ3, ρ3, r3, s1, s2, s3, s4, s5⟩ := tk_all (a := 59) hQ0 (by omega) (by omega) (by omega) hN.2 (by have := hJ.1.2.1.2.2; omega) hJ.1.2.1.2.2.2 hJg.r1 hJg.r2
        have hS1 := (hst 0 hi0).1
        rw [q, show (59 : Int32) = nI 59 from rfl, s2] at hS1
        have e3 := (Prod.mk.inj (Option.some.inj hS1)).2
        rcases s5 with h0 | ⟨_, e'', p'', _, _, hn⟩
        · rw [h0] at e3; exact absurd e3 (by decide)
        · omega
      obtain ⟨σ', R', r, q1, q2, q3, q4⟩ := sp_2 (N0 := i + 1) hJ (by omega) hst hpf (by rw [← hg]; exact hme) hL31 he1 (by omega) h31 hT i 0 (pt σ1 76 0 0 0) R0 0 0 (i + 1) 4096 0 0 (by omega) (by omega) (by omega) (by omega) hJR rfl (fun j => by simp [pt]; exact hR 40 0 j (by omega)) hQ0 (by omega) (fun _ => ⟨fun q => absurd q h0ne, fun _ => rfl⟩) (fun q => by omega)
      have hJ' := q3.len (Nat.zero_le i)
      refine Or.inl ⟨pt σ' 5 0 0 0, rp R' 27 0 0, r, ?_, ?_, ?_, ⟨c + (e + 1), N, M, 0, by omega, hJ'⟩, hJ'.le⟩
      · unfold F_X5_load F_X2_reset
        rw [e1, bd_s, e5, if_neg (nI_nlt (Nat.le_refl _) (by omega)), hic, bd_s, if_neg (show ¬ (1 : Int32) = 0 by decide), lt_eq, bd_s]
        exact q1
      · unfold F_X6_load B_X6_load_23 B_X6_load_34
        rw [e2, bd_s, r27, if_pos rfl, hme, bd_s, if_neg (show ¬ (1 : Int32) = 0 by decide), if_neg (show ¬ (1 : Int32) = 0 by decide), lt_eq, if_pos (by rw [rp_se]; decide), lt_eq, rp_n2 (show (31 : Nat) ≠ 0 by decide), hQ.2.1, nI_1, hR0]
        exact q2
      · rw [rp_n2 (by decide), Xr_rd q4 (Or.inl rfl), ← hR0, rp_n2 (by decide), rp_se]
    · rw [if_neg hp] at hme hic
      refine bad ?_ ?_
      · unfold F_X5_load B_X5_load_21
        rw [e1, bd_s, e5, if_neg (nI_nlt (Nat.le_refl _) (by omega)), hic, bd_s, if_pos rfl]
      · unfold F_X6_load
        rw [e2, bd_s, r27, if_pos rfl, hme, bd_s, if_pos rfl, r22]
