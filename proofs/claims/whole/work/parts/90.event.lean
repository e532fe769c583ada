/-! ===== one event is carried out ===== -/
theorem Qr.fin {N M e p : Nat} {σ : CS} {g : RS} (h : Qr N M σ g e p) (hp : p = 8 ∨ p = 11) : ∃ l k, σ 70 0 0 = nI l ∧ g.1 32 (5 * e) = nI l ∧ k < N ∧ σ 71 0 0 = nI k ∧ g.1 32 (5 * e + 1) = nI k ∧ ∃ m, m < 2 ^ N ∧ σ 74 0 0 = nI m ∧ g.1 32 (5 * e + 4) = nI m ∧
    (l = 99 ∧ (∃ v, v ≤ 9 ∧ σ 75 0 0 = nI v ∧ g.1 32 (5 * e + 3) = nI v) ∨ l = 102 ∨ l = 114 ∨ l = 119 ∨ l = 106 ∧ 1 ≤ m ∨ l = 112 ∧ 1 ≤ m ∨ l = 97 ∧ 1 ≤ m ∧ ∃ s v, s < M ∧ v ≤ 9 ∧ σ 72 0 0 = nI s ∧ g.1 32 (5 * e + 2) = nI s ∧ σ 73 0 0 = nI v ∧ g.1 32 (5 * e + 3) = nI v) := by
  obtain ⟨_, _, ⟨rfl, _⟩ | ⟨l, m, _, _, h70, hT0, hm, h74, hT4, _, hm8, _, ⟨rfl, _⟩ | ⟨k, hk, h71, hT1, hc⟩⟩⟩ := h
  · omega
  · omega
  · refine ⟨l, k, h70, hT0, hk, h71, hT1, m, hm, h74, hT4, ?_⟩
    rcases hc with ⟨rfl, _⟩ | ⟨rfl, _⟩ | ⟨rfl, _⟩ | ⟨rfl, _⟩ | ⟨_, hl, _, hv⟩ | ⟨_, hl, _⟩ | ⟨rfl, _⟩ | ⟨h78, hl, _⟩ | ⟨s, hl, hs, h72, hT2, ⟨rfl, _⟩ | ⟨rfl, _⟩ | ⟨v, hv, h73, hT3, ⟨rfl, _⟩ | ⟨h78, _⟩⟩⟩
    · omega
    · omega
    · omega
    · omega
    · exact Or.inl ⟨hl, hv⟩
    · rcases hl with rfl | rfl | rfl
      · exact Or.inr (Or.inl rfl)
      · exact Or.inr (Or.inr (Or.inl rfl))
      · exact Or.inr (Or.inr (Or.inr (Or.inl rfl)))
    · omega
    · have h1 : 1 ≤ m := Nat.pos_of_ne_zero (hm8 (by omega))
      rcases hl with rfl | rfl
      · exact Or.inr (Or.inr (Or.inr (Or.inr (Or.inl ⟨rfl, h1⟩))))
      · exact Or.inr (Or.inr (Or.inr (Or.inr (Or.inr (Or.inl ⟨rfl, h1⟩)))))
    · omega
    · omega
    · omega
    · have h1 : 1 ≤ m := Nat.pos_of_ne_zero (hm8 (by omega))
      exact Or.inr (Or.inr (Or.inr (Or.inr (Or.inr (Or.inr ⟨hl, h1, s, v, hs, hv, h72, hT2, h73, hT3⟩)))))
def EV (c N M L e : Nat) (σ : CS) (ρ : RS) : Prop := ∃ σ' ρ' r, F_X5_carriesOutEvent σ = some (σ', r) ∧ F_X6_does ρ (nI (5 * e)) = some (ρ', r) ∧ (r = 0 ∨ r = 1) ∧ Xr ρ' = Xr ρ ∧ Jc (c + 1) N M L σ' ρ' ∧ ∀ f j, (70 ≤ f ∧ f ≤ 76 ∨ f = 40) → σ' f 0 j = σ f 0 j
section EVT
variable {c N M L e k m : Nat} {σ : CS} {ρ : RS}
theorem EV.no (hJ : Jc c N M L σ ρ) (h1 : F_X5_carriesOutEvent σ = some (σ, 0)) (h2 : F_X6_does ρ (nI (5 * e)) = some (ρ, 0)) : EV c N M L e σ ρ := ⟨σ, ρ, 0, h1, h2, Or.inl rfl, rfl, hJ.mono (by omega), fun _ _ _ => rfl⟩
theorem EV.y {c' : Nat} {σ' : CS} {ρ' : RS} (hc : c' ≤ c + 1) (h1 : F_X5_carriesOutEvent σ = some (σ', 1)) (h2 : F_X6_does ρ (nI (5 * e)) = some (ρ', 1)) (hX : Xr ρ' = Xr ρ) (hJ : Jc c' N M L σ' ρ') (hf : ∀ f j, (70 ≤ f ∧ f ≤ 76 ∨ f = 40) → σ' f 0 j = σ f 0 j) : EV c N M L e σ ρ := ⟨σ', ρ', 1, h1, h2, Or.inr rfl, hX, hJ.mono hc, hf⟩
theorem ix (he : 5 * e + 4 < 150) : nI (5 * e) + (1 : Int32) = nI (5 * e + 1) ∧ nI (5 * e) + (2 : Int32) = nI (5 * e + 2) ∧ nI (5 * e) + (3 : Int32) = nI (5 * e + 3) ∧ nI (5 * e) + (4 : Int32) = nI (5 * e + 4) := ⟨nI_add _ 1, nI_add _ 2, nI_add _ 3, nI_add _ 4⟩
theorem ce0 (hJ : Jc c N M L σ ρ) (hk : k < N) (h71 : σ 71 0 0 = nI k) (hk7 : k < 7) (hp : F_X5_isPossible σ k = some (σ, 0)) : F_X5_carriesOutEvent σ = some (σ, 0) := by
  unfold F_X5_carriesOutEvent B_X5_carriesOutEvent_33
  rw [h71, (ind_c hJ.1.1.1 hJ.1.1.2.2.2).1 k hk rfl, bd_s, if_neg (show ¬ (1 : Int32) = 0 by decide), h71, g7 hk7, t7 hk7, hp, bd_s, if_pos rfl]
theorem ce1 (hJ : Jc c N M L σ ρ) (hk : k < N) (h71 : σ 71 0 0 = nI k) (hk7 : k < 7) (hp : F_X5_isPossible σ k = some (σ, 1)) : F_X5_carriesOutEvent σ = (if σ 70 0 0 = 97 then bd (F_X5_sendAccept σ k (σ 72 0 0) (σ 73 0 0) (σ 74 0 0)) fun σ108 r109 => some (σ108, (1 : Int32)) else (if σ 70 0 0 = 99 then bd (F_X5_bringDown σ k (σ 75 0 0)) fun σ111 r112 => some (σ111, (1 : Int32)) else (if σ 70 0 0 = 102 then bd (F_X3_carryOutAll σ k) fun σ114 r115 => some (σ114, (1 : Int32)) else (if σ 70 0 0 = 112 then bd (F_X5_sendPrepare σ k (σ 74 0 0)) fun σ117 r118 => some (σ117, (1 : Int32)) else (if σ 70 0 0 = 114 then bd (F_X3_bringUp σ k) fun σ120 r121 => some (σ120, (1 : Int32)) else (if σ 70 0 0 = 119 then bd (F_X3_loseDisk σ k) fun σ123 r124 => some (σ123, (1 : Int32)) else bd (F_X5_readFromOthers σ k (σ 74 0 0)) fun σ125 r126 => some (σ125, (1 : Int32)))))))) := by
  unfold F_X5_carriesOutEvent B_X5_carriesOutEvent_211
  rw [h71, (ind_c hJ.1.1.1 hJ.1.1.2.2.2).1 k hk rfl, bd_s, if_neg (show ¬ (1 : Int32) = 0 by decide), h71, g7 hk7, t7 hk7, hp, bd_s, if_neg (show ¬ (1 : Int32) = 0 by decide), h71, g7 hk7, lt_eq, t7 hk7]
theorem dz (he : 5 * e + 4 < 150) {l : Nat} {t4 : Int32} (hT0 : ρ.1 32 (5 * e) = nI l) (hT1 : ρ.1 32 (5 * e + 1) = nI k) (hT4 : ρ.1 32 (5 * e + 4) = t4) : F_X6_does ρ (nI (5 * e)) = (if nI l = (112 : Int32) then bd (F_X6_prepareFault ρ (nI k) t4) fun σ120 r121 => (if r121 = 0 then B_X6_does_144 (nI (5 * e)) σ120 (nI l) (nI k) t4 (1 : Int32) else B_X6_does_144 (nI (5 * e)) σ120 (nI l) (nI k) t4 (0 : Int32)) else (if nI l = (97 : Int32) then gd (inb (nI (5 * e + 2)) 150) (gd (inb (nI (5 * e + 3)) 150) (bd (F_X6_acceptFault ρ (nI k) (ρ.1 32 (tn (nI (5 * e + 2)))) (ρ.1 32 (tn (nI (5 * e + 3)))) t4) fun σ117 r118 => (if r118 = 0 then B_X6_does_144 (nI (5 * e)) σ117 (nI l) (nI k) t4 (1 : Int32) else B_X6_does_144 (nI (5 * e)) σ117 (nI l) (nI k) t4 (0 : Int32)))) else (if nI l = (106 : Int32) then bd (F_X6_joinFault ρ (nI k) t4) fun σ112 r113 => (if r113 = 0 then B_X6_does_144 (nI (5 * e)) σ112 (nI l) (nI k) t4 (1 : Int32) else B_X6_does_144 (nI (5 * e)) σ112 (nI l) (nI k) t4 (0 : Int32)) else (if nI l = (102 : Int32) then B_X6_does_128 (nI (5 * e)) ρ (nI l) (nI k) t4 (nI k) else (if nI l = (99 : Int32) then B_X6_does_128 (nI (5 * e)) ρ (nI l) (nI k) t4 (nI k) else B_X6_does_133 (nI (5 * e)) ρ (nI l) (nI k) t4 (0 : Int32) (nI k)))))) := by
  obtain ⟨x1, x2, x3, x4⟩ := ix he
  unfold F_X6_does
  rw [gd_inb (show 5 * e < 150 by omega) (by decide), lt_eq, x1, gd_inb (show 5 * e + 1 < 150 by omega) (by decide), lt_eq, x4, gd_inb (show 5 * e + 4 < 150 by omega) (by decide), lt_eq, x2, x3, tn_nI (show 5 * e < 2 ^ 31 by omega), tn_nI (show 5 * e + 1 < 2 ^ 31 by omega), tn_nI (show 5 * e + 4 < 2 ^ 31 by omega), hT0, hT1, hT4]
theorem d0 {x v2 v3 v4 : Int32} : B_X6_does_144 x ρ v2 v3 v4 0 = some (ρ, 0) := by
  unfold B_X6_does_144
  rw [if_pos rfl]
theorem ev_p (hJ : Jc c N M L σ ρ) (hc : c < 512) (he : 5 * e + 4 < 150) (hk : k < N) (hm1 : 1 ≤ m) (hm2 : m < 2 ^ N) (h70 : σ 70 0 0 = nI 112) (h71 : σ 71 0 0 = nI k) (h74 : σ 74 0 0 = nI m) (hT0 : ρ.1 32 (5 * e) = nI 112) (hT1 : ρ.1 32 (5 * e + 1) = nI k) (hT4 : ρ.1 32 (5 * e + 4) = nI m) : EV c N M L e σ ρ := by
  have hN := hJ.1.1.2.2
  have hk7 : k < 7 := by omega
  have q := (hJ.2.1 k hk7).1.q
  have r4 : ρ.1 4 k = σ 25 k 0 := by rw [Ur_rd (um_4 hk7), q.1]
  have r5 : ρ.1 5 k = σ 26 k 0 := by rw [Ur_rd (um_5 hk7), q.2.1]
  obtain ⟨zi, ⟨b1, b2, _, _⟩, _⟩ := (hJ.2.1 k hk7).2
  rw [nd_a rfl] at b1 b2
  have r0 := dz he hT0 hT1 hT4
  rw [if_pos (show nI 112 = (112 : Int32) from rfl)] at r0
  have cp : F_X5_isPossible σ k = bd (F_X3_takesPart σ k) fun σ111 r112 => gd (isb r112) (some (σ111, r112)) := by
    unfold F_X5_isPossible
    rw [lt_eq, h70]
    rfl
  unfold F_X3_takesPart B_X3_takesPart_18 at cp
  unfold F_X6_prepareFault B_X6_prepareFault_46 at r0
  rw [(ndr hJ.r1 (by omega) hN.2).1 k hk rfl, bd_s, if_neg (show ¬ (1 : Int32) = 0 by decide), (rcr hJ.r1 hN.2).1 m hm1 hm2 rfl, bd_s, if_neg (show ¬ (1 : Int32) = 0 by decide), g7 hk7, t7 hk7, g7 hk7, r4, r5] at r0
  by_cases u1 : σ 25 k 0 = 0
  · rw [if_pos u1, bd_s] at cp
    rw [if_pos u1, bd_s, if_neg (show ¬ (3 : Int32) = 0 by decide), d0] at r0
    exact EV.no hJ (ce0 hJ hk h71 hk7 cp) r0
  · by_cases u2 : σ 26 k 0 = 0
    · rw [if_neg u1, if_pos u2, bd_s] at cp
      rw [if_neg u1, if_pos u2, bd_s, if_neg (show ¬ (3 : Int32) = 0 by decide), d0] at r0
      exact EV.no hJ (ce0 hJ hk h71 hk7 cp) r0
    · obtain ⟨σ', ρ', rr, e1, e2, hX, hJ', hf⟩ := prep_2 (x := nI m) hk7 hc hJ (isb_nz b1 u1) (isb_nz b2 u2)
      rw [if_neg u1, if_neg u2, bd_s] at cp
      rw [if_neg u1, if_neg u2, bd_s, if_pos rfl] at r0
      refine EV.y (Nat.le_refl _) ((ce1 hJ hk h71 hk7 cp).trans ?_) (r0.trans ?_) hX hJ' hf
      · rw [h70, h74]
        show bd (F_X5_sendPrepare σ k (nI m)) _ = _
        rw [e1, bd_s]
      · show bd (F_X6_doPrepare ρ (nI k) (nI m)) _ = _
        rw [e2, bd_s]
        rfl
theorem ev_j (hJ : Jc c N M L σ ρ) (hc : c < 512) (he : 5 * e + 4 < 150) (hk : k < N) (hm1 : 1 ≤ m) (hm2 : m < 2 ^ N) (h70 : σ 70 0 0 = nI 106) (h71 : σ 71 0 0 = nI k) (h74 : σ 74 0 0 = nI m) (hT0 : ρ.1 32 (5 * e) = nI 106) (hT1 : ρ.1 32 (5 * e + 1) = nI k) (hT4 : ρ.1 32 (5 * e + 4) = nI m) : EV c N M L e σ ρ := by
  have hN := hJ.1.1.2.2
  have hk7 : k < 7 := by omega
  have q := (hJ.2.1 k hk7).1.q
  have r4 : ρ.1 4 k = σ 25 k 0 := by rw [Ur_rd (um_4 hk7), q.1]
  have r5 : ρ.1 5 k = σ 26 k 0 := by rw [Ur_rd (um_5 hk7), q.2.1]
  have r0 := dz he hT0 hT1 hT4
  rw [if_neg (show ¬ nI 106 = (112 : Int32) by decide), if_neg (show ¬ nI 106 = (97 : Int32) by decide), if_pos (show nI 106 = (106 : Int32) from rfl)] at r0
  have cp : F_X5_isPossible σ k = bd (F_X3_canRejoin σ k) fun σ111 r112 => gd (isb r112) (some (σ111, r112)) := by
    unfold F_X5_isPossible
    rw [lt_eq, h70]
    rfl
  unfold F_X3_canRejoin B_X3_canRejoin_18 at cp
  unfold F_X6_joinFault B_X6_joinFault_46 at r0
  rw [(ndr hJ.r1 (by omega) hN.2).1 k hk rfl, bd_s, if_neg (show ¬ (1 : Int32) = 0 by decide), (rcr hJ.r1 hN.2).1 m hm1 hm2 rfl, bd_s, if_neg (show ¬ (1 : Int32) = 0 by decide), g7 hk7, t7 hk7, g7 hk7, r4, r5] at r0
  by_cases u1 : σ 25 k 0 = 0
  · rw [if_pos u1, bd_s] at cp
    rw [if_pos u1, bd_s, if_neg (show ¬ (3 : Int32) = 0 by decide), d0] at r0
    exact EV.no hJ (ce0 hJ hk h71 hk7 cp) r0
  · by_cases u2 : σ 26 k 0 = 0
    · obtain ⟨σ', ρ', rr, e1, e2, hX, hJ', hf⟩ := join_2 (x := nI m) hk7 (by omega) hJ u2
      rw [if_neg u1, if_pos u2, bd_s] at cp
      rw [if_neg u1, if_pos u2, bd_s, if_pos rfl] at r0
      refine EV.y (Nat.le_succ _) ((ce1 hJ hk h71 hk7 cp).trans ?_) (r0.trans ?_) hX hJ' hf
      · rw [h70, h74]
        show bd (F_X5_readFromOthers σ k (nI m)) _ = _
        rw [e1, bd_s]
      · show bd (F_X6_doJoin ρ (nI k) (nI m)) _ = _
        rw [e2, bd_s]
        rfl
    · rw [if_neg u1, if_neg u2, bd_s] at cp
      rw [if_neg u1, if_neg u2, bd_s, if_neg (show ¬ (3 : Int32) = 0 by decide), d0] at r0
      exact EV.no hJ (ce0 hJ hk h71 hk7 cp) r0
theorem ev_a {s v : Nat} (hJ : Jc c N M L σ ρ) (hc : c < 512) (he : 5 * e + 4 < 150) (hk : k < N) (hs : s < M) (hv : v ≤ 9) (hm1 : 1 ≤ m) (hm2 : m < 2 ^ N) (h70 : σ 70 0 0 = nI 97) (h71 : σ 71 0 0 = nI k) (h72 : σ 72 0 0 = nI s) (h73 : σ 73 0 0 = nI v) (h74 : σ 74 0 0 = nI m) (hT0 : ρ.1 32 (5 * e) = nI 97) (hT1 : ρ.1 32 (5 * e + 1) = nI k) (hT2 : ρ.1 32 (5 * e + 2) = nI s) (hT3 : ρ.1 32 (5 * e + 3) = nI v) (hT4 : ρ.1 32 (5 * e + 4) = nI m) : EV c N M L e σ ρ := by
  have hN := hJ.1.1.2.2
  have hM := hJ.1.2.1.2.2
  have hk7 : k < 7 := by omega
  obtain ⟨x1, x2, x3, x4⟩ := ix he
  have q := (hJ.2.1 k hk7).1.q
  have r18 : ρ.1 18 k = σ 29 k 0 := by rw [Ur_rd (um_18 hk7), q.2.2.2.2.1 trivial]
  have r0 := dz he hT0 hT1 hT4
  rw [if_neg (show ¬ nI 97 = (112 : Int32) by decide), if_pos (show nI 97 = (97 : Int32) from rfl), gd_inb (show 5 * e + 2 < 150 by omega) (by decide), gd_inb (show 5 * e + 3 < 150 by omega) (by decide), tn_nI (show 5 * e + 2 < 2 ^ 31 by omega), tn_nI (show 5 * e + 3 < 2 ^ 31 by omega), hT2, hT3] at r0
  have cp : F_X5_isPossible σ k = bd (F_X3_hasRound σ k) fun σ106 r107 => (if r107 = 0 then some (σ106, 0) else some (σ106, 1)) := by
    unfold F_X5_isPossible B_X5_isPossible_94
    rw [lt_eq, h70, if_pos (show nI 97 = (97 : Int32) from rfl), h72, (isl_c hJ.1.2.1.1 hM.2).1 s hs rfl, bd_s, if_neg (show ¬ (1 : Int32) = 0 by decide)]
  unfold F_X3_hasRound at cp
  unfold F_X6_acceptFault B_X6_acceptFault_21 B_X6_acceptFault_51 at r0
  rw [(ndr hJ.r1 (by omega) hN.2).1 k hk rfl, bd_s, if_neg (show ¬ (1 : Int32) = 0 by decide), (slr hJ.r2 (by omega) hM.2).1 s hs rfl, bd_s, if_neg (show ¬ (1 : Int32) = 0 by decide), if_neg (show ¬ (1 : Int32) = 0 by decide), show F_X6_within ρ (nI v) 0 9 = some (ρ, 1) from (wi_r (a := 0) (b := 9) (by decide)).1 v (by omega) (by omega) rfl, bd_s, if_neg (show ¬ (1 : Int32) = 0 by decide), (rcr hJ.r1 hN.2).1 m hm1 hm2 rfl, bd_s, if_neg (show ¬ (1 : Int32) = 0 by decide), g7 hk7, t7 hk7, r18] at r0
  by_cases u1 : σ 29 k 0 = -1
  · rw [if_pos u1, bd_s, if_pos rfl] at cp
    rw [if_pos u1, bd_s, if_neg (show ¬ (3 : Int32) = 0 by decide), d0] at r0
    exact EV.no hJ (ce0 hJ hk h71 hk7 cp) r0
  · obtain ⟨σ', ρ', rr, e1, e2, hX, hJ', hf⟩ := acc_2 (x := nI m) hk7 hs (v0 := nI v) ⟨v, by omega, rfl⟩ hc hJ u1
    rw [if_neg u1, bd_s, if_neg (show ¬ (1 : Int32) = 0 by decide)] at cp
    rw [if_neg u1, bd_s, if_pos rfl] at r0
    refine EV.y (Nat.le_refl _) ((ce1 hJ hk h71 hk7 cp).trans ?_) (r0.trans ?_) hX hJ' hf
    · rw [h70, h72, h73, h74]
      show bd (F_X5_sendAccept σ k (nI s) (nI v) (nI m)) _ = _
      rw [e1, bd_s]
    · unfold B_X6_does_144 B_X6_does_302
      rw [x2, x3, gd_inb (show 5 * e + 2 < 150 by omega) (by decide), gd_inb (show 5 * e + 3 < 150 by omega) (by decide), tn_nI (show 5 * e + 2 < 2 ^ 31 by omega), tn_nI (show 5 * e + 3 < 2 ^ 31 by omega), hT2, hT3]
      show bd (F_X6_doAccept ρ (nI k) (nI s) (nI v) (nI m)) _ = _
      rw [e2, bd_s]
/-- what a crash and a barrier ask: the node is up; a wipe and a restart: it is down -/
theorem uf {x : Int32} (hJ : Jc c N M L σ ρ) (hk : k < N) : F_X6_upFault ρ (nI k) x = if σ 25 k 0 = x then some (ρ, 0) else some (ρ, 2) := by
  have hN := hJ.1.1.2.2
  have hk7 : k < 7 := by omega
  have q := (hJ.2.1 k hk7).1.q
  have r4 : ρ.1 4 k = σ 25 k 0 := by rw [Ur_rd (um_4 hk7), q.1]
  unfold F_X6_upFault
  rw [(ndr hJ.r1 (by omega) hN.2).1 k hk rfl, bd_s, if_neg (show ¬ (1 : Int32) = 0 by decide), g7 hk7, t7 hk7, r4]
theorem ev_c {v : Nat} {t4 : Int32} (hJ : Jc c N M L σ ρ) (hc : c < 512) (he : 5 * e + 4 < 150) (hk : k < N) (hv : v ≤ 9) (h70 : σ 70 0 0 = nI 99) (h71 : σ 71 0 0 = nI k) (h75 : σ 75 0 0 = nI v) (hT0 : ρ.1 32 (5 * e) = nI 99) (hT1 : ρ.1 32 (5 * e + 1) = nI k) (hT3 : ρ.1 32 (5 * e + 3) = nI v) (hT4 : ρ.1 32 (5 * e + 4) = t4) : EV c N M L e σ ρ := by
  have hN := hJ.1.1.2.2
  have hk7 : k < 7 := by omega
  obtain ⟨x1, x2, x3, x4⟩ := ix he
  obtain ⟨zi, ⟨b1, b2, _, _⟩, _⟩ := (hJ.2.1 k hk7).2
  rw [nd_a rfl] at b1
  have r0 := dz he hT0 hT1 hT4
  rw [if_neg (show ¬ nI 99 = (112 : Int32) by decide), if_neg (show ¬ nI 99 = (97 : Int32) by decide), if_neg (show ¬ nI 99 = (106 : Int32) by decide), if_neg (show ¬ nI 99 = (102 : Int32) by decide), if_pos (show nI 99 = (99 : Int32) from rfl)] at r0
  unfold B_X6_does_128 B_X6_does_133 at r0
  rw [uf hJ hk] at r0
  have cp : F_X5_isPossible σ k = gd (isb (σ 25 k 0)) (some (σ, (σ 25 k 0))) := by
    unfold F_X5_isPossible
    rw [lt_eq, h70]
    rfl
  by_cases u1 : σ 25 k 0 = 0
  · rw [u1] at cp r0
    rw [if_neg (show ¬ (0 : Int32) = 1 by decide), bd_s, if_neg (show ¬ (2 : Int32) = 0 by decide), d0] at r0
    exact EV.no hJ (ce0 hJ hk h71 hk7 cp) r0
  · obtain ⟨σ', ρ', rr, e1, e2, hX, hJ', hf⟩ := crash_2 (l := v) hk7 (by omega) (by omega) hJ
    rw [isb_nz b1 u1] at cp r0
    rw [if_pos rfl, bd_s, if_pos rfl] at r0
    refine EV.y (Nat.le_succ _) ((ce1 hJ hk h71 hk7 cp).trans ?_) (r0.trans ?_) hX hJ' hf
    · rw [h70, h75]
      show bd (F_X5_bringDown σ k (nI v)) _ = _
      rw [e1, bd_s]
    · unfold B_X6_does_144 B_X6_does_302
      rw [x3, gd_inb (show 5 * e + 3 < 150 by omega) (by decide), gd_inb (show 5 * e + 3 < 150 by omega) (by decide), tn_nI (show 5 * e + 3 < 2 ^ 31 by omega), hT3]
      show bd (F_X6_doCrash ρ (nI k) (nI v)) _ = _
      rw [e2, bd_s]
theorem ev_f {t4 : Int32} (hJ : Jc c N M L σ ρ) (hc : c < 512) (he : 5 * e + 4 < 150) (hk : k < N) (h70 : σ 70 0 0 = nI 102) (h71 : σ 71 0 0 = nI k) (hT0 : ρ.1 32 (5 * e) = nI 102) (hT1 : ρ.1 32 (5 * e + 1) = nI k) (hT4 : ρ.1 32 (5 * e + 4) = t4) : EV c N M L e σ ρ := by
  have hN := hJ.1.1.2.2
  have hk7 : k < 7 := by omega
  obtain ⟨zi, ⟨b1, b2, _, _⟩, _⟩ := (hJ.2.1 k hk7).2
  rw [nd_a rfl] at b1
  have r0 := dz he hT0 hT1 hT4
  rw [if_neg (show ¬ nI 102 = (112 : Int32) by decide), if_neg (show ¬ nI 102 = (97 : Int32) by decide), if_neg (show ¬ nI 102 = (106 : Int32) by decide), if_pos (show nI 102 = (102 : Int32) from rfl)] at r0
  unfold B_X6_does_128 B_X6_does_133 at r0
  rw [uf hJ hk] at r0
  have cp : F_X5_isPossible σ k = gd (isb (σ 25 k 0)) (some (σ, (σ 25 k 0))) := by
    unfold F_X5_isPossible
    rw [lt_eq, h70]
    rfl
  by_cases u1 : σ 25 k 0 = 0
  · rw [u1] at cp r0
    rw [if_neg (show ¬ (0 : Int32) = 1 by decide), bd_s, if_neg (show ¬ (2 : Int32) = 0 by decide), d0] at r0
    exact EV.no hJ (ce0 hJ hk h71 hk7 cp) r0
  · obtain ⟨σ', ρ', rr, e1, e2, hX, hJ', hf⟩ := bar_2 hk7 (by omega) hJ
    rw [isb_nz b1 u1] at cp r0
    rw [if_pos rfl, bd_s, if_pos rfl] at r0
    refine EV.y (Nat.le_succ _) ((ce1 hJ hk h71 hk7 cp).trans ?_) (r0.trans ?_) hX hJ' hf
    · rw [h70]
      show bd (F_X3_carryOutAll σ k) _ = _
      rw [e1, bd_s]
    · show bd (F_X6_doBarrier ρ (nI k)) _ = _
      rw [e2, bd_s]
      rfl
theorem ev_r {t4 : Int32} (hJ : Jc c N M L σ ρ) (hc : c < 512) (he : 5 * e + 4 < 150) (hk : k < N) (h70 : σ 70 0 0 = nI 114) (h71 : σ 71 0 0 = nI k) (hT0 : ρ.1 32 (5 * e) = nI 114) (hT1 : ρ.1 32 (5 * e + 1) = nI k) (hT4 : ρ.1 32 (5 * e + 4) = t4) : EV c N M L e σ ρ := by
  have hN := hJ.1.1.2.2
  have hk7 : k < 7 := by omega
  have r0 := dz he hT0 hT1 hT4
  rw [if_neg (show ¬ nI 114 = (112 : Int32) by decide), if_neg (show ¬ nI 114 = (97 : Int32) by decide), if_neg (show ¬ nI 114 = (106 : Int32) by decide), if_neg (show ¬ nI 114 = (102 : Int32) by decide), if_neg (show ¬ nI 114 = (99 : Int32) by decide)] at r0
  unfold B_X6_does_133 at r0
  rw [uf hJ hk] at r0
  have cp : F_X5_isPossible σ k = if σ 25 k 0 = 0 then some (σ, 1) else some (σ, 0) := by
    unfold F_X5_isPossible
    rw [lt_eq, h70]
    rfl
  by_cases u1 : σ 25 k 0 = 0
  · obtain ⟨σ', ρ', rr, e1, e2, hX, hJ', hf⟩ := up_2 hk7 hJ
    rw [if_pos u1] at cp r0
    rw [bd_s, if_pos rfl] at r0
    refine EV.y (Nat.le_succ _) ((ce1 hJ hk h71 hk7 cp).trans ?_) (r0.trans ?_) hX hJ' hf
    · rw [h70, if_neg (show ¬ nI 114 = (97 : Int32) by decide), if_neg (show ¬ nI 114 = (99 : Int32) by decide), if_neg (show ¬ nI 114 = (102 : Int32) by decide), if_neg (show ¬ nI 114 = (112 : Int32) by decide), if_pos (show nI 114 = (114 : Int32) from rfl), e1, bd_s]
    · show bd (F_X6_doRestart ρ (nI k)) _ = _
      rw [e2, bd_s]
      rfl
  · rw [if_neg u1] at cp r0
    rw [bd_s, if_neg (show ¬ (2 : Int32) = 0 by decide), d0] at r0
    exact EV.no hJ (ce0 hJ hk h71 hk7 cp) r0
theorem ev_w {t4 : Int32} (hJ : Jc c N M L σ ρ) (hc : c < 512) (he : 5 * e + 4 < 150) (hk : k < N) (h70 : σ 70 0 0 = nI 119) (h71 : σ 71 0 0 = nI k) (hT0 : ρ.1 32 (5 * e) = nI 119) (hT1 : ρ.1 32 (5 * e + 1) = nI k) (hT4 : ρ.1 32 (5 * e + 4) = t4) : EV c N M L e σ ρ := by
  have hN := hJ.1.1.2.2
  have hk7 : k < 7 := by omega
  have r0 := dz he hT0 hT1 hT4
  rw [if_neg (show ¬ nI 119 = (112 : Int32) by decide), if_neg (show ¬ nI 119 = (97 : Int32) by decide), if_neg (show ¬ nI 119 = (106 : Int32) by decide), if_neg (show ¬ nI 119 = (102 : Int32) by decide), if_neg (show ¬ nI 119 = (99 : Int32) by decide)] at r0
  unfold B_X6_does_133 at r0
  rw [uf hJ hk] at r0
  have cp : F_X5_isPossible σ k = if σ 25 k 0 = 0 then some (σ, 1) else some (σ, 0) := by
    unfold F_X5_isPossible
    rw [lt_eq, h70]
    rfl
  by_cases u1 : σ 25 k 0 = 0
  · obtain ⟨σ', ρ', rr, e1, e2, hX, hJ', hf⟩ := wipe_2 hk7 (by omega) hJ u1
    rw [if_pos u1] at cp r0
    rw [bd_s, if_pos rfl] at r0
    refine EV.y (Nat.le_succ _) ((ce1 hJ hk h71 hk7 cp).trans ?_) (r0.trans ?_) hX hJ' hf
    · rw [h70]
      show bd (F_X3_loseDisk σ k) _ = _
      rw [e1, bd_s]
    · show bd (F_X6_doWipe ρ (nI k)) _ = _
      rw [e2, bd_s]
      rfl
  · rw [if_neg u1] at cp r0
    rw [bd_s, if_neg (show ¬ (2 : Int32) = 0 by decide), d0] at r0
    exact EV.no hJ (ce0 hJ hk h71 hk7 cp) r0
end EVT
theorem ev_2 {c N M L e p : Nat} {σ : CS} {ρ g : RS} (hJ : Jc c N M L σ ρ) (hc : c < 512) (he : 5 * e + 4 < 150) (hQ : Qr N M σ g e p) (hp : p = 8 ∨ p = 11) (hT : ∀ j, j < 5 * (e + 1) → ρ.1 32 j = g.1 32 j) : EV c N M L e σ ρ := by
  obtain ⟨l, k, h70, hT0, hk, h71, hT1, m, hm, h74, hT4, hl⟩ := hQ.fin hp
  rw [← hT _ (by omega)] at hT0 hT1 hT4
  rcases hl with ⟨rfl, v, hv, h75, hT3⟩ | rfl | rfl | rfl | ⟨rfl, hm1⟩ | ⟨rfl, hm1⟩ | ⟨rfl, hm1, s, v, hs, hv, h72, hT2, h73, hT3⟩
  · rw [← hT _ (by omega)] at hT3
    exact ev_c hJ hc he hk hv h70 h71 h75 hT0 hT1 hT3 hT4
  · exact ev_f hJ hc he hk h70 h71 hT0 hT1 hT4
  · exact ev_r hJ hc he hk h70 h71 hT0 hT1 hT4
  · exact ev_w hJ hc he hk h70 h71 hT0 hT1 hT4
  · exact ev_j hJ hc he hk hm1 hm h70 h71 h74 hT0 hT1 hT4
  · exact ev_p hJ hc he hk hm1 hm h70 h71 h74 hT0 hT1 hT4
  · rw [← hT _ (by omega)] at hT2 hT3
    exact ev_a hJ hc he hk hs hv hm1 hm h70 h71 h72 h73 h74 hT0 hT1 hT2 hT3 hT4
