/-! ===== the reader of events: node, marks, figures ===== -/
section TWO
variable {N M a e l : Nat} {σ : CS} {ρ : RS}
theorem pbn {σ : CS} {p : Nat} (h70 : σ 70 0 0 = nI l) (hl : l = 97 ∧ p = 2 ∨ l = 99 ∧ p = 9 ∨ (l = 106 ∨ l = 112) ∧ p = 6 ∨ (l = 102 ∨ l = 114 ∨ l = 119) ∧ p = 11) : F_X2_placeBehindNode σ = some (σ, nI p) := by
  unfold F_X2_placeBehindNode
  rw [lt_eq, h70]
  rcases hl with ⟨rfl, rfl⟩ | ⟨rfl, rfl⟩ | ⟨rfl | rfl, rfl⟩ | ⟨rfl | rfl | rfl, rfl⟩ <;> rfl
theorem hl_p (hl : HL l) : ∃ p, l = 97 ∧ p = 2 ∨ l = 99 ∧ p = 9 ∨ (l = 106 ∨ l = 112) ∧ p = 6 ∨ (l = 102 ∨ l = 114 ∨ l = 119) ∧ p = 11 := by
  rcases hl with rfl | rfl | rfl | rfl | rfl | rfl | rfl
  · exact ⟨2, by omega⟩
  · exact ⟨9, by omega⟩
  · exact ⟨11, by omega⟩
  · exact ⟨6, by omega⟩
  · exact ⟨6, by omega⟩
  · exact ⟨11, by omega⟩
  · exact ⟨11, by omega⟩
theorem tk_1 (ha : a < 127) (hN3 : 0 < N) (hN : N ≤ 7) (d1 : ρ.1 1 0 = nI N) (hl : HL l) (h76 : σ 76 0 0 = nI 1) (h31 : ρ.1 31 0 = nI e) (he : 5 * e + 4 < 150) (h30 : ρ.1 30 0 = nI 1) (h70 : σ 70 0 0 = nI l) (hT0 : ρ.1 32 (5 * e) = nI l) (h74 : σ 74 0 0 = nI 0) (hT4 : ρ.1 32 (5 * e + 4) = nI 0) (h33 : ρ.1 33 0 = hi 0) : TK N M a e 1 σ ρ := by
  have c0 : F_X2_takes σ (nI a) (nI N) (nI M) = bd (F_X2_digit σ (nI a) (nI N)) fun σ107 r108 => lt (pt σ107 71 0 0 r108) fun σ109 => (if (σ109 71 0 0) = (-1 : Int32) then B_X2_takes_93 (nI a) (nI N) (nI M) σ109 (0 : Int32) else B_X2_takes_93 (nI a) (nI N) (nI M) σ109 (1 : Int32)) := by
    unfold F_X2_takes; rw [lt_eq, h76]; rfl
  have r0 : F_X6_takes ρ (nI a) = bd (F_X6_takesNode ρ (nI a)) fun σ111 r112 => gd (isb r112) (some (σ111, r112)) := by
    rw [tks (Or.inl (mE h30 (by decide) (by decide)))]
    unfold B_X6_takes_30; rw [lt_eq, h30]; rfl
  obtain ⟨p, hp⟩ := hl_p hl
  have put : F_X6_put ρ (1 : Int32) (nI a - 48) = some (rp ρ 32 (5 * e + 1) (nI a - 48), ()) := put_r (f := 1) h31 (by omega)
  have tn0 : F_X6_takesNode ρ (nI a) = bd (F_X6_isNode (rp ρ 32 (5 * e + 1) (nI a - 48)) (nI a - 48)) fun σ105 r106 => bd (F_X6_go σ105 r106 (if l = 102 ∨ l = 114 ∨ l = 119 then 9 else 2)) fun σ110 r111 => gd (isb r111) (some (σ110, r111)) := by
    unfold F_X6_takesNode B_X6_takesNode_48 B_X6_takesNode_54
    rw [h31, m5, gd_inb (show 5 * e < 150 by omega) (by decide), lt_eq, tn_nI (by omega), hT0, put, bd_s]
    rcases hl with rfl | rfl | rfl | rfl | rfl | rfl | rfl <;> rfl
  have d1' : (rp ρ 32 (5 * e + 1) (nI a - 48)).1 1 0 = nI N := by rw [rp_n2 (by decide)]; exact d1
  rw [tn0] at r0
  by_cases hd : 48 ≤ a ∧ a < 48 + N
  · rw [dig_y hd.1 hd.2 (by omega), bd_s, lt_eq, if_neg (show ¬ pt σ 71 0 0 (nI (a - 48)) 71 0 0 = -1 by simp [pt]; exact nI_m1 (by omega))] at c0
    unfold B_X2_takes_93 at c0
    rw [pbn (l := l) (p := p) (by simp [pt]; exact h70) hp, bd_s, go1, bd_s] at c0
    rw [isn_y d1' hN hd.1 hd.2, bd_s, gr1, bd_s] at r0
    have hp1 : 1 ≤ p ∧ p ≠ 8 := by omega
    refine TK.go (p' := p) c0 r0 ((Rf.rfl.w (by decide) (by decide)).w (by decide) (by decide)) ((Pf.rfl.w (by decide)).w (by decide)) ⟨by simp [pt], by simp [rp]; exact h31, Or.inr ⟨l, 0, hp1.1, hl, by simp [pt]; exact h70, by simp [rp]; exact hT0, Nat.two_pow_pos N, by simp [pt]; exact h74, by simp [rp]; exact hT4, by simp [rp]; exact h33, fun q => absurd q hp1.2, fun _ => rfl, Or.inr ⟨a - 48, by omega, by simp [pt], by simp [rp]; exact sub48 hd.1, ?_⟩⟩⟩ (fun j hj => by simp [rp]; intro q; omega) (by omega) hp1.1 (by omega)
    rcases hp with ⟨rfl, rfl⟩ | ⟨rfl, rfl⟩ | ⟨hl2, rfl⟩ | ⟨hl2, rfl⟩
    · exact Or.inl ⟨rfl, rfl, by simp [rp]; rfl⟩
    · exact Or.inr (Or.inr (Or.inl ⟨rfl, rfl, by simp [rp]; rfl⟩))
    · exact Or.inr (Or.inr (Or.inr (Or.inr (Or.inr (Or.inr (Or.inl ⟨rfl, hl2, by rw [if_neg (by omega)]; simp [rp]; rfl⟩))))))
    · exact Or.inr (Or.inr (Or.inr (Or.inr (Or.inr (Or.inl ⟨rfl, hl2, by rw [if_pos hl2]; simp [rp]; rfl⟩)))))
  · rw [dig_n hd ha, bd_s, lt_eq, if_pos (show pt σ 71 0 0 (-1) 71 0 0 = -1 by simp [pt])] at c0
    unfold B_X2_takes_93 at c0
    rw [pbn (l := l) (p := p) (by simp [pt]; exact h70) hp, bd_s, go0, bd_s] at c0
    rw [isn_n d1' hN3 hN hd ha, bd_s, gr0, bd_s] at r0
    exact TK.bad c0 r0 (Rf.rfl.w (by decide) (by decide)) ((Pf.rfl.w (by decide)).w (by decide))
/-- a mark -/
theorem tk_m {p p' mk q q' : Nat} (ha : a < 127) (hmk : mk < 127) (hm9 : mk ≠ 59) (hp8 : p' ≠ 8) (hp1 : 1 ≤ p') (hp0 : p ≠ 0) (h31 : ρ.1 31 0 = nI e) (he : 5 * e + 4 < 150) (h30 : ρ.1 30 0 = nI q) (hq9 : q < 9) (hq7 : q ≠ 7)
    (hcl : ∀ w, (w = 0 ∨ w = 1) → (nI a = nI mk → w = 1) → (¬ nI a = nI mk → w = 0) → F_X2_takes σ (nI a) (nI N) (nI M) = bd (F_X2_goesOn σ w (nI p')) fun σ1 r1 => gd (isb r1) (some (σ1, r1)))
    (hrf : ∀ w, (w = 0 ∨ w = 1) → (nI a = nI mk → w = 1) → (¬ nI a = nI mk → w = 0) → B_X6_takes_30 (nI a) ρ = bd (bd (F_X6_go ρ w (nI q')) fun σ1 r1 => gd (isb r1) (some (σ1, r1))) fun σ1 r1 => gd (isb r1) (some (σ1, r1)))
    (hQ : a = mk → Qr N M (pt σ 76 0 0 (nI p')) (rp ρ 30 0 (nI q')) e p') : TK N M a e p σ ρ := by
  have r0 : F_X6_takes ρ (nI a) = B_X6_takes_30 (nI a) ρ := tks (Or.inl (mE h30 hq9 hq7))
  by_cases hd : a = mk
  · have c1 := hcl 1 (Or.inr rfl) (fun _ => rfl) (fun h => absurd (by rw [hd]) h)
    rw [hrf 1 (Or.inr rfl) (fun _ => rfl) (fun h => absurd (by rw [hd]) h), gr1, bd_s] at r0
    rw [go1, bd_s] at c1
    exact TK.go (p' := p') c1 r0 (Rf.rfl.w (by decide) (by decide)) (Pf.rfl.w (by decide)) (hQ hd) (fun j hj => by simp [rp]) (by omega) hp1 (fun h => absurd h hp0)
  · have hne : ¬ nI a = nI mk := nI_ne ha hmk hd
    have c1 := hcl 0 (Or.inl rfl) (fun h => absurd h hne) (fun _ => rfl)
    rw [hrf 0 (Or.inl rfl) (fun h => absurd h hne) (fun _ => rfl), gr0, bd_s] at r0
    rw [go0, bd_s] at c1
    exact TK.bad c1 r0 Rf.rfl (Pf.rfl.w (by decide))
theorem ite01 {α : Type} {c : Prop} [Decidable c] {f : Int32 → α} {w : Int32} (h1 : c → w = 1) (h0 : ¬ c → w = 0) : (if c then f 1 else f 0) = f w := by
  by_cases h : c
  · rw [if_pos h, h1 h]
  · rw [if_neg h, h0 h]
theorem tk_2 {k : Nat} (ha : a < 127) (hk : k < N) (h76 : σ 76 0 0 = nI 2) (h31 : ρ.1 31 0 = nI e) (he : 5 * e + 4 < 150) (h30 : ρ.1 30 0 = nI 2) (h70 : σ 70 0 0 = nI 97) (hT0 : ρ.1 32 (5 * e) = nI 97) (h74 : σ 74 0 0 = nI 0) (hT4 : ρ.1 32 (5 * e + 4) = nI 0) (h33 : ρ.1 33 0 = hi 0) (h71 : σ 71 0 0 = nI k) (hT1 : ρ.1 32 (5 * e + 1) = nI k) : TK N M a e 2 σ ρ := by
  refine tk_m (p' := 3) (mk := 115) (q := 2) (q' := 3) ha (by decide) (by decide) (by decide) (by decide) (by decide) h31 he h30 (by decide) (by decide) (fun w hw w1 w0 => ?_) (fun w hw w1 w0 => ?_) (fun _ => ⟨by simp [pt], by simp [rp]; exact h31, Or.inr ⟨97, 0, by decide, by unfold HL; omega, by simp [pt]; exact h70, by simp [rp]; exact hT0, Nat.two_pow_pos N, by simp [pt]; exact h74, by simp [rp]; exact hT4, by simp [rp]; exact h33, by omega, fun _ => rfl, Or.inr ⟨k, hk, by simp [pt]; exact h71, by simp [rp]; exact hT1, Or.inr (Or.inl ⟨rfl, rfl, by simp [rp]⟩)⟩⟩⟩)
  · rw [← ite01 (f := fun w => bd (F_X2_goesOn σ w (nI 3)) fun σ1 r1 => gd (isb r1) (some (σ1, r1))) w1 w0]
    unfold F_X2_takes; rw [lt_eq, h76]; rfl
  · rw [← ite01 (f := fun w => bd (bd (F_X6_go ρ w (nI 3)) fun σ1 r1 => gd (isb r1) (some (σ1, r1))) fun σ1 r1 => gd (isb r1) (some (σ1, r1))) w1 w0]
    have e1 : F_X6_takesMark ρ (nI a) = if nI a = (115 : Int32) then B_X6_takesMark_30 (nI a) ρ 1 else B_X6_takesMark_30 (nI a) ρ 0 := by
      unfold F_X6_takesMark
      rw [h31, m5, gd_inb (show 5 * e < 150 by omega) (by decide), lt_eq, tn_nI (by omega), hT0]; rfl
    have e2 : B_X6_takes_30 (nI a) ρ = bd (F_X6_takesMark ρ (nI a)) fun σ1 r1 => gd (isb r1) (some (σ1, r1)) := by
      unfold B_X6_takes_30; rw [lt_eq, h30]; rfl
    rw [e2, e1]
    by_cases h : nI a = nI 115
    · rw [if_pos h, if_pos (show nI a = (115 : Int32) from h)]; rfl
    · rw [if_neg h, if_neg (show ¬ nI a = (115 : Int32) from h)]; rfl
theorem tk_9 {k : Nat} (ha : a < 127) (hk : k < N) (h76 : σ 76 0 0 = nI 9) (h31 : ρ.1 31 0 = nI e) (he : 5 * e + 4 < 150) (h30 : ρ.1 30 0 = nI 2) (h70 : σ 70 0 0 = nI 99) (hT0 : ρ.1 32 (5 * e) = nI 99) (h74 : σ 74 0 0 = nI 0) (hT4 : ρ.1 32 (5 * e + 4) = nI 0) (h33 : ρ.1 33 0 = hi 0) (h71 : σ 71 0 0 = nI k) (hT1 : ρ.1 32 (5 * e + 1) = nI k) : TK N M a e 9 σ ρ := by
  refine tk_m (p' := 10) (mk := 45) (q := 2) (q' := 8) ha (by decide) (by decide) (by decide) (by decide) (by decide) h31 he h30 (by decide) (by decide) (fun w hw w1 w0 => ?_) (fun w hw w1 w0 => ?_) (fun _ => ⟨by simp [pt], by simp [rp]; exact h31, Or.inr ⟨99, 0, by decide, by unfold HL; omega, by simp [pt]; exact h70, by simp [rp]; exact hT0, Nat.two_pow_pos N, by simp [pt]; exact h74, by simp [rp]; exact hT4, by simp [rp]; exact h33, by omega, fun _ => rfl, Or.inr ⟨k, hk, by simp [pt]; exact h71, by simp [rp]; exact hT1, Or.inr (Or.inr (Or.inr (Or.inl ⟨rfl, rfl, by simp [rp]⟩)))⟩⟩⟩)
  · rw [← ite01 (f := fun w => bd (F_X2_goesOn σ w (nI 10)) fun σ1 r1 => gd (isb r1) (some (σ1, r1))) w1 w0]
    unfold F_X2_takes; rw [lt_eq, h76]; rfl
  · rw [← ite01 (f := fun w => bd (bd (F_X6_go ρ w (nI 8)) fun σ1 r1 => gd (isb r1) (some (σ1, r1))) fun σ1 r1 => gd (isb r1) (some (σ1, r1))) w1 w0]
    have e1 : F_X6_takesMark ρ (nI a) = if nI a = (45 : Int32) then B_X6_takesMark_55 (nI a) ρ 1 else B_X6_takesMark_55 (nI a) ρ 0 := by
      unfold F_X6_takesMark
      rw [h31, m5, gd_inb (show 5 * e < 150 by omega) (by decide), lt_eq, tn_nI (by omega), hT0]; rfl
    have e2 : B_X6_takes_30 (nI a) ρ = bd (F_X6_takesMark ρ (nI a)) fun σ1 r1 => gd (isb r1) (some (σ1, r1)) := by
      unfold B_X6_takes_30; rw [lt_eq, h30]; rfl
    rw [e2, e1]
    by_cases h : nI a = nI 45
    · rw [if_pos h, if_pos (show nI a = (45 : Int32) from h)]; rfl
    · rw [if_neg h, if_neg (show ¬ nI a = (45 : Int32) from h)]; rfl
theorem tk_6 {k : Nat} (ha : a < 127) (hk : k < N) (hl2 : l = 106 ∨ l = 112) (h76 : σ 76 0 0 = nI 6) (h31 : ρ.1 31 0 = nI e) (he : 5 * e + 4 < 150) (h30 : ρ.1 30 0 = nI 2) (h70 : σ 70 0 0 = nI l) (hT0 : ρ.1 32 (5 * e) = nI l) (h74 : σ 74 0 0 = nI 0) (hT4 : ρ.1 32 (5 * e + 4) = nI 0) (h33 : ρ.1 33 0 = hi 0) (h71 : σ 71 0 0 = nI k) (hT1 : ρ.1 32 (5 * e + 1) = nI k) : TK N M a e 6 σ ρ := by
  refine tk_m (p' := 7) (mk := 62) (q := 2) (q' := 7) ha (by decide) (by decide) (by decide) (by decide) (by decide) h31 he h30 (by decide) (by decide) (fun w hw w1 w0 => ?_) (fun w hw w1 w0 => ?_) (fun _ => ⟨by simp [pt], by simp [rp]; exact h31, Or.inr ⟨l, 0, by decide, by unfold HL; omega, by simp [pt]; exact h70, by simp [rp]; exact hT0, Nat.two_pow_pos N, by simp [pt]; exact h74, by simp [rp]; exact hT4, by simp [rp]; exact h33, by omega, fun _ => rfl, Or.inr ⟨k, hk, by simp [pt]; exact h71, by simp [rp]; exact hT1, Or.inr (Or.inr (Or.inr (Or.inr (Or.inr (Or.inr (Or.inr (Or.inl ⟨Or.inl rfl, hl2, by simp [rp]⟩)))))))⟩⟩⟩)
  · rw [← ite01 (f := fun w => bd (F_X2_goesOn σ w (nI 7)) fun σ1 r1 => gd (isb r1) (some (σ1, r1))) w1 w0]
    unfold F_X2_takes; rw [lt_eq, h76]; rfl
  · rw [← ite01 (f := fun w => bd (bd (F_X6_go ρ w (nI 7)) fun σ1 r1 => gd (isb r1) (some (σ1, r1))) fun σ1 r1 => gd (isb r1) (some (σ1, r1))) w1 w0]
    have e1 : F_X6_takesMark ρ (nI a) = if nI a = (62 : Int32) then B_X6_takesMark_75 (nI a) ρ 1 else B_X6_takesMark_75 (nI a) ρ 0 := by
      unfold F_X6_takesMark
      rw [h31, m5, gd_inb (show 5 * e < 150 by omega) (by decide), lt_eq, tn_nI (by omega), hT0]
      rcases hl2 with rfl | rfl <;> rfl
    have e2 : B_X6_takes_30 (nI a) ρ = bd (F_X6_takesMark ρ (nI a)) fun σ1 r1 => gd (isb r1) (some (σ1, r1)) := by
      unfold B_X6_takes_30; rw [lt_eq, h30]; rfl
    rw [e2, e1]
    by_cases h : nI a = nI 62
    · rw [if_pos h, if_pos (show nI a = (62 : Int32) from h)]; rfl
    · rw [if_neg h, if_neg (show ¬ nI a = (62 : Int32) from h)]; rfl
end TWO
