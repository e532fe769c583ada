/-! ===== the reader of events: figures, reached nodes, ends ===== -/
section THREE
variable {N M a e l : Nat} {σ : CS} {ρ : RS}
theorem tk_3 {k : Nat} (ha : a < 127) (hM3 : 0 < M) (hM : M ≤ 4) (d2 : ρ.1 2 0 = nI M) (hk : k < N) (h76 : σ 76 0 0 = nI 3) (h31 : ρ.1 31 0 = nI e) (he : 5 * e + 4 < 150) (h30 : ρ.1 30 0 = nI 3) (h70 : σ 70 0 0 = nI 97) (hT0 : ρ.1 32 (5 * e) = nI 97) (h74 : σ 74 0 0 = nI 0) (hT4 : ρ.1 32 (5 * e + 4) = nI 0) (h33 : ρ.1 33 0 = hi 0) (h71 : σ 71 0 0 = nI k) (hT1 : ρ.1 32 (5 * e + 1) = nI k) : TK N M a e 3 σ ρ := by
  have c0 : F_X2_takes σ (nI a) (nI N) (nI M) = bd (F_X2_digit σ (nI a) (nI M)) fun σ114 r115 => lt (pt σ114 72 0 0 r115) fun σ116 => (if (σ116 72 0 0) = (-1 : Int32) then B_X2_takes_141 (nI a) (nI N) (nI M) σ116 (0 : Int32) else B_X2_takes_141 (nI a) (nI N) (nI M) σ116 (1 : Int32)) := by
    unfold F_X2_takes; rw [lt_eq, h76]; rfl
  have put : F_X6_put ρ (2 : Int32) (nI a - 48) = some (rp ρ 32 (5 * e + 2) (nI a - 48), ()) := put_r (f := 2) h31 (by omega)
  have h30' : (rp ρ 32 (5 * e + 2) (nI a - 48)).1 30 0 = nI 3 := by rw [rp_n2 (by decide)]; exact h30
  have tf : F_X6_takesFigure ρ (nI a) = bd (F_X6_isSlot (rp ρ 32 (5 * e + 2) (nI a - 48)) (nI a - 48)) fun σ107 r108 => B_X6_takesFigure_48 (nI a) σ107 r108 := by
    unfold F_X6_takesFigure B_X6_takesFigure_14
    rw [h30, if_pos (show nI 3 = (3 : Int32) from rfl), put, bd_s, h30', if_pos (show nI 3 = (3 : Int32) from rfl)]
  have r0 : F_X6_takes ρ (nI a) = bd (F_X6_takesFigure ρ (nI a)) fun σ111 r112 => gd (isb r112) (some (σ111, r112)) := by
    rw [tks (Or.inl (mE h30 (by decide) (by decide)))]
    unfold B_X6_takes_30; rw [lt_eq, h30]; rfl
  have d2' : (rp ρ 32 (5 * e + 2) (nI a - 48)).1 2 0 = nI M := by rw [rp_n2 (by decide)]; exact d2
  rw [tf] at r0
  by_cases hd : 48 ≤ a ∧ a < 48 + M
  · rw [dig_y hd.1 hd.2 (by omega), bd_s, lt_eq, if_neg (show ¬ pt σ 72 0 0 (nI (a - 48)) 72 0 0 = -1 by simp [pt]; exact nI_m1 (by omega))] at c0
    unfold B_X2_takes_141 at c0
    rw [go1, bd_s] at c0
    unfold B_X6_takesFigure_48 B_X6_takesFigure_78 at r0
    rw [iss_y d2' hM hd.1 hd.2, bd_s, h30', if_pos (show nI 3 = (3 : Int32) from rfl), gr1, bd_s] at r0
    exact TK.go (p' := 4) c0 r0 ((Rf.rfl.w (by decide) (by decide)).w (by decide) (by decide)) ((Pf.rfl.w (by decide)).w (by decide)) ⟨by simp [pt]; rfl, by simp [rp]; exact h31, Or.inr ⟨97, 0, by decide, by unfold HL; omega, by simp [pt]; exact h70, by simp [rp]; exact hT0, Nat.two_pow_pos N, by simp [pt]; exact h74, by simp [rp]; exact hT4, by simp [rp]; exact h33, by omega, fun _ => rfl, Or.inr ⟨k, hk, by simp [pt]; exact h71, by simp [rp]; exact hT1, Or.inr (Or.inr (Or.inr (Or.inr (Or.inr (Or.inr (Or.inr (Or.inr ⟨a - 48, rfl, by omega, by simp [pt], by simp [rp]; exact sub48 hd.1, Or.inl ⟨rfl, by simp [rp]; rfl⟩⟩)))))))⟩⟩⟩ (fun j hj => by simp [rp]; intro q; omega) (by omega) (by decide) (by omega)
  · rw [dig_n hd ha, bd_s, lt_eq, if_pos (show pt σ 72 0 0 (-1) 72 0 0 = -1 by simp [pt])] at c0
    unfold B_X2_takes_141 at c0
    rw [go0, bd_s] at c0
    unfold B_X6_takesFigure_48 B_X6_takesFigure_78 at r0
    rw [iss_n d2' hM3 hM hd ha, bd_s, h30', if_pos (show nI 3 = (3 : Int32) from rfl), gr0, bd_s] at r0
    exact TK.bad c0 r0 (Rf.rfl.w (by decide) (by decide)) ((Pf.rfl.w (by decide)).w (by decide))
theorem tk_5 {k s : Nat} (ha : a < 127) (hk : k < N) (hs : s < M) (h76 : σ 76 0 0 = nI 5) (h31 : ρ.1 31 0 = nI e) (he : 5 * e + 4 < 150) (h30 : ρ.1 30 0 = nI 5) (h70 : σ 70 0 0 = nI 97) (hT0 : ρ.1 32 (5 * e) = nI 97) (h74 : σ 74 0 0 = nI 0) (hT4 : ρ.1 32 (5 * e + 4) = nI 0) (h33 : ρ.1 33 0 = hi 0) (h71 : σ 71 0 0 = nI k) (hT1 : ρ.1 32 (5 * e + 1) = nI k) (h72 : σ 72 0 0 = nI s) (hT2 : ρ.1 32 (5 * e + 2) = nI s) : TK N M a e 5 σ ρ := by
  have c0 : F_X2_takes σ (nI a) (nI N) (nI M) = bd (F_X2_digit σ (nI a) (nI 10)) fun σ114 r115 => lt (pt σ114 73 0 0 r115) fun σ116 => (if (σ116 73 0 0) = (-1 : Int32) then B_X2_takes_187 (nI a) (nI N) (nI M) σ116 (0 : Int32) else B_X2_takes_187 (nI a) (nI N) (nI M) σ116 (1 : Int32)) := by
    unfold F_X2_takes; rw [lt_eq, h76]; rfl
  have put : F_X6_put ρ (3 : Int32) (nI a - 48) = some (rp ρ 32 (5 * e + 3) (nI a - 48), ()) := put_r (f := 3) h31 (by omega)
  have h30' : (rp ρ 32 (5 * e + 3) (nI a - 48)).1 30 0 = nI 5 := by rw [rp_n2 (by decide)]; exact h30
  have tf : F_X6_takesFigure ρ (nI a) = bd (F_X6_within (rp ρ 32 (5 * e + 3) (nI a - 48)) (nI a) 48 57) fun σ107 r108 => B_X6_takesFigure_48 (nI a) σ107 r108 := by
    unfold F_X6_takesFigure B_X6_takesFigure_14
    rw [h30, if_neg (show ¬ nI 5 = (3 : Int32) by decide), put, bd_s, h30', if_neg (show ¬ nI 5 = (3 : Int32) by decide)]
  have r0 : F_X6_takes ρ (nI a) = bd (F_X6_takesFigure ρ (nI a)) fun σ111 r112 => gd (isb r112) (some (σ111, r112)) := by
    rw [tks (Or.inl (mE h30 (by decide) (by decide)))]
    unfold B_X6_takes_30; rw [lt_eq, h30]; rfl
  rw [tf] at r0
  by_cases hd : 48 ≤ a ∧ a < 58
  · rw [dig_y (n := 10) hd.1 hd.2 (by omega), bd_s, lt_eq, if_neg (show ¬ pt σ 73 0 0 (nI (a - 48)) 73 0 0 = -1 by simp [pt]; exact nI_m1 (by omega))] at c0
    unfold B_X2_takes_187 at c0
    rw [go1, bd_s] at c0
    unfold B_X6_takesFigure_48 B_X6_takesFigure_78 at r0
    rw [wd_y hd.1 hd.2, bd_s, h30', if_neg (show ¬ nI 5 = (3 : Int32) by decide), if_pos (show nI 5 = (5 : Int32) from rfl), gr1, bd_s] at r0
    exact TK.go (p' := 6) c0 r0 ((Rf.rfl.w (by decide) (by decide)).w (by decide) (by decide)) ((Pf.rfl.w (by decide)).w (by decide)) ⟨by simp [pt]; rfl, by simp [rp]; exact h31, Or.inr ⟨97, 0, by decide, by unfold HL; omega, by simp [pt]; exact h70, by simp [rp]; exact hT0, Nat.two_pow_pos N, by simp [pt]; exact h74, by simp [rp]; exact hT4, by simp [rp]; exact h33, by omega, fun _ => rfl, Or.inr ⟨k, hk, by simp [pt]; exact h71, by simp [rp]; exact hT1, Or.inr (Or.inr (Or.inr (Or.inr (Or.inr (Or.inr (Or.inr (Or.inr ⟨s, rfl, hs, by simp [pt]; exact h72, by simp [rp]; exact hT2, Or.inr (Or.inr ⟨a - 48, by omega, by simp [pt], by simp [rp]; exact sub48 hd.1, Or.inl ⟨rfl, by simp [rp]; rfl⟩⟩)⟩)))))))⟩⟩⟩ (fun j hj => by simp [rp]; intro q; omega) (by omega) (by decide) (by omega)
  · rw [dig_n (n := 10) hd ha, bd_s, lt_eq, if_pos (show pt σ 73 0 0 (-1) 73 0 0 = -1 by simp [pt])] at c0
    unfold B_X2_takes_187 at c0
    rw [go0, bd_s] at c0
    unfold B_X6_takesFigure_48 B_X6_takesFigure_78 at r0
    rw [wd_n hd ha, bd_s, h30', if_neg (show ¬ nI 5 = (3 : Int32) by decide), if_pos (show nI 5 = (5 : Int32) from rfl), gr0, bd_s] at r0
    exact TK.bad c0 r0 (Rf.rfl.w (by decide) (by decide)) ((Pf.rfl.w (by decide)).w (by decide))
theorem tk_10 {k : Nat} (ha : a < 127) (hk : k < N) (h76 : σ 76 0 0 = nI 10) (h31 : ρ.1 31 0 = nI e) (he : 5 * e + 4 < 150) (h30 : ρ.1 30 0 = nI 8) (h70 : σ 70 0 0 = nI 99) (hT0 : ρ.1 32 (5 * e) = nI 99) (h74 : σ 74 0 0 = nI 0) (hT4 : ρ.1 32 (5 * e + 4) = nI 0) (h33 : ρ.1 33 0 = hi 0) (h71 : σ 71 0 0 = nI k) (hT1 : ρ.1 32 (5 * e + 1) = nI k) : TK N M a e 10 σ ρ := by
  have c0 : F_X2_takes σ (nI a) (nI N) (nI M) = bd (F_X2_digit σ (nI a) (nI 10)) fun σ114 r115 => lt (pt σ114 75 0 0 r115) fun σ116 => (if (σ116 75 0 0) = (-1 : Int32) then B_X2_takes_300 (nI a) (nI N) (nI M) σ116 (0 : Int32) else B_X2_takes_300 (nI a) (nI N) (nI M) σ116 (1 : Int32)) := by
    unfold F_X2_takes; rw [lt_eq, h76]; rfl
  have put : F_X6_put ρ (3 : Int32) (nI a - 48) = some (rp ρ 32 (5 * e + 3) (nI a - 48), ()) := put_r (f := 3) h31 (by omega)
  have h30' : (rp ρ 32 (5 * e + 3) (nI a - 48)).1 30 0 = nI 8 := by rw [rp_n2 (by decide)]; exact h30
  have tf : F_X6_takesFigure ρ (nI a) = bd (F_X6_within (rp ρ 32 (5 * e + 3) (nI a - 48)) (nI a) 48 57) fun σ107 r108 => B_X6_takesFigure_48 (nI a) σ107 r108 := by
    unfold F_X6_takesFigure B_X6_takesFigure_14
    rw [h30, if_neg (show ¬ nI 8 = (3 : Int32) by decide), put, bd_s, h30', if_neg (show ¬ nI 8 = (3 : Int32) by decide)]
  have r0 : F_X6_takes ρ (nI a) = bd (F_X6_takesFigure ρ (nI a)) fun σ111 r112 => gd (isb r112) (some (σ111, r112)) := by
    rw [tks (Or.inl (mE h30 (by decide) (by decide)))]
    unfold B_X6_takes_30; rw [lt_eq, h30]; rfl
  rw [tf] at r0
  by_cases hd : 48 ≤ a ∧ a < 58
  · rw [dig_y (n := 10) hd.1 hd.2 (by omega), bd_s, lt_eq, if_neg (show ¬ pt σ 75 0 0 (nI (a - 48)) 75 0 0 = -1 by simp [pt]; exact nI_m1 (by omega))] at c0
    unfold B_X2_takes_300 at c0
    rw [go1, bd_s] at c0
    unfold B_X6_takesFigure_48 B_X6_takesFigure_78 at r0
    rw [wd_y hd.1 hd.2, bd_s, h30', if_neg (show ¬ nI 8 = (3 : Int32) by decide), if_neg (show ¬ nI 8 = (5 : Int32) by decide), gr1, bd_s] at r0
    exact TK.go (p' := 11) c0 r0 ((Rf.rfl.w (by decide) (by decide)).w (by decide) (by decide)) ((Pf.rfl.w (by decide)).w (by decide)) ⟨by simp [pt]; rfl, by simp [rp]; exact h31, Or.inr ⟨99, 0, by decide, by unfold HL; omega, by simp [pt]; exact h70, by simp [rp]; exact hT0, Nat.two_pow_pos N, by simp [pt]; exact h74, by simp [rp]; exact hT4, by simp [rp]; exact h33, by omega, fun _ => rfl, Or.inr ⟨k, hk, by simp [pt]; exact h71, by simp [rp]; exact hT1, Or.inr (Or.inr (Or.inr (Or.inr (Or.inl ⟨rfl, rfl, by simp [rp]; rfl, a - 48, by omega, by simp [pt], by simp [rp]; exact sub48 hd.1⟩))))⟩⟩⟩ (fun j hj => by simp [rp]; intro q; omega) (by omega) (by decide) (by omega)
  · rw [dig_n (n := 10) hd ha, bd_s, lt_eq, if_pos (show pt σ 75 0 0 (-1) 75 0 0 = -1 by simp [pt])] at c0
    unfold B_X2_takes_300 at c0
    rw [go0, bd_s] at c0
    unfold B_X6_takesFigure_48 B_X6_takesFigure_78 at r0
    rw [wd_n hd ha, bd_s, h30', if_neg (show ¬ nI 8 = (3 : Int32) by decide), if_neg (show ¬ nI 8 = (5 : Int32) by decide), gr0, bd_s] at r0
    exact TK.bad c0 r0 (Rf.rfl.w (by decide) (by decide)) ((Pf.rfl.w (by decide)).w (by decide))
theorem tk_4 {k s : Nat} (ha : a < 127) (hk : k < N) (hs : s < M) (h76 : σ 76 0 0 = nI 4) (h31 : ρ.1 31 0 = nI e) (he : 5 * e + 4 < 150) (h30 : ρ.1 30 0 = nI 4) (h70 : σ 70 0 0 = nI 97) (hT0 : ρ.1 32 (5 * e) = nI 97) (h74 : σ 74 0 0 = nI 0) (hT4 : ρ.1 32 (5 * e + 4) = nI 0) (h33 : ρ.1 33 0 = hi 0) (h71 : σ 71 0 0 = nI k) (hT1 : ρ.1 32 (5 * e + 1) = nI k) (h72 : σ 72 0 0 = nI s) (hT2 : ρ.1 32 (5 * e + 2) = nI s) : TK N M a e 4 σ ρ := by
  have c0 : F_X2_takes σ (nI a) (nI N) (nI M) = if nI a = (61 : Int32) then B_X2_takes_158 (nI a) (nI N) (nI M) σ 1 else B_X2_takes_158 (nI a) (nI N) (nI M) σ 0 := by
    unfold F_X2_takes; rw [lt_eq, h76]; rfl
  have r0 : F_X6_takes ρ (nI a) = if nI a = (61 : Int32) then B_X6_takes_118 (nI a) ρ 1 else B_X6_takes_118 (nI a) ρ 0 := by
    rw [tks (Or.inl (mE h30 (by decide) (by decide)))]
    unfold B_X6_takes_30; rw [lt_eq, h30]; rfl
  unfold B_X2_takes_158 at c0
  unfold B_X6_takes_118 at r0
  by_cases hd : a = 61
  · subst hd
    rw [if_pos (show nI 61 = (61 : Int32) from rfl), go1, bd_s] at c0
    rw [if_pos (show nI 61 = (61 : Int32) from rfl), gr1, bd_s] at r0
    exact TK.go (p' := 5) c0 r0 (Rf.rfl.w (by decide) (by decide)) (Pf.rfl.w (by decide)) ⟨by simp [pt]; rfl, by simp [rp]; exact h31, Or.inr ⟨97, 0, by decide, by unfold HL; omega, by simp [pt]; exact h70, by simp [rp]; exact hT0, Nat.two_pow_pos N, by simp [pt]; exact h74, by simp [rp]; exact hT4, by simp [rp]; exact h33, by omega, fun _ => rfl, Or.inr ⟨k, hk, by simp [pt]; exact h71, by simp [rp]; exact hT1, Or.inr (Or.inr (Or.inr (Or.inr (Or.inr (Or.inr (Or.inr (Or.inr ⟨s, rfl, hs, by simp [pt]; exact h72, by simp [rp]; exact hT2, Or.inr (Or.inl ⟨rfl, by simp [rp]; rfl⟩)⟩)))))))⟩⟩⟩ (fun j hj => by simp [rp]) (by decide) (by decide) (by decide)
  · have hne : ¬ nI a = (61 : Int32) := nI_ne (b := 61) ha (by decide) hd
    rw [if_neg hne, go0, bd_s] at c0
    rw [if_neg hne, gr0, bd_s] at r0
    exact TK.bad c0 r0 Rf.rfl (Pf.rfl.w (by decide))
theorem tk_6a {k s v : Nat} (ha : a < 127) (hk : k < N) (hs : s < M) (hv : v ≤ 9) (h76 : σ 76 0 0 = nI 6) (h31 : ρ.1 31 0 = nI e) (he : 5 * e + 4 < 150) (h30 : ρ.1 30 0 = nI 6) (h70 : σ 70 0 0 = nI 97) (hT0 : ρ.1 32 (5 * e) = nI 97) (h74 : σ 74 0 0 = nI 0) (hT4 : ρ.1 32 (5 * e + 4) = nI 0) (h33 : ρ.1 33 0 = hi 0) (h71 : σ 71 0 0 = nI k) (hT1 : ρ.1 32 (5 * e + 1) = nI k) (h72 : σ 72 0 0 = nI s) (hT2 : ρ.1 32 (5 * e + 2) = nI s) (h73 : σ 73 0 0 = nI v) (hT3 : ρ.1 32 (5 * e + 3) = nI v) : TK N M a e 6 σ ρ := by
  have c0 : F_X2_takes σ (nI a) (nI N) (nI M) = if nI a = (62 : Int32) then B_X2_takes_205 (nI a) (nI N) (nI M) σ 1 else B_X2_takes_205 (nI a) (nI N) (nI M) σ 0 := by
    unfold F_X2_takes; rw [lt_eq, h76]; rfl
  have r0 : F_X6_takes ρ (nI a) = if nI a = (62 : Int32) then B_X6_takes_135 (nI a) ρ 1 else B_X6_takes_135 (nI a) ρ 0 := by
    rw [tks (Or.inl (mE h30 (by decide) (by decide)))]
    unfold B_X6_takes_30; rw [lt_eq, h30]; rfl
  unfold B_X2_takes_205 at c0
  unfold B_X6_takes_135 at r0
  by_cases hd : a = 62
  · subst hd
    rw [if_pos (show nI 62 = (62 : Int32) from rfl), go1, bd_s] at c0
    rw [if_pos (show nI 62 = (62 : Int32) from rfl), gr1, bd_s] at r0
    exact TK.go (p' := 7) c0 r0 (Rf.rfl.w (by decide) (by decide)) (Pf.rfl.w (by decide)) ⟨by simp [pt]; rfl, by simp [rp]; exact h31, Or.inr ⟨97, 0, by decide, by unfold HL; omega, by simp [pt]; exact h70, by simp [rp]; exact hT0, Nat.two_pow_pos N, by simp [pt]; exact h74, by simp [rp]; exact hT4, by simp [rp]; exact h33, by omega, fun _ => rfl, Or.inr ⟨k, hk, by simp [pt]; exact h71, by simp [rp]; exact hT1, Or.inr (Or.inr (Or.inr (Or.inr (Or.inr (Or.inr (Or.inr (Or.inr ⟨s, rfl, hs, by simp [pt]; exact h72, by simp [rp]; exact hT2, Or.inr (Or.inr ⟨v, hv, by simp [pt]; exact h73, by simp [rp]; exact hT3, Or.inr ⟨Or.inl rfl, by simp [rp]; rfl⟩⟩)⟩)))))))⟩⟩⟩ (fun j hj => by simp [rp]) (by decide) (by decide) (by decide)
  · have hne : ¬ nI a = (62 : Int32) := nI_ne (b := 62) ha (by decide) hd
    rw [if_neg hne, go0, bd_s] at c0
    rw [if_neg hne, gr0, bd_s] at r0
    exact TK.bad c0 r0 Rf.rfl (Pf.rfl.w (by decide))
/-- a reached node -/
theorem tk_r {m p : Nat} (ha : a < 127) (hN3 : 0 < N) (hN : N ≤ 7) (d1 : ρ.1 1 0 = nI N) (hm : m < 2 ^ N) (hp0 : p ≠ 0) (h31 : ρ.1 31 0 = nI e) (he : 5 * e + 4 < 150) (h74 : σ 74 0 0 = nI m) (hT4 : ρ.1 32 (5 * e + 4) = nI m) (h33 : ρ.1 33 0 = hi m)
    (c0 : F_X2_takes σ (nI a) (nI N) (nI M) = bd (bd (F_X2_digit σ (nI a) (nI N)) fun σ1 r1 => F_X2_takesReached σ1 r1) fun σ1 r1 => gd (isb r1) (some (σ1, r1)))
    (r0 : F_X6_takes ρ (nI a) = bd (F_X6_takesReached ρ (nI a)) fun σ1 r1 => gd (isb r1) (some (σ1, r1)))
    (hQ : ∀ m', m' < 2 ^ N → m' ≠ 0 → ∀ σ' ρ', (∀ f, f ≠ 74 → f ≠ 76 → σ' f 0 0 = σ f 0 0) → σ' 74 0 0 = nI m' → σ' 76 0 0 = nI 8 → (∀ f j, ¬ (f = 33 ∧ j = 0) → ¬ (f = 32 ∧ j = 5 * e + 4) → ρ'.1 f j = ρ.1 f j) → ρ'.1 33 0 = hi m' → ρ'.1 32 (5 * e + 4) = nI m' → Qr N M σ' ρ' e 8) : TK N M a e p σ ρ := by
  have hp := pw_N N (by omega)
  by_cases hd : 48 ≤ a ∧ a < 48 + N
  · have hd7 : a - 48 < 7 := by omega
    rw [dig_y hd.1 hd.2 (by omega), bd_s] at c0
    unfold F_X2_takesReached B_X2_takesReached_14 at c0
    unfold F_X6_takesReached B_X6_takesReached_25 B_X6_takesReached_26 B_X6_takesReached_55 at r0
    rw [if_neg (show ¬ nI (a - 48) = -1 from nI_m1 (by omega)), h74] at c0
    rw [lt_eq, isn_y d1 hN hd.1 hd.2, bd_s, if_neg (show ¬ (1 : Int32) = 0 by decide), sub48 hd.1, h33] at r0
    by_cases hz : nI m >>> (nI (a - 48) &&& 31) = 0
    · have hle := (rb1 m (by omega) (a - 48) hd7).mp hz
      obtain ⟨b1, b2, b3⟩ := rb2 m (by omega) (a - 48) hd7 hz
      rw [if_pos hz, lt_eq, lt_eq, bd_s, b1] at c0
      have e31 : (rp ρ 33 0 (nI (a - 48))).1 31 0 = nI e := by rw [rp_n2 (by decide)]; exact h31
      have e32 : (rp ρ 33 0 (nI (a - 48))).1 32 (5 * e + 4) = nI m := by rw [rp_n2 (by decide)]; exact hT4
      rw [if_neg hle, if_neg (show ¬ (1 : Int32) = 0 by decide), lt_eq, lt_eq, e31, m5, show nI (5 * e) + (4 : Int32) = nI (5 * e + 4) from nI_add _ _, gd_inb he (by decide), gd_inb he (by decide), tn_nI (by omega), lt_eq, e32, b1] at r0
      refine TK.go (p' := 8) c0 r0 ((Rf.rfl.w (by decide) (by decide)).w (by decide) (by decide)) ((Pf.rfl.w (by decide)).w (by decide)) (hQ (m ||| 2 ^ (a - 48)) (rb3 hm (by omega)) b3 _ _ (fun f q1 q2 => by simp [pt, q1, q2]) (by simp [pt]) (by simp [pt]; rfl) (fun f j q1 q2 => by simp only [rp]; rw [if_neg q2, if_neg q1]) (by simp [rp]; exact b2.symm) (by simp [rp])) (fun j hj => by simp [rp]; intro q; omega) (by omega) (by decide) (fun h => absurd h hp0)
    · have hle : nI (a - 48) ≤ hi m := Decidable.byContradiction fun q => hz ((rb1 m (by omega) (a - 48) hd7).mpr q)
      rw [if_neg hz, bd_s] at c0
      rw [if_pos hle, if_pos (show (0 : Int32) = 0 from rfl)] at r0
      exact TK.bad c0 r0 Rf.rfl Pf.rfl
  · rw [dig_n hd ha, bd_s] at c0
    unfold F_X2_takesReached B_X2_takesReached_14 at c0
    unfold F_X6_takesReached B_X6_takesReached_25 B_X6_takesReached_26 B_X6_takesReached_55 at r0
    rw [if_pos (show (-1 : Int32) = -1 from rfl), bd_s] at c0
    rw [lt_eq, isn_n d1 hN3 hN hd ha, bd_s, if_pos (show (0 : Int32) = 0 from rfl), if_pos (show (0 : Int32) = 0 from rfl)] at r0
    exact TK.bad c0 r0 Rf.rfl Pf.rfl
/-- an end -/
theorem tk_e {p : Nat} (hp : p = 8 ∨ p = 11) (ha : a = 59) (h31 : ρ.1 31 0 = nI e) (c0 : F_X2_takes σ (nI a) (nI N) (nI M) = some (pt σ 76 0 0 0, 1)) (hm : F_X6_mayEnd ρ = some (ρ, 1)) : TK N M a e p σ ρ := by
  have r0 : F_X6_takes ρ (nI a) = some (rp (rp ρ 31 0 (nI (e + 1))) 30 0 0, 1) := by
    subst ha
    unfold F_X6_takes
    rw [if_pos (show nI 59 = (59 : Int32) from rfl), hm, bd_s, if_neg (show ¬ (1 : Int32) = 0 by decide), lt_eq, gr1, bd_s, h31, nI_1]
    rfl
  exact ⟨_, _, 1, c0, r0, Rf.rfl.w (by decide) (by decide), (Pf.rfl.w (by decide)).w (by decide), Or.inr ⟨rfl, e + 1, 0, ⟨by simp [pt]; rfl, by simp [rp], Or.inl ⟨rfl, by simp [rp]; rfl⟩⟩, fun j _ => by simp [rp], Or.inl ⟨ha, hp, rfl, rfl⟩⟩⟩
end THREE
