def PA (c N M L o bb : Nat) (w : Int32) (X0 : (Nat → Nat → Int32) × Int64) (σ0 : CS) (i : Nat) (σ : CS) (v5 v6 v7 v8 : Int32) (ρ : RS) (u5 u6 u7 : Int32) : Prop := v5 = nI bb ∧ u5 = nI bb ∧ v6 = w ∧ u6 = w ∧ u7 = v8 ∧ (∃ r a, a ≤ r ∧ r ≤ i ∧ v7 = nI r ∧ v8 = nI a ∧ JJN (fun k => k = o → a = r) (8 * c + 24) (fun j => if j < i then c + 1 else c) M σ (Ur ρ) ∧ (a < r → Ur ρ 29 o 0 = -1)) ∧ GR (7 * c + i) N M L σ (Ur ρ) ∧ (∀ s, s < 4 → DR c s σ (Ur ρ)) ∧ Xr ρ = X0 ∧ (∀ f j, (70 ≤ f ∧ f ≤ 76 ∨ f = 40) → σ f 0 j = σ0 f 0 j)
set_option maxHeartbeats 4000000 in
theorem acc_2 {c N M L o s : Nat} {x v0 : Int32} {σ : CS} {ρ : RS} (ho : o < 7) (hs : s < M) (hv : vl v0) (hc : c < 512) (h : Jc c N M L σ ρ) (hrd : ¬ σ 29 o 0 = -1) : ∃ σ' ρ' r, F_X5_sendAccept σ o (nI s) v0 x = some (σ', r) ∧ F_X6_doAccept ρ (nI o) (nI s) v0 x = some (ρ', r) ∧ Xr ρ' = Xr ρ ∧ Jc (c + 1) N M L σ' ρ' ∧ ∀ f j, (70 ≤ f ∧ f ≤ 76 ∨ f = 40) → σ' f 0 j = σ f 0 j := by
  obtain ⟨hG, hJ, hD⟩ := h
  have hM : M ≤ 4 := hG.2.1.2.2.2
  have hN7 : N ≤ 7 := hG.1.2.2.2
  have hs4 : s < 4 := by omega
  have hNo := hJ o ho
  have q := hNo.1.q
  obtain ⟨z0, _, _, _, _, _, hIR⟩ := hNo.2
  have hIR2 : bl (8 * c + 16) (σ 29 o 0) ∧ ∀ s, s < 4 → σ 41 o s = -1 ∨ vl (σ 41 o s) := by
    unfold IR at hIR
    simp only [nd_a (show nc 29 = true from rfl), nd_a (show nc 41 = true from rfl)] at hIR
    rcases hIR with h | ⟨h1, _, _, h2⟩
    · exact absurd h hrd
    · exact ⟨h1, h2⟩
  obtain ⟨⟨bb, hb0, hbB, eb⟩, h41⟩ := hIR2
  have hblB : bl (8 * c + 24) (nI bb) := ⟨bb, hb0, by omega, rfl⟩
  have e41 : σ 41 o s = Ur ρ 41 o s := by
    have := hNo.1.2.2.2 trivial (by rw [nd_a rfl]; exact hrd) s hs4
    rw [nd_a rfl, nd_a rfl] at this
    exact this
  have r18 : ρ.1 18 o = nI bb := by rw [Ur_rd (um_18 ho), ← q.2.2.2.2.1 trivial, eb]
  have r19 : ρ.1 19 (4 * o + s) = σ 41 o s := by rw [Ur_rd (um_19 ho hs4), e41]
  obtain ⟨w, hw, hcw, hrw⟩ : ∃ w, vl w ∧ F_X5_sendAccept σ o (nI s) v0 x = B_X5_sendAccept_40 o (nI s) v0 x 8 (pt σ 41 o s w) (nI bb) w 0 0 0 ∧ F_X6_doAccept ρ (nI o) (nI s) v0 x = B_X6_doAccept_56 (nI o) (nI s) v0 x 4096 (rp ρ 19 (4 * o + s) w) (nI bb) w 0 0 := by
    by_cases hm : σ 41 o s = -1
    · refine ⟨v0, hv, ?_, ?_⟩
      · unfold F_X5_sendAccept B_X5_sendAccept_23
        rw [lt_eq, g4 hs4, t4 hs4, eb, if_pos hm, g4 hs4, lt_eq, g4 hs4, lt_eq]
        have : pt σ 41 o s v0 41 o s = v0 := by simp [pt]
        rw [this]
      · unfold F_X6_doAccept B_X6_doAccept_36
        rw [g7 ho, t7 ho, lt_eq, at_eq, bd_s, g28 ho hs4, t28 ho hs4, r18, r19, if_pos hm, at_eq, bd_s, g28 ho hs4, t28 ho hs4, lt_eq]
    · refine ⟨σ 41 o s, (h41 s hs4).resolve_left hm, ?_, ?_⟩
      · unfold F_X5_sendAccept B_X5_sendAccept_23
        rw [lt_eq, g4 hs4, t4 hs4, eb, if_neg hm, g4 hs4, lt_eq, pt_id rfl]
      · unfold F_X6_doAccept B_X6_doAccept_36
        rw [g7 ho, t7 ho, lt_eq, at_eq, bd_s, g28 ho hs4, t28 ho hs4, r18, r19, if_neg hm, at_eq, bd_s, g28 ho hs4, t28 ho hs4, r19, at_eq, bd_s, g28 ho hs4, t28 ho hs4, lt_eq]
  rw [hcw, hrw]
  clear hcw hrw
  have f1 : Fr o σ (pt σ 41 o s w) := Fr.pa rfl
  have hU : Ur (rp ρ 19 (4 * o + s) w) = pt (Ur ρ) 41 o s w := Ur_rp (um_19 ho hs4)
  have hX : Xr (rp ρ 19 (4 * o + s) w) = Xr ρ := Xr_rp (by decide)
  have f2 : Fr o (Ur ρ) (Ur (rp ρ 19 (4 * o + s) w)) := by rw [hU]; exact Fr.pa rfl
  have hJ1 : JJN (fun k => k = o → 0 = 0) (8 * c + 24) (fun _ => c) M (pt σ 41 o s w) (Ur (rp ρ 19 (4 * o + s) w)) := by
    have hJw : JJN (fun k => k = o → 0 = 0) (8 * c + 24) (fun _ => c) M σ (Ur ρ) := fun k hk => nr_w (fun _ => trivial) ((hJ k hk).mono (by omega) (Nat.le_refl _))
    refine hJw.fr ho f1 f2 (fun _ _ => Nat.le_refl _) ?_
    rw [hU, nd_pa rfl, nd_pa rfl]
    exact nr_w41 hw (hJw o ho)
  have hG1 := hG.fr f1 f2
  have hD1 : ∀ s', s' < 4 → DR c s' (pt σ 41 o s w) (Ur (rp ρ 19 (4 * o + s) w)) := fun s' hs' => (hD s' hs').fr f1 f2
  have hrd1 : ∀ f j, (70 ≤ f ∧ f ≤ 76 ∨ f = 40) → pt σ 41 o s w f 0 j = σ f 0 j := fun f j a => f1.o (nc_r a)
  generalize pt σ 41 o s w = σ1 at f1 hJ1 hG1 hD1 hrd1 ⊢
  generalize rp ρ 19 (4 * o + s) w = ρ1 at hU hX f2 hJ1 hG1 hD1 ⊢
  unfold B_X5_sendAccept_40 B_X6_doAccept_56
  refine lo65_it N (PA c N M L o bb w (Xr ρ) σ) (fun r1 r2 => ∃ (σ' : CS) (ρ' : RS) (r : Int32), r1 = some (σ', r) ∧ r2 = some (ρ', r) ∧ Xr ρ' = Xr ρ ∧ Jc (c + 1) N M L σ' ρ' ∧ ∀ f j, (70 ≤ f ∧ f ≤ 76 ∨ f = 40) → σ' f 0 j = σ f 0 j) ?_ ?_ N 0 8 4096 σ1 (nI bb) w 0 0 ρ1 (nI bb) w 0 (by omega) (by omega) (by omega) ⟨rfl, rfl, rfl, rfl, rfl, ⟨0, 0, Nat.le_refl _, Nat.le_refl _, rfl, rfl, hJ1.mono (Nat.le_refl _) (fun _ => by rw [if_neg (by omega)]; exact Nat.le_refl _), fun q => by omega⟩, hG1, hD1, hX, hrd1⟩
  · rintro i σ v5 v6 v7 v8 ρ u5 u6 u7 hi ⟨rfl, rfl, rfl, rfl, rfl, ⟨r, a, har, hri, rfl, rfl, hJ, h29⟩, hG, hD, hX, hrd⟩
    have hi7 : i < 7 := by omega
    have c6 : σ 6 0 0 = nI N := hG.1.1
    have d6 : ρ.1 1 0 = nI N := by rw [Ur_rd um_1]; exact hG.1.2.1
    have hNi := hJ i hi7
    have qi := hNi.1.q
    have hgl : gt x i (σ 25 i 0) (σ 26 i 0) ↔ gt x i (Ur ρ 25 i 0) (Ur ρ 26 i 0) := by rw [qi.1, qi.2.1]
    by_cases hg : gt x i (σ 25 i 0) (σ 26 i 0)
    · have hgr := hgl.mp hg
      obtain ⟨zi, ⟨b1, b2, _, _⟩, _⟩ := hNi.2
      rw [nd_a rfl] at b1 b2
      have u25 := isb_nz b1 hg.2.1
      have u26 := isb_nz b2 hg.2.2
      have evp := qi.2.2.2.2.2.2.1
      have r11 : (rp ρ 24 0 (ρ.1 24 0 + 1)).1 11 i = σ 60 (7 + i) 0 := by rw [rp_n2 (by decide), Ur_rd (um_11 hi7), evp]
      by_cases hlt : nI bb < σ 60 (7 + i) 0
      · obtain ⟨σ', ρ', e1, e2, hG', hJ', hD', hX', hrd', h2529, h29'⟩ := rf_3 (c := c) (zc := 512) (N := N) (L := L) ho hi7 (by omega) (Nat.le_refl _) hM _ (fun j _ => by split <;> omega) hG hJ (fun k hk e => absurd e hk) hD
        refine ⟨σ', nI bb, u6, nI (r + 1), nI a, ρ', nI bb, u6, nI a, ⟨rfl, rfl, rfl, rfl, rfl, ⟨r + 1, a, by omega, by omega, rfl, rfl, fun k hk => nr_w (fun (q : k = o → a = r + 1) e => by have := q e; omega) ((hJ' k hk).mono (Nat.le_refl _) (zc_up k)), fun _ => h29'⟩, hG', hD', hX'.trans hX, fun f a b => (hrd' f a b).trans (hrd f a b)⟩, fun K => ?_, fun K => ?_⟩
        · rw [c6, if_neg (nI_ge hi (by omega)), (gets_c hi7).1 hg, bd_s, if_neg (by decide), lt_eq, g7 hi7, t7 hi7]
          unfold F_X5_agrees
          rw [lt_eq, if_neg (nI_m1 (show s < 2 ^ 31 by omega)), if_pos hlt, e1, bd_s]
          unfold F_X5_asNumber
          rw [if_pos rfl, bd_s, lt_eq]
          unfold B_X5_sendAccept_88
          rw [lt_eq, nI_1, nI_1, show nI a + (0 : Int32) = nI (a + 0) from nI_add a 0]
          rfl
        · have e3 := e2 (fun a' => B_X6_doAccept_157 (nI o) (nI s) v0 x K a' (nI bb) u6 (nI a) (nI i))
          rw [r11] at e3
          rw [d6, if_neg (nI_ge hi (by omega)), (gets_r hi7).1 hgr, bd_s, if_neg (by decide), lt_eq, g7 hi7, t7 hi7, r11, if_pos hlt, g7 hi7]
          simp only [g7 ho, t7 ho]
          unfold B_X6_doAccept_144
          refine e3.trans ?_
          unfold B_X6_doAccept_157
          rw [lt_eq, nI_1]
      · obtain ⟨σ', ρ', e1, e2, hG', hJ', hD', hX', hrd', h2529, hu29⟩ := ac_2 (c := c) (zc := c) (N := N) (L := L) (x := nI s) (b := nI bb) (v := u6) ho hi7 hc hM _ (fun j => if j < i + 1 then c + 1 else c) (by rw [if_neg (by omega)]; exact Nat.le_refl _) (by rw [if_neg (by omega), if_pos (by omega)]; exact Nat.le_refl _) (fun j _ => zc_up j) hG hJ hD ⟨hblB, Or.inr ⟨s, hs, rfl, hw⟩⟩ u25 u26
        refine ⟨σ', nI bb, u6, nI (r + 1), nI (a + 1), ρ', nI bb, u6, nI (a + 1), ⟨rfl, rfl, rfl, rfl, rfl, ⟨r + 1, a + 1, by omega, by omega, rfl, rfl, fun k hk => nr_w (fun (q : k = o → a + 1 = r + 1) e => by have := q e; omega) (hJ' k hk), fun q => (hu29 29 (by omega) (by omega) o ho).trans (h29 (by omega))⟩, hG', hD', hX'.trans hX, fun f a b => (hrd' f a b).trans (hrd f a b)⟩, fun K => ?_, fun K => ?_⟩
        · rw [c6, if_neg (nI_ge hi (by omega)), (gets_c hi7).1 hg, bd_s, if_neg (by decide), lt_eq, g7 hi7, t7 hi7]
          unfold F_X5_agrees
          rw [lt_eq, if_neg (nI_m1 (show s < 2 ^ 31 by omega)), if_neg hlt, e1, bd_s]
          unfold F_X5_asNumber
          rw [if_neg (by decide), bd_s, lt_eq]
          unfold B_X5_sendAccept_88
          rw [lt_eq, nI_1, nI_1, nI_1]
        · have e3 := e2 (fun a' => B_X6_doAccept_157 (nI o) (nI s) v0 x K a' (nI bb) u6 (nI (a + 1)) (nI i))
          rw [d6, if_neg (nI_ge hi (by omega)), (gets_r hi7).1 hgr, bd_s, if_neg (by decide), lt_eq, g7 hi7, t7 hi7, r11, if_neg hlt, nI_1]
          unfold B_X6_doAccept_144
          refine e3.trans ?_
          unfold B_X6_doAccept_157
          rw [lt_eq, nI_1]
    · have hgr : ¬ gt x i (Ur ρ 25 i 0) (Ur ρ 26 i 0) := fun q => hg (hgl.mpr q)
      refine ⟨σ, nI bb, u6, nI r, nI a, ρ, nI bb, u6, nI a, ⟨rfl, rfl, rfl, rfl, rfl, ⟨r, a, har, by omega, rfl, rfl, hJ.mono (Nat.le_refl _) zc_up, h29⟩, hG.mono (by omega), hD, hX, hrd⟩, fun K => ?_, fun K => ?_⟩
      · rw [c6, if_neg (nI_ge hi (by omega)), (gets_c hi7).2 hg, bd_s, if_pos rfl]
        unfold B_X5_sendAccept_88
        rw [lt_eq, nI_1]
      · rw [d6, if_neg (nI_ge hi (by omega)), (gets_r hi7).2 hgr, bd_s, if_pos rfl]
        unfold B_X6_doAccept_157
        rw [lt_eq, nI_1]
  · rintro σ v5 v6 v7 v8 ρ u5 u6 u7 K K' ⟨rfl, rfl, rfl, rfl, rfl, ⟨r, a, har, hri, rfl, rfl, hJ, h29⟩, hG, hD, hX, hrd⟩
    have c6 : σ 6 0 0 = nI N := hG.1.1
    have d6 : ρ.1 1 0 = nI N := by rw [Ur_rd um_1]; exact hG.1.2.1
    rw [c6, d6, if_pos (nI_le (Nat.le_refl N) (by omega)), if_pos (nI_le (Nat.le_refl N) (by omega))]
    unfold F_X5_quorum F_X6_q
    rw [c6, d6, bd_s, bd_s]
    -- the round stays or is over
    have fin : ∀ (σ2 : CS) (ρ2 : RS), JJN (fun k => k = o → a = r) (8 * c + 24) (fun j => if j < N then c + 1 else c) M σ2 (Ur ρ2) → (a < r → Ur ρ2 29 o 0 = -1) → GR (7 * c + N) N M L σ2 (Ur ρ2) → (∀ s, s < 4 → DR (c + 1) s σ2 (Ur ρ2)) → Xr ρ2 = Xr ρ → (∀ f j, (70 ≤ f ∧ f ≤ 76 ∨ f = 40) → σ2 f 0 j = σ f 0 j) → ∃ σ', B_X5_sendAccept_116 o (nI s) v0 x σ2 (nI r) (nI a) = some (σ', nI a) ∧ Jc (c + 1) N M L σ' ρ2 ∧ ∀ f j, (70 ≤ f ∧ f ≤ 76 ∨ f = 40) → σ' f 0 j = σ f 0 j := by
      intro σ2 ρ2 hJ h29 hG hD hX hrd
      unfold B_X5_sendAccept_116 B_X5_sendAccept_128
      by_cases hle : r ≤ a
      · rw [if_pos (nI_le hle (by omega))]
        refine ⟨σ2, rfl, ⟨hG.mono (by omega), fun k hk => nr_w (fun _ _ => by omega) ((hJ k hk).mono (by omega) (show (if k < N then c + 1 else c) ≤ c + 1 by split <;> omega)), hD⟩, hrd⟩
      · rw [if_neg (nI_ge (by omega) (by omega)), lt_eq]
        have f1 : Fr o σ2 (pt σ2 29 o 0 (-1)) := Fr.pa rfl
        refine ⟨_, rfl, ⟨(hG.mono (by omega)).fr f1 (Fr.rf _ _), fun k hk => ?_, fun s' hs' => (hD s' hs').fr f1 (Fr.rf _ _)⟩, fun f j a => by rw [f1.o (nc_r a)]; exact hrd f j a⟩
        have hNk := (hJ k hk).mono (B' := 8 * (c + 1) + 16) (by omega) (show (if k < N then c + 1 else c) ≤ c + 1 by split <;> omega)
        by_cases e : k = o
        · subst e
          rw [nd_pa rfl]
          exact nr_fin (by rw [nd_a rfl]; exact h29 (by omega)) hNk
        · rw [f1.node hk ho e]
          exact nr_w (fun _ q => absurd q e) hNk
    by_cases hq : nI a < nI N / 2 + 1
    · rw [if_pos hq, if_pos hq]
      obtain ⟨σ', e1, e2, e3⟩ := fin σ ρ hJ h29 hG (fun s' hs' => (hD s' hs').mono (by omega)) rfl (fun _ _ _ => rfl)
      unfold B_X6_doAccept_181
      exact ⟨σ', ρ, nI a, e1, rfl, hX, e2, fun f a b => (e3 f a b).trans (hrd f a b)⟩
    · rw [if_neg hq, if_neg hq, g4 hs4, t4 hs4]
      obtain ⟨σ2, ρ2, k1, k2, kX, k3, k4, k5⟩ := dec_2 (b := nI bb) (w := u6) hs4 (show c < 2 ^ 30 by omega) (hD s hs4)
      rw [k1, k2, bd_s, bd_s]
      have n2 : ∀ k, nd σ2 k = nd σ k := fun k => nd_ext (fun f j hf => k3 f k j (fun q => by rw [nc_d ⟨q.1, q.2.1⟩] at hf; cases hf)) (fun f j hf => k3 f (7 + k) j (fun q => by rw [nc_d ⟨q.1, q.2.1⟩] at hf; cases hf))
      have m2 : ∀ k, nd (Ur ρ2) k = nd (Ur ρ) k := fun k => nd_ext (fun f j hf => k4 f k j (fun q => by rw [nc_d ⟨q.1, q.2.1⟩] at hf; cases hf)) (fun f j hf => k4 f (7 + k) j (fun q => by rw [nc_d ⟨q.1, q.2.1⟩] at hf; cases hf))
      obtain ⟨σ', e1, e2, e3⟩ := fin σ2 ρ2 (hJ.cg (fun k _ => n2 k) (fun k _ => m2 k) (fun _ => Nat.le_refl _)) (fun q => (k4 _ _ _ (by omega)).trans (h29 q)) (hG.cg (fun f j hf => k3 _ _ _ (by omega)) (fun f j hf => k4 _ _ _ (by omega))) (fun s' hs' => by
        by_cases e : s' = s
        · subst e; exact k5
        · exact ((hD s' hs').mono (by omega)).cg (fun f a b => k3 _ _ _ (by omega)) (fun f a b => k4 _ _ _ (by omega))) kX (fun f a b => k3 _ _ _ (by omega))
      unfold B_X6_doAccept_181
      exact ⟨σ', ρ2, nI a, e1, rfl, kX.trans hX, e2, fun f a b => (e3 f a b).trans (hrd f a b)⟩
