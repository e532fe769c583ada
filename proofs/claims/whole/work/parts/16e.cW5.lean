theorem cp_X5_leastLosses : CPv yX5_leastLosses cX5_leastLosses 2 (some .int) RX5 1 := ⟨mw_934, mw_935, mw_98, mw_936, rfl, by decide, by decide, by decide +kernel⟩
set_option maxHeartbeats 4000000 in
set_option maxRecDepth 100000 in
theorem c_X5_leastLosses {l : Launch} (hst : l.stackTraces = false) (g : GG) (A : Nat → Prop) (lay : Nat → Nat) {σ : CS} {σ' : CS} {r : Int32} {x1 : Int32}  (h : F_X5_leastLosses σ x1 = some (σ', .inl r)) : MI l yX5_leastLosses cX5_leastLosses 2 .int 7 111 0 0 [.ref (ga g 0), .int x1] (CH g A) g A lay σ σ' r := by
  unfold F_X5_leastLosses at h
  refine e_i (own := RX5) (lo := [(0, .ref (ga g 0)), (1, .int x1)]) hst (plainFor_of_name (by decide)) rfl rfl (Nat.le_of_ble_eq_true rfl) ?_
  intro p e s m args below meth c C K M
  refine j_aload_n 1 C dX5_leastLosses_0 0 rfl rfl ?_
  refine j_iload_n 2 C dX5_leastLosses_1 1 rfl rfl ?_
  rcases bx_e h with ⟨σ101, u102, hF, h⟩ | ⟨σ101, ex1, hF, h⟩
  · refine k_Vv 5 C K (c_X5_requireSlot K.2.2.2 g A lay  hF) cp_X5_requireSlot (rv_F) mw_581 dX5_leastLosses_2 rfl rfl (Nat.le_of_ble_eq_true rfl) ⟨Nat.le_of_ble_eq_true rfl, Nat.le_of_ble_eq_true rfl⟩ ⟨Nat.le_of_ble_eq_true rfl, Nat.le_of_ble_eq_true rfl⟩ rfl (fun lay => ?_)
    refine j_aload_n 6 C dX5_leastLosses_5 0 rfl rfl ?_
    refine g_F 9 C K 1 (by decide) mw_281 rfl dX5_leastLosses_6 rfl ?_
    refine j_iload_n 10 C dX5_leastLosses_9 1 rfl rfl ?_
    obtain ⟨hz103, h⟩ := gd_e h
    have hb104 : tn x1 < 4 := inb_lt hz103
    refine r_decs 11 C K hz103 dX5_leastLosses_10 rfl ?_
    obtain ⟨σ105, r106, hF, h⟩ := bd_e h
    refine k_Vi 14 C K (c_X0_isMade K.2.2.2 g A lay hb104 hF) cp_X0_isMade (rv_C hb104) mw_386 dX5_leastLosses_11 rfl rfl (Nat.le_of_ble_eq_true rfl) ⟨Nat.le_of_ble_eq_true rfl, Nat.le_of_ble_eq_true rfl⟩ ⟨Nat.le_of_ble_eq_true rfl, Nat.le_of_ble_eq_true rfl⟩ rfl (fun lay => ?_)
    refine j_if_ne 17 28 C dX5_leastLosses_14 (by decide) rfl (fun hc107 => ?_) (fun hc107 => ?_)
    · replace h := it_f hc107 h
      refine j_aload_n 29 C dX5_leastLosses_28 0 rfl rfl ?_
      refine j_iload_n 30 C dX5_leastLosses_29 1 rfl rfl ?_
      obtain ⟨σ108, r109, hF, h⟩ := bd_e h
      refine k_Vi 33 C K (c_X5_fewestLosers K.2.2.2 g A lay  hF) cp_X5_fewestLosers (rv_F) mw_938 dX5_leastLosses_30 rfl rfl (Nat.le_of_ble_eq_true rfl) ⟨Nat.le_of_ble_eq_true rfl, Nat.le_of_ble_eq_true rfl⟩ ⟨Nat.le_of_ble_eq_true rfl, Nat.le_of_ble_eq_true rfl⟩ rfl (fun lay => ?_)
      cases h
      exact x_i C M dX5_leastLosses_33
    · replace h := it_t hc107 h
      cases h
  · cases h
set_option maxHeartbeats 4000000 in
set_option maxRecDepth 100000 in
theorem x_X5_leastLosses {l : Launch} (hst : l.stackTraces = false) (g : GG) (A : Nat → Prop) (lay : Nat → Nat) {σ : CS} {σ' : CS} {ex : Nat} {x1 : Int32}  (h : F_X5_leastLosses σ x1 = some (σ', .inr ex)) : XI l yX5_leastLosses cX5_leastLosses 2 .int 7 111 [.ref (ga g 0), .int x1] (CH g A) g A lay σ σ' ex := by
  unfold F_X5_leastLosses at h
  refine ex_i (own := RX5) (lo := [(0, .ref (ga g 0)), (1, .int x1)]) hst (by decide) rfl rfl (Nat.le_of_ble_eq_true rfl) ?_
  intro p e s m args below meth c C K M hx
  refine j_aload_n 1 C dX5_leastLosses_0 0 rfl rfl ?_
  refine j_iload_n 2 C dX5_leastLosses_1 1 rfl rfl ?_
  rcases bx_e h with ⟨σ101, u102, hF, h⟩ | ⟨σ101, ex1, hF, h⟩
  · refine k_Vv 5 C K (c_X5_requireSlot K.2.2.2 g A lay  hF) cp_X5_requireSlot (rv_F) mw_581 dX5_leastLosses_2 rfl rfl (Nat.le_of_ble_eq_true rfl) ⟨Nat.le_of_ble_eq_true rfl, Nat.le_of_ble_eq_true rfl⟩ ⟨Nat.le_of_ble_eq_true rfl, Nat.le_of_ble_eq_true rfl⟩ rfl (fun lay => ?_)
    refine j_aload_n 6 C dX5_leastLosses_5 0 rfl rfl ?_
    refine g_F 9 C K 1 (by decide) mw_281 rfl dX5_leastLosses_6 rfl ?_
    refine j_iload_n 10 C dX5_leastLosses_9 1 rfl rfl ?_
    obtain ⟨hz103, h⟩ := gd_e h
    have hb104 : tn x1 < 4 := inb_lt hz103
    refine r_decs 11 C K hz103 dX5_leastLosses_10 rfl ?_
    obtain ⟨σ105, r106, hF, h⟩ := bd_e h
    refine k_Vi 14 C K (c_X0_isMade K.2.2.2 g A lay hb104 hF) cp_X0_isMade (rv_C hb104) mw_386 dX5_leastLosses_11 rfl rfl (Nat.le_of_ble_eq_true rfl) ⟨Nat.le_of_ble_eq_true rfl, Nat.le_of_ble_eq_true rfl⟩ ⟨Nat.le_of_ble_eq_true rfl, Nat.le_of_ble_eq_true rfl⟩ rfl (fun lay => ?_)
    refine j_if_ne 17 28 C dX5_leastLosses_14 (by decide) rfl (fun hc107 => ?_) (fun hc107 => ?_)
    · replace h := it_f hc107 h
      refine j_aload_n 29 C dX5_leastLosses_28 0 rfl rfl ?_
      refine j_iload_n 30 C dX5_leastLosses_29 1 rfl rfl ?_
      obtain ⟨σ108, r109, hF, h⟩ := bd_e h
      refine k_Vi 33 C K (c_X5_fewestLosers K.2.2.2 g A lay  hF) cp_X5_fewestLosers (rv_F) mw_938 dX5_leastLosses_30 rfl rfl (Nat.le_of_ble_eq_true rfl) ⟨Nat.le_of_ble_eq_true rfl, Nat.le_of_ble_eq_true rfl⟩ ⟨Nat.le_of_ble_eq_true rfl, Nat.le_of_ble_eq_true rfl⟩ rfl (fun lay => ?_)
      cases h
    · replace h := it_t hc107 h
      cases h
      exact jx_w3 C K M hx CH_kept mw_609 xs_282 xat_X5_84 dX5_leastLosses_17 dX5_leastLosses_20 dX5_leastLosses_21 dX5_leastLosses_24 dX5_leastLosses_27 (Nat.le_of_ble_eq_true rfl) (Nat.le_of_ble_eq_true rfl) ⟨Nat.le_of_ble_eq_true rfl, Nat.le_of_ble_eq_true rfl⟩
  · cases h
    exact kx_Vv C K M hx (x_X5_requireSlot K.2.2.2 g A lay  hF) cp_X5_requireSlot (rv_F) mw_581 dX5_leastLosses_2 rfl rfl (Nat.le_of_ble_eq_true rfl) ⟨Nat.le_of_ble_eq_true rfl, Nat.le_of_ble_eq_true rfl⟩ ⟨Nat.le_of_ble_eq_true rfl, Nat.le_of_ble_eq_true rfl⟩
theorem cp_X5_shareAnswered : CPv yX5_shareAnswered cX5_shareAnswered 1 (some .float) RX5 0 := ⟨mw_372, mw_5, mw_98, mw_373, rfl, by decide, by decide, by decide +kernel⟩
set_option maxHeartbeats 4000000 in
set_option maxRecDepth 100000 in
theorem c_X5_shareAnswered {l : Launch} (hst : l.stackTraces = false) (g : GG) (A : Nat → Prop) (lay : Nat → Nat) {σ : CS} {σ' : CS} {r : UInt32}   (h : F_X5_shareAnswered σ  = some (σ', r)) : MF l yX5_shareAnswered cX5_shareAnswered 1 0 0 0 0 [.ref (ga g 0)] (CH g A) g A lay σ σ' r := by
  unfold F_X5_shareAnswered at h
  refine e_f (own := RX5) (lo := [(0, .ref (ga g 0))]) hst (plainFor_of_name (by decide)) rfl rfl (Nat.le_of_ble_eq_true rfl) ?_
  intro p e s m args below meth c C K M
  refine j_aload_n 1 C dX5_shareAnswered_0 0 rfl rfl ?_
  refine g_F 4 C K 9 (by decide) mw_289 rfl dX5_shareAnswered_1 rfl ?_
  refine j_if_gt 7 9 C dX5_shareAnswered_4 (by decide) rfl (fun hc101 => ?_) (fun hc101 => ?_)
  · replace h := it_t hc101 h
    refine j_aload_n 10 C dX5_shareAnswered_9 0 rfl rfl ?_
    refine g_F 13 C K 10 (by decide) mw_290 rfl dX5_shareAnswered_10 rfl ?_
    refine j_i2f 14 C dX5_shareAnswered_13 rfl ?_
    refine j_aload_n 15 C dX5_shareAnswered_14 0 rfl rfl ?_
    refine g_F 18 C K 9 (by decide) mw_289 rfl dX5_shareAnswered_15 rfl ?_
    refine j_i2f 19 C dX5_shareAnswered_18 rfl ?_
    obtain ⟨hz102, h⟩ := gd_e h
    refine j_fdiv 20 C dX5_shareAnswered_19 (fok_n hz102) rfl ?_
    cases h
    exact x_f C M dX5_shareAnswered_20
  · replace h := it_f hc101 h
    refine j_fconst1 8 C dX5_shareAnswered_7 rfl ?_
    cases h
    exact x_f C M dX5_shareAnswered_8
theorem cp_X5_bitsOfFloat : CPs yX5_bitsOfFloat cX5_bitsOfFloat 3 (some .int) 1 := ⟨mw_375, mw_98, mw_376, by decide, by decide, by decide +kernel⟩
set_option maxHeartbeats 4000000 in
set_option maxRecDepth 100000 in
theorem wn_X5_bitsOfFloat_34 {l : Launch} {p : Program} {e : Env} {s : State} {m : MethodId} {args : Array Value} {below : List Frame} {meth : Method} {c : Code} {g : GG} {A : Nat → Prop} (C : KX p m c cX5_bitsOfFloat 3 s args RX5) (K : KC l g A s) (M : KM meth (some .int)) {σ' : CS} {r : Int32} {f0 : UInt32}     (lay : Nat → Nat) (σ : CS) (v1 : UInt32) (v2 : Int32)  (h : B_X5_bitsOfFloat_34 f0 σ v1 v2 = some (σ', r)) : JJ p l e (rmk 0 0 0 0) s m args below meth c (MQ below (va_Qi (fun (r0 : Int32) (u : CS) => r0 = r ∧ u = σ') (BC (CH g A)) A) args s 0 0 A) A 3 (CH g A lay σ) 0 0 34 [(1, .float v1), (2, .int v2)] [] := by
  unfold B_X5_bitsOfFloat_34 at h
  refine j_iload_n 35 C dX5_bitsOfFloat_34 1 rfl rfl ?_
  refine j_bipush 37 C dX5_bitsOfFloat_35 bp_23 rfl ?_
  refine j_ishl 38 C dX5_bitsOfFloat_37 rfl ?_
  refine j_fload_n 39 C dX5_bitsOfFloat_38 0 rfl rfl ?_
  refine j_fconst1 40 C dX5_bitsOfFloat_39 rfl ?_
  obtain ⟨hz107, h⟩ := gd_e h
  refine j_fsub 41 C dX5_bitsOfFloat_40 (fok_n hz107) rfl ?_
  refine j_ldcwf 44 C dX5_bitsOfFloat_41 mw_377 rfl ?_
  obtain ⟨hz108, h⟩ := gd_e h
  refine j_fmul 45 C dX5_bitsOfFloat_44 (fok_n hz108) rfl ?_
  refine j_f2i 46 C dX5_bitsOfFloat_45 rfl ?_
  refine j_iadd 47 C dX5_bitsOfFloat_46 rfl ?_
  cases h
  exact x_i C M dX5_bitsOfFloat_47
set_option maxHeartbeats 4000000 in
set_option maxRecDepth 100000 in
theorem wn_X5_bitsOfFloat_13 {l : Launch} {p : Program} {e : Env} {s : State} {m : MethodId} {args : Array Value} {below : List Frame} {meth : Method} {c : Code} {g : GG} {A : Nat → Prop} (C : KX p m c cX5_bitsOfFloat 3 s args RX5) (K : KC l g A s) (M : KM meth (some .int)) {σ' : CS} {r : Int32} {f0 : UInt32}     : ∀ (fu : Nat) (lay : Nat → Nat) (σ : CS) (v1 : UInt32) (v2 : Int32), B_X5_bitsOfFloat_13 f0 fu σ v1 v2 = some (σ', r) → JJ p l e (rmk 0 0 0 0) s m args below meth c (MQ below (va_Qi (fun (r0 : Int32) (u : CS) => r0 = r ∧ u = σ') (BC (CH g A)) A) args s 0 0 A) A 3 (CH g A lay σ) 0 0 13 [(1, .float v1), (2, .int v2)] [] := by
  intro fu
  induction fu with
  | zero =>
    intro lay σ v1 v2 h
    exact nomatch (show (none : Option _) = some _ from h)
  | succ fu ih13 =>
    intro lay σ v1 v2 h
    unfold B_X5_bitsOfFloat_13 at h
    rw [lo3_s] at h
    refine j_fload_n 14 C dX5_bitsOfFloat_13 0 rfl rfl ?_
    refine j_fconst1 15 C dX5_bitsOfFloat_14 rfl ?_
    refine j_fcmp 16 C dX5_bitsOfFloat_15 rfl ?_
    refine j_if_ge 19 34 C dX5_bitsOfFloat_16 (by decide) rfl (fun hc102 => ?_) (fun hc102 => ?_)
    · replace h := it_t hc102 h
      exact wn_X5_bitsOfFloat_34 C K M  lay σ v1 v2 h
    · replace h := it_f hc102 h
      refine j_iload_n 20 C dX5_bitsOfFloat_19 1 rfl rfl ?_
      refine j_iconst 21 C dX5_bitsOfFloat_20 ic_1 rfl ?_
      refine j_icmp_le 24 34 C dX5_bitsOfFloat_21 (by decide) rfl (fun hc103 => ?_) (fun hc103 => ?_)
      · replace h := it_t hc103 h
        exact wn_X5_bitsOfFloat_34 C K M  lay σ v1 v2 h
      · replace h := it_f hc103 h
        refine j_fload_n 25 C dX5_bitsOfFloat_24 0 rfl rfl ?_
        refine j_fconst2 26 C dX5_bitsOfFloat_25 rfl ?_
        obtain ⟨hz104, h⟩ := gd_e h
        refine j_fmul 27 C dX5_bitsOfFloat_26 (fok_n hz104) rfl ?_
        refine j_topf (fun f105 ef105 => ?_)
        replace h := lt_e h f105 ef105
        refine j_fstore_n 28 C dX5_bitsOfFloat_27 (lo' := [(1, .float f105), (2, .int v2)]) (by decide) rfl rfl ?_
        obtain ⟨x106, ex106⟩ : ∃ z : Int32, z = v2 + (-1) := ⟨_, rfl⟩
        replace h := lt_e h x106 ex106
        refine j_iinc 31 C dX5_bitsOfFloat_28 1 rfl (v := x106) ((ii_m1 _).trans ex106.symm) (lo' := [(2, .int x106), (1, .float f105)]) (by decide) rfl rfl ?_
        refine j_goto 13 C dX5_bitsOfFloat_31 (by decide) ?_
        refine j_sub [1, 0] (lo' := [(1, .float f105), (2, .int x106)]) rfl ?_
        exact ih13 lay σ f105 x106 h
set_option maxHeartbeats 4000000 in
set_option maxRecDepth 100000 in
theorem c_X5_bitsOfFloat {l : Launch} (hst : l.stackTraces = false) (g : GG) (A : Nat → Prop) (lay : Nat → Nat) {σ : CS} {σ' : CS} {r : Int32} {f0 : UInt32}  (h : F_X5_bitsOfFloat σ f0 = some (σ', r)) : MI l yX5_bitsOfFloat cX5_bitsOfFloat 3 .int 0 0 0 0 [.float f0] (CH g A) g A lay σ σ' r := by
  unfold F_X5_bitsOfFloat at h
  refine e_i (own := RX5) (lo := [(0, .float f0)]) hst (plainFor_of_name (by decide)) rfl rfl (Nat.le_of_ble_eq_true rfl) ?_
  intro p e s m args below meth c C K M
  refine j_fload_n 1 C dX5_bitsOfFloat_0 0 rfl rfl ?_
  refine j_fconst0 2 C dX5_bitsOfFloat_1 rfl ?_
  refine j_fcmp 3 C dX5_bitsOfFloat_2 rfl ?_
  refine j_if_gt 6 8 C dX5_bitsOfFloat_3 (by decide) rfl (fun hc101 => ?_) (fun hc101 => ?_)
  · replace h := it_t hc101 h
    refine j_fload_n 9 C dX5_bitsOfFloat_8 0 rfl rfl ?_
    refine j_fstore_n 10 C dX5_bitsOfFloat_9 (lo' := [(1, .float f0), (0, .float f0)]) (by decide) rfl rfl ?_
    refine j_bipush 12 C dX5_bitsOfFloat_10 bp_127 rfl ?_
    refine j_istore_n 13 C dX5_bitsOfFloat_12 (lo' := [(2, .int (127 : Int32)), (1, .float f0), (0, .float f0)]) (by decide) rfl rfl ?_
    refine j_sub [1, 0] (lo' := [(1, .float f0), (2, .int (127 : Int32))]) rfl ?_
    exact wn_X5_bitsOfFloat_13 C K M  4096 lay σ f0 (127 : Int32) h
  · replace h := it_f hc101 h
    refine j_iconst 7 C dX5_bitsOfFloat_6 ic_0 rfl ?_
    cases h
    exact x_i C M dX5_bitsOfFloat_7
theorem cp_X5_answered : CPv yX5_answered cX5_answered 1 (some .int) RX5 0 := ⟨mw_367, mw_368, mw_98, mw_369, rfl, by decide, by decide, by decide +kernel⟩
set_option maxHeartbeats 4000000 in
set_option maxRecDepth 100000 in
theorem c_X5_answered {l : Launch} (hst : l.stackTraces = false) (g : GG) (A : Nat → Prop) (lay : Nat → Nat) {σ : CS} {σ' : CS} {r : Int32}   (h : F_X5_answered σ  = some (σ', r)) : MI l yX5_answered cX5_answered 1 .int 1 22 0 0 [.ref (ga g 0)] (CH g A) g A lay σ σ' r := by
  unfold F_X5_answered at h
  refine e_i (own := RX5) (lo := [(0, .ref (ga g 0))]) hst (plainFor_of_name (by decide)) rfl rfl (Nat.le_of_ble_eq_true rfl) ?_
  intro p e s m args below meth c C K M
  refine j_aload_n 1 C dX5_answered_0 0 rfl rfl ?_
  obtain ⟨σ101, r102, hF, h⟩ := bd_e h
  refine k_Vf 4 C K (c_X5_shareAnswered K.2.2.2 g A lay  hF) cp_X5_shareAnswered (rv_F) mw_370 dX5_answered_1 rfl rfl (Nat.le_of_ble_eq_true rfl) ⟨Nat.le_of_ble_eq_true rfl, Nat.le_of_ble_eq_true rfl⟩ ⟨Nat.le_of_ble_eq_true rfl, Nat.le_of_ble_eq_true rfl⟩ rfl (fun lay => ?_)
  obtain ⟨σ103, r104, hF, h⟩ := bd_e h
  refine k_Si 7 C K (c_X5_bitsOfFloat K.2.2.2 g A lay  hF) cp_X5_bitsOfFloat mw_374 dX5_answered_4 rfl rfl (Nat.le_of_ble_eq_true rfl) ⟨Nat.le_of_ble_eq_true rfl, Nat.le_of_ble_eq_true rfl⟩ ⟨Nat.le_of_ble_eq_true rfl, Nat.le_of_ble_eq_true rfl⟩ rfl (fun lay => ?_)
  cases h
  exact x_i C M dX5_answered_7
theorem cp_X5_onDisks : CPv yX5_onDisks cX5_onDisks 4 (some .double) RX5 0 := ⟨mw_379, mw_380, mw_98, mw_381, rfl, by decide, by decide, by decide +kernel⟩
set_option maxHeartbeats 4000000 in
set_option maxRecDepth 100000 in
theorem wn_X5_onDisks_22 {l : Launch} {p : Program} {e : Env} {s : State} {m : MethodId} {args : Array Value} {below : List Frame} {meth : Method} {c : Code} {g : GG} {A : Nat → Prop} (C : KX p m c cX5_onDisks 4 s args RX5) (K : KC l g A s) (M : KM meth (some .double)) {σ' : CS} {r : UInt64}      : ∀ (fu : Nat) (lay : Nat → Nat) (σ : CS) (v1 : Int32) (v2 : Int32) (v3 : Int32), B_X5_onDisks_22  fu σ v1 v2 v3 = some (σ', r) → JJ p l e (rmk 3 67 0 0) s m args below meth c (MQ below (va_Qd (fun (r0 : UInt64) (u : CS) => r0 = r ∧ u = σ') (BC (CH g A)) A) args s 0 0 A) A 4 (CH g A lay σ) 0 0 22 [(0, .ref (ga g 0)), (1, .int v1), (2, .int v2), (3, .int v3)] [] := by
  intro fu
  induction fu with
  | zero =>
    intro lay σ v1 v2 v3 h
    exact nomatch (show (none : Option _) = some _ from h)
  | succ fu ih22 =>
    intro lay σ v1 v2 v3 h
    unfold B_X5_onDisks_22 at h
    rw [lo4_s] at h
    refine j_iload_n 23 C dX5_onDisks_22 3 rfl rfl ?_
    refine j_aload_n 24 C dX5_onDisks_23 0 rfl rfl ?_
    refine g_F 27 C K 7 (by decide) mw_287 rfl dX5_onDisks_24 rfl ?_
    refine j_icmp_ge 30 44 C dX5_onDisks_27 (by decide) rfl (fun hc105 => ?_) (fun hc105 => ?_)
    · replace h := it_t hc105 h
      refine j_iload_n 45 C dX5_onDisks_44 2 rfl rfl ?_
      refine j_i2d 46 C dX5_onDisks_45 rfl ?_
      refine j_iload_n 47 C dX5_onDisks_46 1 rfl rfl ?_
      refine j_aload_n 48 C dX5_onDisks_47 0 rfl rfl ?_
      refine g_F 51 C K 6 (by decide) mw_286 rfl dX5_onDisks_48 rfl ?_
      refine j_imul 52 C dX5_onDisks_51 rfl ?_
      refine j_i2d 53 C dX5_onDisks_52 rfl ?_
      obtain ⟨hz106, h⟩ := gd_e h
      refine j_ddiv 54 C dX5_onDisks_53 (dok_n hz106) rfl ?_
      cases h
      exact x_d C M dX5_onDisks_54
    · replace h := it_f hc105 h
      refine j_iload_n 31 C dX5_onDisks_30 2 rfl rfl ?_
      refine j_aload_n 32 C dX5_onDisks_31 0 rfl rfl ?_
      refine j_iload_n 33 C dX5_onDisks_32 3 rfl rfl ?_
      obtain ⟨σ107, r108, hF, h⟩ := bd_e h
      refine k_Vi 36 C K (c_X5_diskHolders K.2.2.2 g A lay  hF) cp_X5_diskHolders (rv_F) mw_390 dX5_onDisks_33 rfl rfl (Nat.le_of_ble_eq_true rfl) ⟨Nat.le_of_ble_eq_true rfl, Nat.le_of_ble_eq_true rfl⟩ ⟨Nat.le_of_ble_eq_true rfl, Nat.le_of_ble_eq_true rfl⟩ rfl (fun lay => ?_)
      refine j_iadd 37 C dX5_onDisks_36 rfl ?_
      refine j_topi (fun x109 ex109 => ?_)
      replace h := lt_e h x109 ex109
      refine j_istore_n 38 C dX5_onDisks_37 (lo' := [(2, .int x109), (0, .ref (ga g 0)), (1, .int v1), (3, .int v3)]) (by decide) rfl rfl ?_
      obtain ⟨x110, ex110⟩ : ∃ z : Int32, z = v3 + 1 := ⟨_, rfl⟩
      replace h := lt_e h x110 ex110
      refine j_iinc 41 C dX5_onDisks_38 3 rfl (v := x110) ((ii_1 _).trans ex110.symm) (lo' := [(3, .int x110), (2, .int x109), (0, .ref (ga g 0)), (1, .int v1)]) (by decide) rfl rfl ?_
      refine j_goto 22 C dX5_onDisks_41 (by decide) ?_
      refine j_sub [2, 3, 1, 0] (lo' := [(0, .ref (ga g 0)), (1, .int v1), (2, .int x109), (3, .int x110)]) rfl ?_
      exact ih22 lay σ107 v1 x109 x110 h
set_option maxHeartbeats 4000000 in
set_option maxRecDepth 100000 in
theorem wn_X5_onDisks_16 {l : Launch} {p : Program} {e : Env} {s : State} {m : MethodId} {args : Array Value} {below : List Frame} {meth : Method} {c : Code} {g : GG} {A : Nat → Prop} (C : KX p m c cX5_onDisks 4 s args RX5) (K : KC l g A s) (M : KM meth (some .double)) {σ' : CS} {r : UInt64}      (lay : Nat → Nat) (σ : CS)   (h : B_X5_onDisks_16  σ  = some (σ', r)) : JJ p l e (rmk 3 67 0 0) s m args below meth c (MQ below (va_Qd (fun (r0 : UInt64) (u : CS) => r0 = r ∧ u = σ') (BC (CH g A)) A) args s 0 0 A) A 4 (CH g A lay σ) 0 0 16 [] [] := by
  unfold B_X5_onDisks_16 at h
  refine j_dconst0 17 C dX5_onDisks_16 rfl ?_
  cases h
  exact x_d C M dX5_onDisks_17
set_option maxHeartbeats 4000000 in
set_option maxRecDepth 100000 in
theorem c_X5_onDisks {l : Launch} (hst : l.stackTraces = false) (g : GG) (A : Nat → Prop) (lay : Nat → Nat) {σ : CS} {σ' : CS} {r : UInt64}   (h : F_X5_onDisks σ  = some (σ', r)) : MD l yX5_onDisks cX5_onDisks 4 3 67 0 0 [.ref (ga g 0)] (CH g A) g A lay σ σ' r := by
  unfold F_X5_onDisks at h
  refine e_d (own := RX5) (lo := [(0, .ref (ga g 0))]) hst (plainFor_of_name (by decide)) rfl rfl (Nat.le_of_ble_eq_true rfl) ?_
  intro p e s m args below meth c C K M
  refine j_aload_n 1 C dX5_onDisks_0 0 rfl rfl ?_
  obtain ⟨σ101, r102, hF, h⟩ := bd_e h
  refine k_Vi 4 C K (c_X5_decidedSlots K.2.2.2 g A lay  hF) cp_X5_decidedSlots (rv_F) mw_382 dX5_onDisks_1 rfl rfl (Nat.le_of_ble_eq_true rfl) ⟨Nat.le_of_ble_eq_true rfl, Nat.le_of_ble_eq_true rfl⟩ ⟨Nat.le_of_ble_eq_true rfl, Nat.le_of_ble_eq_true rfl⟩ rfl (fun lay => ?_)
  refine j_istore_n 5 C dX5_onDisks_4 (lo' := [(1, .int r102), (0, .ref (ga g 0))]) (by decide) rfl rfl ?_
  refine j_iload_n 6 C dX5_onDisks_5 0 rfl rfl ?_
  refine j_if_le 9 16 C dX5_onDisks_6 (by decide) rfl (fun hc103 => ?_) (fun hc103 => ?_)
  · replace h := it_t hc103 h
    refine j_sub [] (lo' := []) rfl ?_
    exact wn_X5_onDisks_16 C K M  lay σ101  h
  · replace h := it_f hc103 h
    refine j_aload_n 10 C dX5_onDisks_9 1 rfl rfl ?_
    refine g_F 13 C K 6 (by decide) mw_286 rfl dX5_onDisks_10 rfl ?_
    refine j_if_gt 16 18 C dX5_onDisks_13 (by decide) rfl (fun hc104 => ?_) (fun hc104 => ?_)
    · replace h := it_t hc104 h
      refine j_iconst 19 C dX5_onDisks_18 ic_0 rfl ?_
      refine j_istore_n 20 C dX5_onDisks_19 (lo' := [(2, .int (0 : Int32)), (1, .int r102), (0, .ref (ga g 0))]) (by decide) rfl rfl ?_
      refine j_iconst 21 C dX5_onDisks_20 ic_0 rfl ?_
      refine j_istore_n 22 C dX5_onDisks_21 (lo' := [(3, .int (0 : Int32)), (2, .int (0 : Int32)), (1, .int r102), (0, .ref (ga g 0))]) (by decide) rfl rfl ?_
      refine j_sub [3, 2, 1, 0] (lo' := [(0, .ref (ga g 0)), (1, .int r102), (2, .int (0 : Int32)), (3, .int (0 : Int32))]) rfl ?_
      exact wn_X5_onDisks_22 C K M  4096 lay σ101 r102 (0 : Int32) (0 : Int32) h
    · replace h := it_f hc104 h
      refine j_sub [] (lo' := []) rfl ?_
      exact wn_X5_onDisks_16 C K M  lay σ101  h
theorem cp_X5_hashOfNode : CPv yX5_hashOfNode cX5_hashOfNode 8 (some .long) RX5 2 := ⟨mw_502, mw_15, mw_98, mw_503, rfl, by decide, by decide, by decide +kernel⟩
set_option maxHeartbeats 4000000 in
set_option maxRecDepth 100000 in
theorem wn_X5_hashOfNode_215 {l : Launch} {p : Program} {e : Env} {s : State} {m : MethodId} {args : Array Value} {below : List Frame} {meth : Method} {c : Code} {g : GG} {A : Nat → Prop} (C : KX p m c cX5_hashOfNode 8 s args RX5) (K : KC l g A s) (M : KM meth (some .long)) {σ' : CS} {r : Int64} {y1 : Int64} {x3 : Int32}     (lay : Nat → Nat) (σ : CS) (v4 : Int64)  (h : B_X5_hashOfNode_215 y1 x3 σ v4 = some (σ', .inl r)) : JJ p l e (rmk 8 135 0 0) s m args below meth c (MQ below (va_Ql (fun (r0 : Int64) (u : CS) => r0 = r ∧ u = σ') (BC (CH g A)) A) args s 0 0 A) A 8 (CH g A lay σ) 0 0 215 [(4, .long v4)] [] := by
  unfold B_X5_hashOfNode_215 at h
  refine j_lload 217 C dX5_hashOfNode_215 0 rfl rfl ?_
  cases h
  exact x_l C M dX5_hashOfNode_217
set_option maxHeartbeats 4000000 in
set_option maxRecDepth 100000 in
theorem wn_X5_hashOfNode_183 {l : Launch} {p : Program} {e : Env} {s : State} {m : MethodId} {args : Array Value} {below : List Frame} {meth : Method} {c : Code} {g : GG} {A : Nat → Prop} (C : KX p m c cX5_hashOfNode 8 s args RX5) (K : KC l g A s) (M : KM meth (some .long)) {σ' : CS} {r : Int64} {y1 : Int64} {x3 : Int32}     : ∀ (fu : Nat) (lay : Nat → Nat) (σ : CS) (v4 : Int64) (v6 : Int32), B_X5_hashOfNode_183 y1 x3 fu σ v4 v6 = some (σ', .inl r) → JJ p l e (rmk 8 135 0 0) s m args below meth c (MQ below (va_Ql (fun (r0 : Int64) (u : CS) => r0 = r ∧ u = σ') (BC (CH g A)) A) args s 0 0 A) A 8 (CH g A lay σ) 0 0 183 [(0, .ref (ga g 0)), (3, .int x3), (4, .long v4), (6, .int v6)] [] := by
  intro fu
  induction fu with
  | zero =>
    intro lay σ v4 v6 h
    exact nomatch (show (none : Option _) = some _ from h)
  | succ fu ih183 =>
    intro lay σ v4 v6 h
    unfold B_X5_hashOfNode_183 at h
    rw [lo3_s] at h
    refine j_iload 185 C dX5_hashOfNode_183 3 rfl rfl ?_
    refine j_aload_n 186 C dX5_hashOfNode_185 0 rfl rfl ?_
    refine g_F 189 C K 7 (by decide) mw_287 rfl dX5_hashOfNode_186 rfl ?_
    refine j_icmp_ge 192 215 C dX5_hashOfNode_189 (by decide) rfl (fun hc126 => ?_) (fun hc126 => ?_)
    · replace h := it_t hc126 h
      refine j_sub [2] (lo' := [(4, .long v4)]) rfl ?_
      exact wn_X5_hashOfNode_215 C K M  lay σ v4 h
    · replace h := it_f hc126 h
      refine j_ldc2 195 C dX5_hashOfNode_192 mw_407 rfl ?_
      refine j_lload 197 C dX5_hashOfNode_195 2 rfl rfl ?_
      refine j_lmul 198 C dX5_hashOfNode_197 rfl ?_
      refine j_aload_n 199 C dX5_hashOfNode_198 0 rfl rfl ?_
      refine j_iload_n 200 C dX5_hashOfNode_199 1 rfl rfl ?_
      refine j_iload 202 C dX5_hashOfNode_200 3 rfl rfl ?_
      rcases bx_e h with ⟨σ127, r128, hF, h⟩ | ⟨σ127, ex1, hF, h⟩
      · refine k_Vi 205 C K (c_X5_roundValue K.2.2.2 g A lay  hF) cp_X5_roundValue (rv_F) mw_601 dX5_hashOfNode_202 rfl rfl (Nat.le_of_ble_eq_true rfl) ⟨Nat.le_of_ble_eq_true rfl, Nat.le_of_ble_eq_true rfl⟩ ⟨Nat.le_of_ble_eq_true rfl, Nat.le_of_ble_eq_true rfl⟩ rfl (fun lay => ?_)
        refine j_i2l 206 C dX5_hashOfNode_205 rfl ?_
        refine j_ladd 207 C dX5_hashOfNode_206 rfl ?_
        refine j_topl (fun y129 ey129 => ?_)
        replace h := lt_e h y129 ey129
        refine j_lstore 209 C dX5_hashOfNode_207 (lo' := [(4, .long y129), (0, .ref (ga g 0)), (3, .int x3), (6, .int v6)]) (by decide) rfl rfl ?_
        obtain ⟨x130, ex130⟩ : ∃ z : Int32, z = v6 + 1 := ⟨_, rfl⟩
        replace h := lt_e h x130 ex130
        refine j_iinc 212 C dX5_hashOfNode_209 3 rfl (v := x130) ((ii_1 _).trans ex130.symm) (lo' := [(6, .int x130), (4, .long y129), (0, .ref (ga g 0)), (3, .int x3)]) (by decide) rfl rfl ?_
        refine j_goto 183 C dX5_hashOfNode_212 (by decide) ?_
        refine j_sub [2, 3, 1, 0] (lo' := [(0, .ref (ga g 0)), (3, .int x3), (4, .long y129), (6, .int x130)]) rfl ?_
        exact ih183 lay σ127 y129 x130 h
      · cases h
set_option maxHeartbeats 4000000 in
set_option maxRecDepth 100000 in
theorem wn_X5_hashOfNode_131 {l : Launch} {p : Program} {e : Env} {s : State} {m : MethodId} {args : Array Value} {below : List Frame} {meth : Method} {c : Code} {g : GG} {A : Nat → Prop} (C : KX p m c cX5_hashOfNode 8 s args RX5) (K : KC l g A s) (M : KM meth (some .long)) {σ' : CS} {r : Int64} {y1 : Int64} {x3 : Int32}   {self111 : CS → Int64 → Int32 → Option (CS × (Int64 ⊕ Nat))} (ih111 : ∀ (lay : Nat → Nat) (σ : CS) (v4 : Int64) (v6 : Int32), self111 σ v4 v6 = some (σ', .inl r) → JJ p l e (rmk 8 135 0 0) s m args below meth c (MQ below (va_Ql (fun (r0 : Int64) (u : CS) => r0 = r ∧ u = σ') (BC (CH g A)) A) args s 0 0 A) A 8 (CH g A lay σ) 0 0 111 [(0, .ref (ga g 0)), (3, .int x3), (4, .long v4), (6, .int v6)] []) : ∀ (fu : Nat) (lay : Nat → Nat) (σ : CS) (v4 : Int64) (v6 : Int32) (v7 : Int32), B_X5_hashOfNode_131 y1 x3 self111 fu σ v4 v6 v7 = some (σ', .inl r) → JJ p l e (rmk 8 135 0 0) s m args below meth c (MQ below (va_Ql (fun (r0 : Int64) (u : CS) => r0 = r ∧ u = σ') (BC (CH g A)) A) args s 0 0 A) A 8 (CH g A lay σ) 0 0 131 [(0, .ref (ga g 0)), (3, .int x3), (4, .long v4), (6, .int v6), (7, .int v7)] [] := by
  intro fu
  induction fu with
  | zero =>
    intro lay σ v4 v6 v7 h
    exact nomatch (show (none : Option _) = some _ from h)
  | succ fu ih131 =>
    intro lay σ v4 v6 v7 h
    unfold B_X5_hashOfNode_131 at h
    rw [lo4_s] at h
    refine j_iload 133 C dX5_hashOfNode_131 4 rfl rfl ?_
    refine j_iconst 134 C dX5_hashOfNode_133 ic_3 rfl ?_
    refine j_icmp_ge 137 162 C dX5_hashOfNode_134 (by decide) rfl (fun hc131 => ?_) (fun hc131 => ?_)
    · replace h := it_t hc131 h
      obtain ⟨x132, ex132⟩ : ∃ z : Int32, z = v6 + 1 := ⟨_, rfl⟩
      replace h := lt_e h x132 ex132
      refine j_iinc 165 C dX5_hashOfNode_162 3 rfl (v := x132) ((ii_1 _).trans ex132.symm) (lo' := [(6, .int x132), (0, .ref (ga g 0)), (3, .int x3), (4, .long v4), (7, .int v7)]) (by decide) rfl rfl ?_
      refine j_goto 111 C dX5_hashOfNode_165 (by decide) ?_
      refine j_sub [1, 2, 3, 0] (lo' := [(0, .ref (ga g 0)), (3, .int x3), (4, .long v4), (6, .int x132)]) rfl ?_
      exact ih111 lay σ v4 x132 h
    · replace h := it_f hc131 h
      refine j_ldc2 140 C dX5_hashOfNode_137 mw_407 rfl ?_
      refine j_lload 142 C dX5_hashOfNode_140 2 rfl rfl ?_
      refine j_lmul 143 C dX5_hashOfNode_142 rfl ?_
      refine j_aload_n 144 C dX5_hashOfNode_143 0 rfl rfl ?_
      refine j_iload_n 145 C dX5_hashOfNode_144 1 rfl rfl ?_
      refine j_iload 147 C dX5_hashOfNode_145 3 rfl rfl ?_
      refine j_iload 149 C dX5_hashOfNode_147 4 rfl rfl ?_
      rcases bx_e h with ⟨σ133, r134, hF, h⟩ | ⟨σ133, ex1, hF, h⟩
      · refine k_Vi 152 C K (c_X5_waiting K.2.2.2 g A lay  hF) cp_X5_waiting (rv_F) mw_591 dX5_hashOfNode_149 rfl rfl (Nat.le_of_ble_eq_true rfl) ⟨Nat.le_of_ble_eq_true rfl, Nat.le_of_ble_eq_true rfl⟩ ⟨Nat.le_of_ble_eq_true rfl, Nat.le_of_ble_eq_true rfl⟩ rfl (fun lay => ?_)
        refine j_i2l 153 C dX5_hashOfNode_152 rfl ?_
        refine j_ladd 154 C dX5_hashOfNode_153 rfl ?_
        refine j_topl (fun y135 ey135 => ?_)
        replace h := lt_e h y135 ey135
        refine j_lstore 156 C dX5_hashOfNode_154 (lo' := [(4, .long y135), (0, .ref (ga g 0)), (3, .int x3), (6, .int v6), (7, .int v7)]) (by decide) rfl rfl ?_
        obtain ⟨x136, ex136⟩ : ∃ z : Int32, z = v7 + 1 := ⟨_, rfl⟩
        replace h := lt_e h x136 ex136
        refine j_iinc 159 C dX5_hashOfNode_156 4 rfl (v := x136) ((ii_1 _).trans ex136.symm) (lo' := [(7, .int x136), (4, .long y135), (0, .ref (ga g 0)), (3, .int x3), (6, .int v6)]) (by decide) rfl rfl ?_
        refine j_goto 131 C dX5_hashOfNode_159 (by decide) ?_
        refine j_sub [2, 3, 1, 4, 0] (lo' := [(0, .ref (ga g 0)), (3, .int x3), (4, .long y135), (6, .int v6), (7, .int x136)]) rfl ?_
        exact ih131 lay σ133 y135 v6 x136 h
      · cases h
set_option maxHeartbeats 4000000 in
set_option maxRecDepth 100000 in
theorem wn_X5_hashOfNode_111 {l : Launch} {p : Program} {e : Env} {s : State} {m : MethodId} {args : Array Value} {below : List Frame} {meth : Method} {c : Code} {g : GG} {A : Nat → Prop} (C : KX p m c cX5_hashOfNode 8 s args RX5) (K : KC l g A s) (M : KM meth (some .long)) {σ' : CS} {r : Int64} {y1 : Int64} {x3 : Int32}     : ∀ (fu : Nat) (lay : Nat → Nat) (σ : CS) (v4 : Int64) (v6 : Int32), B_X5_hashOfNode_111 y1 x3 fu σ v4 v6 = some (σ', .inl r) → JJ p l e (rmk 8 135 0 0) s m args below meth c (MQ below (va_Ql (fun (r0 : Int64) (u : CS) => r0 = r ∧ u = σ') (BC (CH g A)) A) args s 0 0 A) A 8 (CH g A lay σ) 0 0 111 [(0, .ref (ga g 0)), (3, .int x3), (4, .long v4), (6, .int v6)] [] := by
  intro fu
  induction fu with
  | zero =>
    intro lay σ v4 v6 h
    exact nomatch (show (none : Option _) = some _ from h)
  | succ fu ih111 =>
    intro lay σ v4 v6 h
    unfold B_X5_hashOfNode_111 at h
    rw [lo3_s] at h
    refine j_iload 113 C dX5_hashOfNode_111 3 rfl rfl ?_
    refine j_aload_n 114 C dX5_hashOfNode_113 0 rfl rfl ?_
    refine g_F 117 C K 0 (by decide) mw_280 rfl dX5_hashOfNode_114 rfl ?_
    refine j_iload_n 118 C dX5_hashOfNode_117 1 rfl rfl ?_
    obtain ⟨hz112, h⟩ := gd_e h
    have hb113 : tn x3 < 7 := inb_lt hz112
    refine r_nodes 119 C K hz112 dX5_hashOfNode_118 rfl ?_
    refine g_N 122 C K hb113 3 (by decide) mw_224 rfl dX5_hashOfNode_119 rfl ?_
    refine g_W 125 C K hb113 3 (by decide) mw_208 rfl dX5_hashOfNode_122 rfl ?_
    refine j_icmp_ge 128 168 C dX5_hashOfNode_125 (by decide) rfl (fun hc114 => ?_) (fun hc114 => ?_)
    · replace h := it_t hc114 h
      refine j_aload_n 169 C dX5_hashOfNode_168 0 rfl rfl ?_
      refine g_F 172 C K 0 (by decide) mw_280 rfl dX5_hashOfNode_169 rfl ?_
      refine j_iload_n 173 C dX5_hashOfNode_172 1 rfl rfl ?_
      obtain ⟨hz115, h⟩ := gd_e h
      have hb116 : tn x3 < 7 := inb_lt hz115
      refine r_nodes 174 C K hz115 dX5_hashOfNode_173 rfl ?_
      obtain ⟨σ117, r118, hF, h⟩ := bd_e h
      refine k_Vi 177 C K (c_X3_hasRound K.2.2.2 g A lay hb116 hF) cp_X3_hasRound (rv_N hb116) mw_597 dX5_hashOfNode_174 rfl rfl (Nat.le_of_ble_eq_true rfl) ⟨Nat.le_of_ble_eq_true rfl, Nat.le_of_ble_eq_true rfl⟩ ⟨Nat.le_of_ble_eq_true rfl, Nat.le_of_ble_eq_true rfl⟩ rfl (fun lay => ?_)
      refine j_if_eq 180 215 C dX5_hashOfNode_177 (by decide) rfl (fun hc119 => ?_) (fun hc119 => ?_)
      · replace h := it_t hc119 h
        refine j_sub [2] (lo' := [(4, .long v4)]) rfl ?_
        exact wn_X5_hashOfNode_215 C K M  lay σ117 v4 h
      · replace h := it_f hc119 h
        refine j_iconst 181 C dX5_hashOfNode_180 ic_0 rfl ?_
        refine j_istore 183 C dX5_hashOfNode_181 (lo' := [(6, .int (0 : Int32)), (0, .ref (ga g 0)), (3, .int x3), (4, .long v4)]) (by decide) rfl rfl ?_
        refine j_sub [1, 2, 3, 0] (lo' := [(0, .ref (ga g 0)), (3, .int x3), (4, .long v4), (6, .int (0 : Int32))]) rfl ?_
        exact wn_X5_hashOfNode_183 C K M  4096 lay σ117 v4 (0 : Int32) h
    · replace h := it_f hc114 h
      refine j_iconst 129 C dX5_hashOfNode_128 ic_0 rfl ?_
      refine j_istore 131 C dX5_hashOfNode_129 (lo' := [(7, .int (0 : Int32)), (0, .ref (ga g 0)), (3, .int x3), (4, .long v4), (6, .int v6)]) (by decide) rfl rfl ?_
      refine j_sub [1, 2, 3, 4, 0] (lo' := [(0, .ref (ga g 0)), (3, .int x3), (4, .long v4), (6, .int v6), (7, .int (0 : Int32))]) rfl ?_
      exact wn_X5_hashOfNode_131 C K M ih111 4096 lay σ v4 v6 (0 : Int32) h
set_option maxHeartbeats 4000000 in
set_option maxRecDepth 100000 in
theorem wn_X5_hashOfNode_71 {l : Launch} {p : Program} {e : Env} {s : State} {m : MethodId} {args : Array Value} {below : List Frame} {meth : Method} {c : Code} {g : GG} {A : Nat → Prop} (C : KX p m c cX5_hashOfNode 8 s args RX5) (K : KC l g A s) (M : KM meth (some .long)) {σ' : CS} {r : Int64} {y1 : Int64} {x3 : Int32}   {self59 : CS → Int64 → Int32 → Option (CS × (Int64 ⊕ Nat))} (ih59 : ∀ (lay : Nat → Nat) (σ : CS) (v4 : Int64) (v6 : Int32), self59 σ v4 v6 = some (σ', .inl r) → JJ p l e (rmk 8 135 0 0) s m args below meth c (MQ below (va_Ql (fun (r0 : Int64) (u : CS) => r0 = r ∧ u = σ') (BC (CH g A)) A) args s 0 0 A) A 8 (CH g A lay σ) 0 0 59 [(0, .ref (ga g 0)), (3, .int x3), (4, .long v4), (6, .int v6)] []) : ∀ (fu : Nat) (lay : Nat → Nat) (σ : CS) (v4 : Int64) (v6 : Int32) (v7 : Int32), B_X5_hashOfNode_71 y1 x3 self59 fu σ v4 v6 v7 = some (σ', .inl r) → JJ p l e (rmk 8 135 0 0) s m args below meth c (MQ below (va_Ql (fun (r0 : Int64) (u : CS) => r0 = r ∧ u = σ') (BC (CH g A)) A) args s 0 0 A) A 8 (CH g A lay σ) 0 0 71 [(0, .ref (ga g 0)), (3, .int x3), (4, .long v4), (6, .int v6), (7, .int v7)] [] := by
  intro fu
  induction fu with
  | zero =>
    intro lay σ v4 v6 v7 h
    exact nomatch (show (none : Option _) = some _ from h)
  | succ fu ih71 =>
    intro lay σ v4 v6 v7 h
    unfold B_X5_hashOfNode_71 at h
    rw [lo4_s] at h
    refine j_iload 73 C dX5_hashOfNode_71 4 rfl rfl ?_
    refine j_iconst 74 C dX5_hashOfNode_73 ic_4 rfl ?_
    refine j_icmp_ge 77 102 C dX5_hashOfNode_74 (by decide) rfl (fun hc120 => ?_) (fun hc120 => ?_)
    · replace h := it_t hc120 h
      obtain ⟨x121, ex121⟩ : ∃ z : Int32, z = v6 + 1 := ⟨_, rfl⟩
      replace h := lt_e h x121 ex121
      refine j_iinc 105 C dX5_hashOfNode_102 3 rfl (v := x121) ((ii_1 _).trans ex121.symm) (lo' := [(6, .int x121), (0, .ref (ga g 0)), (3, .int x3), (4, .long v4), (7, .int v7)]) (by decide) rfl rfl ?_
      refine j_goto 59 C dX5_hashOfNode_105 (by decide) ?_
      refine j_sub [1, 2, 3, 0] (lo' := [(0, .ref (ga g 0)), (3, .int x3), (4, .long v4), (6, .int x121)]) rfl ?_
      exact ih59 lay σ v4 x121 h
    · replace h := it_f hc120 h
      refine j_ldc2 80 C dX5_hashOfNode_77 mw_407 rfl ?_
      refine j_lload 82 C dX5_hashOfNode_80 2 rfl rfl ?_
      refine j_lmul 83 C dX5_hashOfNode_82 rfl ?_
      refine j_aload_n 84 C dX5_hashOfNode_83 0 rfl rfl ?_
      refine j_iload_n 85 C dX5_hashOfNode_84 1 rfl rfl ?_
      refine j_iload 87 C dX5_hashOfNode_85 3 rfl rfl ?_
      refine j_iload 89 C dX5_hashOfNode_87 4 rfl rfl ?_
      rcases bx_e h with ⟨σ122, r123, hF, h⟩ | ⟨σ122, ex1, hF, h⟩
      · refine k_Vi 92 C K (c_X5_accepted K.2.2.2 g A lay  hF) cp_X5_accepted (rv_F) mw_577 dX5_hashOfNode_89 rfl rfl (Nat.le_of_ble_eq_true rfl) ⟨Nat.le_of_ble_eq_true rfl, Nat.le_of_ble_eq_true rfl⟩ ⟨Nat.le_of_ble_eq_true rfl, Nat.le_of_ble_eq_true rfl⟩ rfl (fun lay => ?_)
        refine j_i2l 93 C dX5_hashOfNode_92 rfl ?_
        refine j_ladd 94 C dX5_hashOfNode_93 rfl ?_
        refine j_topl (fun y124 ey124 => ?_)
        replace h := lt_e h y124 ey124
        refine j_lstore 96 C dX5_hashOfNode_94 (lo' := [(4, .long y124), (0, .ref (ga g 0)), (3, .int x3), (6, .int v6), (7, .int v7)]) (by decide) rfl rfl ?_
        obtain ⟨x125, ex125⟩ : ∃ z : Int32, z = v7 + 1 := ⟨_, rfl⟩
        replace h := lt_e h x125 ex125
        refine j_iinc 99 C dX5_hashOfNode_96 4 rfl (v := x125) ((ii_1 _).trans ex125.symm) (lo' := [(7, .int x125), (4, .long y124), (0, .ref (ga g 0)), (3, .int x3), (6, .int v6)]) (by decide) rfl rfl ?_
        refine j_goto 71 C dX5_hashOfNode_99 (by decide) ?_
        refine j_sub [2, 3, 1, 4, 0] (lo' := [(0, .ref (ga g 0)), (3, .int x3), (4, .long y124), (6, .int v6), (7, .int x125)]) rfl ?_
        exact ih71 lay σ122 y124 v6 x125 h
      · cases h
set_option maxHeartbeats 4000000 in
set_option maxRecDepth 100000 in
theorem wn_X5_hashOfNode_59 {l : Launch} {p : Program} {e : Env} {s : State} {m : MethodId} {args : Array Value} {below : List Frame} {meth : Method} {c : Code} {g : GG} {A : Nat → Prop} (C : KX p m c cX5_hashOfNode 8 s args RX5) (K : KC l g A s) (M : KM meth (some .long)) {σ' : CS} {r : Int64} {y1 : Int64} {x3 : Int32}     : ∀ (fu : Nat) (lay : Nat → Nat) (σ : CS) (v4 : Int64) (v6 : Int32), B_X5_hashOfNode_59 y1 x3 fu σ v4 v6 = some (σ', .inl r) → JJ p l e (rmk 8 135 0 0) s m args below meth c (MQ below (va_Ql (fun (r0 : Int64) (u : CS) => r0 = r ∧ u = σ') (BC (CH g A)) A) args s 0 0 A) A 8 (CH g A lay σ) 0 0 59 [(0, .ref (ga g 0)), (3, .int x3), (4, .long v4), (6, .int v6)] [] := by
  intro fu
  induction fu with
  | zero =>
    intro lay σ v4 v6 h
    exact nomatch (show (none : Option _) = some _ from h)
  | succ fu ih59 =>
    intro lay σ v4 v6 h
    unfold B_X5_hashOfNode_59 at h
    rw [lo3_s] at h
    refine j_iload 61 C dX5_hashOfNode_59 3 rfl rfl ?_
    refine j_aload_n 62 C dX5_hashOfNode_61 0 rfl rfl ?_
    refine g_F 65 C K 7 (by decide) mw_287 rfl dX5_hashOfNode_62 rfl ?_
    refine j_icmp_ge 68 108 C dX5_hashOfNode_65 (by decide) rfl (fun hc111 => ?_) (fun hc111 => ?_)
    · replace h := it_t hc111 h
      refine j_iconst 109 C dX5_hashOfNode_108 ic_0 rfl ?_
      refine j_istore 111 C dX5_hashOfNode_109 (lo' := [(6, .int (0 : Int32)), (0, .ref (ga g 0)), (3, .int x3), (4, .long v4)]) (by decide) rfl rfl ?_
      refine j_sub [1, 2, 3, 0] (lo' := [(0, .ref (ga g 0)), (3, .int x3), (4, .long v4), (6, .int (0 : Int32))]) rfl ?_
      exact wn_X5_hashOfNode_111 C K M  4096 lay σ v4 (0 : Int32) h
    · replace h := it_f hc111 h
      refine j_iconst 69 C dX5_hashOfNode_68 ic_0 rfl ?_
      refine j_istore 71 C dX5_hashOfNode_69 (lo' := [(7, .int (0 : Int32)), (0, .ref (ga g 0)), (3, .int x3), (4, .long v4), (6, .int v6)]) (by decide) rfl rfl ?_
      refine j_sub [1, 2, 3, 4, 0] (lo' := [(0, .ref (ga g 0)), (3, .int x3), (4, .long v4), (6, .int v6), (7, .int (0 : Int32))]) rfl ?_
      exact wn_X5_hashOfNode_71 C K M ih59 4096 lay σ v4 v6 (0 : Int32) h
set_option maxHeartbeats 4000000 in
set_option maxRecDepth 100000 in
theorem wn_X5_hashOfNode_6 {l : Launch} {p : Program} {e : Env} {s : State} {m : MethodId} {args : Array Value} {below : List Frame} {meth : Method} {c : Code} {g : GG} {A : Nat → Prop} (C : KX p m c cX5_hashOfNode 8 s args RX5) (K : KC l g A s) (M : KM meth (some .long)) {σ' : CS} {r : Int64} {y1 : Int64} {x3 : Int32}     : ∀ (fu : Nat) (lay : Nat → Nat) (σ : CS) (v4 : Int64) (v6 : Int32), B_X5_hashOfNode_6 y1 x3 fu σ v4 v6 = some (σ', .inl r) → JJ p l e (rmk 8 135 0 0) s m args below meth c (MQ below (va_Ql (fun (r0 : Int64) (u : CS) => r0 = r ∧ u = σ') (BC (CH g A)) A) args s 0 0 A) A 8 (CH g A lay σ) 0 0 6 [(0, .ref (ga g 0)), (3, .int x3), (4, .long v4), (6, .int v6)] [] := by
  intro fu
  induction fu with
  | zero =>
    intro lay σ v4 v6 h
    exact nomatch (show (none : Option _) = some _ from h)
  | succ fu ih6 =>
    intro lay σ v4 v6 h
    unfold B_X5_hashOfNode_6 at h
    rw [lo3_s] at h
    refine j_iload 8 C dX5_hashOfNode_6 3 rfl rfl ?_
    refine j_bipush 10 C dX5_hashOfNode_8 bp_9 rfl ?_
    refine j_icmp_ge 13 36 C dX5_hashOfNode_10 (by decide) rfl (fun hc101 => ?_) (fun hc101 => ?_)
    · replace h := it_t hc101 h
      refine j_ldc2 39 C dX5_hashOfNode_36 mw_407 rfl ?_
      refine j_lload 41 C dX5_hashOfNode_39 2 rfl rfl ?_
      refine j_lmul 42 C dX5_hashOfNode_41 rfl ?_
      refine j_aload_n 43 C dX5_hashOfNode_42 0 rfl rfl ?_
      refine j_aload_n 44 C dX5_hashOfNode_43 0 rfl rfl ?_
      refine g_F 47 C K 0 (by decide) mw_280 rfl dX5_hashOfNode_44 rfl ?_
      refine j_iload_n 48 C dX5_hashOfNode_47 1 rfl rfl ?_
      obtain ⟨hz102, h⟩ := gd_e h
      have hb103 : tn x3 < 7 := inb_lt hz102
      refine r_nodes 49 C K hz102 dX5_hashOfNode_48 rfl ?_
      obtain ⟨σ104, r105, hF, h⟩ := bd_e h
      refine k_Vi 52 C K (c_X5_mostHarmlessLosses K.2.2.2 g A lay hb103 hF) cp_X5_mostHarmlessLosses (rv_F) mw_543 dX5_hashOfNode_49 rfl rfl (Nat.le_of_ble_eq_true rfl) ⟨Nat.le_of_ble_eq_true rfl, Nat.le_of_ble_eq_true rfl⟩ ⟨Nat.le_of_ble_eq_true rfl, Nat.le_of_ble_eq_true rfl⟩ rfl (fun lay => ?_)
      refine j_i2l 53 C dX5_hashOfNode_52 rfl ?_
      refine j_ladd 54 C dX5_hashOfNode_53 rfl ?_
      refine j_topl (fun y106 ey106 => ?_)
      replace h := lt_e h y106 ey106
      refine j_lstore 56 C dX5_hashOfNode_54 (lo' := [(4, .long y106), (0, .ref (ga g 0)), (3, .int x3), (6, .int v6)]) (by decide) rfl rfl ?_
      refine j_iconst 57 C dX5_hashOfNode_56 ic_0 rfl ?_
      refine j_istore 59 C dX5_hashOfNode_57 (lo' := [(6, .int (0 : Int32)), (4, .long y106), (0, .ref (ga g 0)), (3, .int x3)]) (by decide) rfl rfl ?_
      refine j_sub [2, 3, 1, 0] (lo' := [(0, .ref (ga g 0)), (3, .int x3), (4, .long y106), (6, .int (0 : Int32))]) rfl ?_
      exact wn_X5_hashOfNode_59 C K M  4096 lay σ104 y106 (0 : Int32) h
    · replace h := it_f hc101 h
      refine j_ldc2 16 C dX5_hashOfNode_13 mw_407 rfl ?_
      refine j_lload 18 C dX5_hashOfNode_16 2 rfl rfl ?_
      refine j_lmul 19 C dX5_hashOfNode_18 rfl ?_
      refine j_aload_n 20 C dX5_hashOfNode_19 0 rfl rfl ?_
      refine j_iload_n 21 C dX5_hashOfNode_20 1 rfl rfl ?_
      refine j_iload 23 C dX5_hashOfNode_21 3 rfl rfl ?_
      rcases bx_e h with ⟨σ107, r108, hF, h⟩ | ⟨σ107, ex1, hF, h⟩
      · refine k_Vi 26 C K (c_X5_node K.2.2.2 g A lay  hF) cp_X5_node (rv_F) mw_504 dX5_hashOfNode_23 rfl rfl (Nat.le_of_ble_eq_true rfl) ⟨Nat.le_of_ble_eq_true rfl, Nat.le_of_ble_eq_true rfl⟩ ⟨Nat.le_of_ble_eq_true rfl, Nat.le_of_ble_eq_true rfl⟩ rfl (fun lay => ?_)
        refine j_i2l 27 C dX5_hashOfNode_26 rfl ?_
        refine j_ladd 28 C dX5_hashOfNode_27 rfl ?_
        refine j_topl (fun y109 ey109 => ?_)
        replace h := lt_e h y109 ey109
        refine j_lstore 30 C dX5_hashOfNode_28 (lo' := [(4, .long y109), (0, .ref (ga g 0)), (3, .int x3), (6, .int v6)]) (by decide) rfl rfl ?_
        obtain ⟨x110, ex110⟩ : ∃ z : Int32, z = v6 + 1 := ⟨_, rfl⟩
        replace h := lt_e h x110 ex110
        refine j_iinc 33 C dX5_hashOfNode_30 3 rfl (v := x110) ((ii_1 _).trans ex110.symm) (lo' := [(6, .int x110), (4, .long y109), (0, .ref (ga g 0)), (3, .int x3)]) (by decide) rfl rfl ?_
        refine j_goto 6 C dX5_hashOfNode_33 (by decide) ?_
        refine j_sub [2, 3, 1, 0] (lo' := [(0, .ref (ga g 0)), (3, .int x3), (4, .long y109), (6, .int x110)]) rfl ?_
        exact ih6 lay σ107 y109 x110 h
      · cases h
set_option maxHeartbeats 4000000 in
set_option maxRecDepth 100000 in
theorem c_X5_hashOfNode {l : Launch} (hst : l.stackTraces = false) (g : GG) (A : Nat → Prop) (lay : Nat → Nat) {σ : CS} {σ' : CS} {r : Int64} {y1 : Int64} {x3 : Int32}  (h : F_X5_hashOfNode σ y1 x3 = some (σ', .inl r)) : ML l yX5_hashOfNode cX5_hashOfNode 8 8 135 0 0 [.ref (ga g 0), .long y1, .int x3] (CH g A) g A lay σ σ' r := by
  unfold F_X5_hashOfNode at h
  refine e_l (own := RX5) (lo := [(0, .ref (ga g 0)), (1, .long y1), (3, .int x3)]) hst (plainFor_of_name (by decide)) rfl rfl (Nat.le_of_ble_eq_true rfl) ?_
  intro p e s m args below meth c C K M
  refine j_lload_n 1 C dX5_hashOfNode_0 1 rfl rfl ?_
  refine j_lstore 3 C dX5_hashOfNode_1 (lo' := [(4, .long y1), (0, .ref (ga g 0)), (1, .long y1), (3, .int x3)]) (by decide) rfl rfl ?_
  refine j_iconst 4 C dX5_hashOfNode_3 ic_0 rfl ?_
  refine j_istore 6 C dX5_hashOfNode_4 (lo' := [(6, .int (0 : Int32)), (4, .long y1), (0, .ref (ga g 0)), (1, .long y1), (3, .int x3)]) (by decide) rfl rfl ?_
  refine j_sub [2, 4, 1, 0] (lo' := [(0, .ref (ga g 0)), (3, .int x3), (4, .long y1), (6, .int (0 : Int32))]) rfl ?_
  exact wn_X5_hashOfNode_6 C K M  4096 lay σ y1 (0 : Int32) h
theorem cp_X5_bitsOfDouble : CPs yX5_bitsOfDouble cX5_bitsOfDouble 6 (some .long) 1 := ⟨mw_637, mw_98, mw_638, by decide, by decide, by decide +kernel⟩
set_option maxHeartbeats 4000000 in
set_option maxRecDepth 100000 in
theorem wn_X5_bitsOfDouble_43 {l : Launch} {p : Program} {e : Env} {s : State} {m : MethodId} {args : Array Value} {below : List Frame} {meth : Method} {c : Code} {g : GG} {A : Nat → Prop} (C : KX p m c cX5_bitsOfDouble 6 s args RX5) (K : KC l g A s) (M : KM meth (some .long)) {σ' : CS} {r : Int64} {d0 : UInt64}     (lay : Nat → Nat) (σ : CS) (v2 : UInt64) (v4 : Int64)  (h : B_X5_bitsOfDouble_43 d0 σ v2 v4 = some (σ', r)) : JJ p l e (rmk 0 0 0 0) s m args below meth c (MQ below (va_Ql (fun (r0 : Int64) (u : CS) => r0 = r ∧ u = σ') (BC (CH g A)) A) args s 0 0 A) A 6 (CH g A lay σ) 0 0 43 [(2, .double v2), (4, .long v4)] [] := by
  unfold B_X5_bitsOfDouble_43 at h
  refine j_lload 45 C dX5_bitsOfDouble_43 1 rfl rfl ?_
  refine j_bipush 47 C dX5_bitsOfDouble_45 bp_52 rfl ?_
  refine j_lshl 48 C dX5_bitsOfDouble_47 rfl ?_
  refine j_dload_n 49 C dX5_bitsOfDouble_48 0 rfl rfl ?_
  refine j_dconst1 50 C dX5_bitsOfDouble_49 rfl ?_
  obtain ⟨hz107, h⟩ := gd_e h
  refine j_dsub 51 C dX5_bitsOfDouble_50 (dok_n hz107) rfl ?_
  refine j_ldc2d 54 C dX5_bitsOfDouble_51 mw_641 rfl ?_
  obtain ⟨hz108, h⟩ := gd_e h
  refine j_dmul 55 C dX5_bitsOfDouble_54 (dok_n hz108) rfl ?_
  refine j_d2l 56 C dX5_bitsOfDouble_55 rfl ?_
  refine j_ladd 57 C dX5_bitsOfDouble_56 rfl ?_
  cases h
  exact x_l C M dX5_bitsOfDouble_57
set_option maxHeartbeats 4000000 in
set_option maxRecDepth 100000 in
theorem wn_X5_bitsOfDouble_15 {l : Launch} {p : Program} {e : Env} {s : State} {m : MethodId} {args : Array Value} {below : List Frame} {meth : Method} {c : Code} {g : GG} {A : Nat → Prop} (C : KX p m c cX5_bitsOfDouble 6 s args RX5) (K : KC l g A s) (M : KM meth (some .long)) {σ' : CS} {r : Int64} {d0 : UInt64}     : ∀ (fu : Nat) (lay : Nat → Nat) (σ : CS) (v2 : UInt64) (v4 : Int64), B_X5_bitsOfDouble_15 d0 fu σ v2 v4 = some (σ', r) → JJ p l e (rmk 0 0 0 0) s m args below meth c (MQ below (va_Ql (fun (r0 : Int64) (u : CS) => r0 = r ∧ u = σ') (BC (CH g A)) A) args s 0 0 A) A 6 (CH g A lay σ) 0 0 15 [(2, .double v2), (4, .long v4)] [] := by
  intro fu
  induction fu with
  | zero =>
    intro lay σ v2 v4 h
    exact nomatch (show (none : Option _) = some _ from h)
  | succ fu ih15 =>
    intro lay σ v2 v4 h
    unfold B_X5_bitsOfDouble_15 at h
    rw [lo3_s] at h
    refine j_dload_n 16 C dX5_bitsOfDouble_15 0 rfl rfl ?_
    refine j_dconst1 17 C dX5_bitsOfDouble_16 rfl ?_
    refine j_dcmp 18 C dX5_bitsOfDouble_17 rfl ?_
    refine j_if_ge 21 43 C dX5_bitsOfDouble_18 (by decide) rfl (fun hc102 => ?_) (fun hc102 => ?_)
    · replace h := it_t hc102 h
      exact wn_X5_bitsOfDouble_43 C K M  lay σ v2 v4 h
    · replace h := it_f hc102 h
      refine j_lload 23 C dX5_bitsOfDouble_21 1 rfl rfl ?_
      refine j_lconst 24 C dX5_bitsOfDouble_23 (v := 1) rfl rfl ?_
      refine j_lcmp 25 C dX5_bitsOfDouble_24 rfl ?_
      refine j_if_le 28 43 C dX5_bitsOfDouble_25 (by decide) rfl (fun hc103 => ?_) (fun hc103 => ?_)
      · replace h := it_t hc103 h
        exact wn_X5_bitsOfDouble_43 C K M  lay σ v2 v4 h
      · replace h := it_f hc103 h
        refine j_dload_n 29 C dX5_bitsOfDouble_28 0 rfl rfl ?_
        refine j_ldc2d 32 C dX5_bitsOfDouble_29 mw_640 rfl ?_
        obtain ⟨hz104, h⟩ := gd_e h
        refine j_dmul 33 C dX5_bitsOfDouble_32 (dok_n hz104) rfl ?_
        refine j_topd (fun d105 ed105 => ?_)
        replace h := lt_e h d105 ed105
        refine j_dstore_n 34 C dX5_bitsOfDouble_33 (lo' := [(2, .double d105), (4, .long v4)]) (by decide) rfl rfl ?_
        refine j_lload 36 C dX5_bitsOfDouble_34 1 rfl rfl ?_
        refine j_lconst 37 C dX5_bitsOfDouble_36 (v := 1) rfl rfl ?_
        refine j_lsub 38 C dX5_bitsOfDouble_37 rfl ?_
        refine j_topl (fun y106 ey106 => ?_)
        replace h := lt_e h y106 ey106
        refine j_lstore 40 C dX5_bitsOfDouble_38 (lo' := [(4, .long y106), (2, .double d105)]) (by decide) rfl rfl ?_
        refine j_goto 15 C dX5_bitsOfDouble_40 (by decide) ?_
        refine j_sub [1, 0] (lo' := [(2, .double d105), (4, .long y106)]) rfl ?_
        exact ih15 lay σ d105 y106 h
set_option maxHeartbeats 4000000 in
set_option maxRecDepth 100000 in
theorem c_X5_bitsOfDouble {l : Launch} (hst : l.stackTraces = false) (g : GG) (A : Nat → Prop) (lay : Nat → Nat) {σ : CS} {σ' : CS} {r : Int64} {d0 : UInt64}  (h : F_X5_bitsOfDouble σ d0 = some (σ', r)) : ML l yX5_bitsOfDouble cX5_bitsOfDouble 6 0 0 0 0 [.double d0] (CH g A) g A lay σ σ' r := by
  unfold F_X5_bitsOfDouble at h
  refine e_l (own := RX5) (lo := [(0, .double d0)]) hst (plainFor_of_name (by decide)) rfl rfl (Nat.le_of_ble_eq_true rfl) ?_
  intro p e s m args below meth c C K M
  refine j_dload_n 1 C dX5_bitsOfDouble_0 0 rfl rfl ?_
  refine j_dconst0 2 C dX5_bitsOfDouble_1 rfl ?_
  refine j_dcmp 3 C dX5_bitsOfDouble_2 rfl ?_
  refine j_if_gt 6 8 C dX5_bitsOfDouble_3 (by decide) rfl (fun hc101 => ?_) (fun hc101 => ?_)
  · replace h := it_t hc101 h
    refine j_dload_n 9 C dX5_bitsOfDouble_8 0 rfl rfl ?_
    refine j_dstore_n 10 C dX5_bitsOfDouble_9 (lo' := [(2, .double d0), (0, .double d0)]) (by decide) rfl rfl ?_
    refine j_ldc2 13 C dX5_bitsOfDouble_10 mw_639 rfl ?_
    refine j_lstore 15 C dX5_bitsOfDouble_13 (lo' := [(4, .long (1023 : Int64)), (2, .double d0), (0, .double d0)]) (by decide) rfl rfl ?_
    refine j_sub [1, 0] (lo' := [(2, .double d0), (4, .long (1023 : Int64))]) rfl ?_
    exact wn_X5_bitsOfDouble_15 C K M  4096 lay σ d0 (1023 : Int64) h
  · replace h := it_f hc101 h
    refine j_lconst 7 C dX5_bitsOfDouble_6 (v := 0) rfl rfl ?_
    cases h
    exact x_l C M dX5_bitsOfDouble_7
theorem cp_X5_digest : CPv yX5_digest cX5_digest 5 (some .long) RX5 0 := ⟨mw_403, mw_404, mw_98, mw_405, rfl, by decide, by decide, by decide +kernel⟩
set_option maxHeartbeats 4000000 in
set_option maxRecDepth 100000 in
theorem wn_X5_digest_141 {l : Launch} {p : Program} {e : Env} {s : State} {m : MethodId} {args : Array Value} {below : List Frame} {meth : Method} {c : Code} {g : GG} {A : Nat → Prop} (C : KX p m c cX5_digest 5 s args RX5) (K : KC l g A s) (M : KM meth (some .long)) {σ' : CS} {r : Int64}      : ∀ (fu : Nat) (lay : Nat → Nat) (σ : CS) (v1 : Int64) (v3 : Int32), B_X5_digest_141  fu σ v1 v3 = some (σ', .inl r) → JJ p l e (rmk 9 162 0 0) s m args below meth c (MQ below (va_Ql (fun (r0 : Int64) (u : CS) => r0 = r ∧ u = σ') (BC (CH g A)) A) args s 0 0 A) A 5 (CH g A lay σ) 0 0 141 [(0, .ref (ga g 0)), (1, .long v1), (3, .int v3)] [] := by
  intro fu
  induction fu with
  | zero =>
    intro lay σ v1 v3 h
    exact nomatch (show (none : Option _) = some _ from h)
  | succ fu ih141 =>
    intro lay σ v1 v3 h
    unfold B_X5_digest_141 at h
    rw [lo3_s] at h
    refine j_iload_n 142 C dX5_digest_141 2 rfl rfl ?_
    refine j_aload_n 143 C dX5_digest_142 0 rfl rfl ?_
    refine g_F 146 C K 5 (by decide) mw_285 rfl dX5_digest_143 rfl ?_
    refine j_icmp_ge 149 169 C dX5_digest_146 (by decide) rfl (fun hc120 => ?_) (fun hc120 => ?_)
    · replace h := it_t hc120 h
      refine j_lload_n 170 C dX5_digest_169 1 rfl rfl ?_
      cases h
      exact x_l C M dX5_digest_170
    · replace h := it_f hc120 h
      refine j_ldc2 152 C dX5_digest_149 mw_407 rfl ?_
      refine j_lload_n 153 C dX5_digest_152 1 rfl rfl ?_
      refine j_lmul 154 C dX5_digest_153 rfl ?_
      refine j_aload_n 155 C dX5_digest_154 0 rfl rfl ?_
      refine g_F 158 C K 4 (by decide) mw_284 rfl dX5_digest_155 rfl ?_
      refine j_iload_n 159 C dX5_digest_158 2 rfl rfl ?_
      obtain ⟨hz121, h⟩ := gd_e h
      refine r_ild 160 C K (ar_I _ ) (ca_I _ _ ) hz121 dX5_digest_159 rfl ?_
      refine j_i2l 161 C dX5_digest_160 rfl ?_
      refine j_ladd 162 C dX5_digest_161 rfl ?_
      refine j_topl (fun y122 ey122 => ?_)
      replace h := lt_e h y122 ey122
      refine j_lstore_n 163 C dX5_digest_162 (lo' := [(1, .long y122), (0, .ref (ga g 0)), (3, .int v3)]) (by decide) rfl rfl ?_
      obtain ⟨x123, ex123⟩ : ∃ z : Int32, z = v3 + 1 := ⟨_, rfl⟩
      replace h := lt_e h x123 ex123
      refine j_iinc 166 C dX5_digest_163 2 rfl (v := x123) ((ii_1 _).trans ex123.symm) (lo' := [(3, .int x123), (1, .long y122), (0, .ref (ga g 0))]) (by decide) rfl rfl ?_
      refine j_goto 141 C dX5_digest_166 (by decide) ?_
      refine j_sub [2, 1, 0] (lo' := [(0, .ref (ga g 0)), (1, .long y122), (3, .int x123)]) rfl ?_
      exact ih141 lay σ y122 x123 h
set_option maxHeartbeats 4000000 in
set_option maxRecDepth 100000 in
theorem wn_X5_digest_67 {l : Launch} {p : Program} {e : Env} {s : State} {m : MethodId} {args : Array Value} {below : List Frame} {meth : Method} {c : Code} {g : GG} {A : Nat → Prop} (C : KX p m c cX5_digest 5 s args RX5) (K : KC l g A s) (M : KM meth (some .long)) {σ' : CS} {r : Int64}    {self56 : CS → Int64 → Int32 → Option (CS × (Int64 ⊕ Nat))} (ih56 : ∀ (lay : Nat → Nat) (σ : CS) (v1 : Int64) (v3 : Int32), self56 σ v1 v3 = some (σ', .inl r) → JJ p l e (rmk 9 162 0 0) s m args below meth c (MQ below (va_Ql (fun (r0 : Int64) (u : CS) => r0 = r ∧ u = σ') (BC (CH g A)) A) args s 0 0 A) A 5 (CH g A lay σ) 0 0 56 [(0, .ref (ga g 0)), (1, .long v1), (3, .int v3)] []) : ∀ (fu : Nat) (lay : Nat → Nat) (σ : CS) (v1 : Int64) (v3 : Int32) (v4 : Int32), B_X5_digest_67 self56 fu σ v1 v3 v4 = some (σ', .inl r) → JJ p l e (rmk 9 162 0 0) s m args below meth c (MQ below (va_Ql (fun (r0 : Int64) (u : CS) => r0 = r ∧ u = σ') (BC (CH g A)) A) args s 0 0 A) A 5 (CH g A lay σ) 0 0 67 [(0, .ref (ga g 0)), (1, .long v1), (3, .int v3), (4, .int v4)] [] := by
  intro fu
  induction fu with
  | zero =>
    intro lay σ v1 v3 v4 h
    exact nomatch (show (none : Option _) = some _ from h)
  | succ fu ih67 =>
    intro lay σ v1 v3 v4 h
    unfold B_X5_digest_67 at h
    rw [lo4_s] at h
    refine j_iload 69 C dX5_digest_67 3 rfl rfl ?_
    refine j_bipush 71 C dX5_digest_69 bp_7 rfl ?_
    refine j_icmp_ge 74 95 C dX5_digest_71 (by decide) rfl (fun hc124 => ?_) (fun hc124 => ?_)
    · replace h := it_t hc124 h
      obtain ⟨x125, ex125⟩ : ∃ z : Int32, z = v3 + 1 := ⟨_, rfl⟩
      replace h := lt_e h x125 ex125
      refine j_iinc 98 C dX5_digest_95 2 rfl (v := x125) ((ii_1 _).trans ex125.symm) (lo' := [(3, .int x125), (0, .ref (ga g 0)), (1, .long v1), (4, .int v4)]) (by decide) rfl rfl ?_
      refine j_goto 56 C dX5_digest_98 (by decide) ?_
      refine j_sub [1, 2, 0] (lo' := [(0, .ref (ga g 0)), (1, .long v1), (3, .int x125)]) rfl ?_
      exact ih56 lay σ v1 x125 h
    · replace h := it_f hc124 h
      refine j_ldc2 77 C dX5_digest_74 mw_407 rfl ?_
      refine j_lload_n 78 C dX5_digest_77 1 rfl rfl ?_
      refine j_lmul 79 C dX5_digest_78 rfl ?_
      refine j_aload_n 80 C dX5_digest_79 0 rfl rfl ?_
      refine j_iload_n 81 C dX5_digest_80 2 rfl rfl ?_
      refine j_iload 83 C dX5_digest_81 3 rfl rfl ?_
      rcases bx_e h with ⟨σ126, r127, hF, h⟩ | ⟨σ126, ex1, hF, h⟩
      · refine k_Vi 86 C K (c_X5_slot K.2.2.2 g A lay  hF) cp_X5_slot (rv_F) mw_625 dX5_digest_83 rfl rfl (Nat.le_of_ble_eq_true rfl) ⟨Nat.le_of_ble_eq_true rfl, Nat.le_of_ble_eq_true rfl⟩ ⟨Nat.le_of_ble_eq_true rfl, Nat.le_of_ble_eq_true rfl⟩ rfl (fun lay => ?_)
        refine j_i2l 87 C dX5_digest_86 rfl ?_
        refine j_ladd 88 C dX5_digest_87 rfl ?_
        refine j_topl (fun y128 ey128 => ?_)
        replace h := lt_e h y128 ey128
        refine j_lstore_n 89 C dX5_digest_88 (lo' := [(1, .long y128), (0, .ref (ga g 0)), (3, .int v3), (4, .int v4)]) (by decide) rfl rfl ?_
        obtain ⟨x129, ex129⟩ : ∃ z : Int32, z = v4 + 1 := ⟨_, rfl⟩
        replace h := lt_e h x129 ex129
        refine j_iinc 92 C dX5_digest_89 3 rfl (v := x129) ((ii_1 _).trans ex129.symm) (lo' := [(4, .int x129), (1, .long y128), (0, .ref (ga g 0)), (3, .int v3)]) (by decide) rfl rfl ?_
        refine j_goto 67 C dX5_digest_92 (by decide) ?_
        refine j_sub [2, 1, 3, 0] (lo' := [(0, .ref (ga g 0)), (1, .long y128), (3, .int v3), (4, .int x129)]) rfl ?_
        exact ih67 lay σ126 y128 v3 x129 h
      · cases h
set_option maxHeartbeats 4000000 in
set_option maxRecDepth 100000 in
theorem wn_X5_digest_56 {l : Launch} {p : Program} {e : Env} {s : State} {m : MethodId} {args : Array Value} {below : List Frame} {meth : Method} {c : Code} {g : GG} {A : Nat → Prop} (C : KX p m c cX5_digest 5 s args RX5) (K : KC l g A s) (M : KM meth (some .long)) {σ' : CS} {r : Int64}      : ∀ (fu : Nat) (lay : Nat → Nat) (σ : CS) (v1 : Int64) (v3 : Int32), B_X5_digest_56  fu σ v1 v3 = some (σ', .inl r) → JJ p l e (rmk 9 162 0 0) s m args below meth c (MQ below (va_Ql (fun (r0 : Int64) (u : CS) => r0 = r ∧ u = σ') (BC (CH g A)) A) args s 0 0 A) A 5 (CH g A lay σ) 0 0 56 [(0, .ref (ga g 0)), (1, .long v1), (3, .int v3)] [] := by
  intro fu
  induction fu with
  | zero =>
    intro lay σ v1 v3 h
    exact nomatch (show (none : Option _) = some _ from h)
  | succ fu ih56 =>
    intro lay σ v1 v3 h
    unfold B_X5_digest_56 at h
    rw [lo3_s] at h
    refine j_iload_n 57 C dX5_digest_56 2 rfl rfl ?_
    refine j_aload_n 58 C dX5_digest_57 0 rfl rfl ?_
    refine g_F 61 C K 7 (by decide) mw_287 rfl dX5_digest_58 rfl ?_
    refine j_icmp_ge 64 101 C dX5_digest_61 (by decide) rfl (fun hc110 => ?_) (fun hc110 => ?_)
    · replace h := it_t hc110 h
      refine j_ldc2 104 C dX5_digest_101 mw_407 rfl ?_
      refine j_lload_n 105 C dX5_digest_104 1 rfl rfl ?_
      refine j_lmul 106 C dX5_digest_105 rfl ?_
      refine j_aload_n 107 C dX5_digest_106 0 rfl rfl ?_
      obtain ⟨σ111, r112, hF, h⟩ := bd_e h
      refine k_Vi 110 C K (c_X5_answered K.2.2.2 g A lay  hF) cp_X5_answered (rv_F) mw_634 dX5_digest_107 rfl rfl (Nat.le_of_ble_eq_true rfl) ⟨Nat.le_of_ble_eq_true rfl, Nat.le_of_ble_eq_true rfl⟩ ⟨Nat.le_of_ble_eq_true rfl, Nat.le_of_ble_eq_true rfl⟩ rfl (fun lay => ?_)
      refine j_i2l 111 C dX5_digest_110 rfl ?_
      refine j_ladd 112 C dX5_digest_111 rfl ?_
      refine j_topl (fun y113 ey113 => ?_)
      replace h := lt_e h y113 ey113
      refine j_lstore_n 113 C dX5_digest_112 (lo' := [(1, .long y113), (0, .ref (ga g 0)), (3, .int v3)]) (by decide) rfl rfl ?_
      refine j_ldc2 116 C dX5_digest_113 mw_407 rfl ?_
      refine j_lload_n 117 C dX5_digest_116 0 rfl rfl ?_
      refine j_lmul 118 C dX5_digest_117 rfl ?_
      refine j_aload_n 119 C dX5_digest_118 1 rfl rfl ?_
      obtain ⟨σ114, r115, hF, h⟩ := bd_e h
      refine k_Vd 122 C K (c_X5_onDisks K.2.2.2 g A lay  hF) cp_X5_onDisks (rv_F) mw_635 dX5_digest_119 rfl rfl (Nat.le_of_ble_eq_true rfl) ⟨Nat.le_of_ble_eq_true rfl, Nat.le_of_ble_eq_true rfl⟩ ⟨Nat.le_of_ble_eq_true rfl, Nat.le_of_ble_eq_true rfl⟩ rfl (fun lay => ?_)
      obtain ⟨σ116, r117, hF, h⟩ := bd_e h
      refine k_Sl 125 C K (c_X5_bitsOfDouble K.2.2.2 g A lay  hF) cp_X5_bitsOfDouble mw_636 dX5_digest_122 rfl rfl (Nat.le_of_ble_eq_true rfl) ⟨Nat.le_of_ble_eq_true rfl, Nat.le_of_ble_eq_true rfl⟩ ⟨Nat.le_of_ble_eq_true rfl, Nat.le_of_ble_eq_true rfl⟩ rfl (fun lay => ?_)
      refine j_ladd 126 C dX5_digest_125 rfl ?_
      refine j_topl (fun y118 ey118 => ?_)
      replace h := lt_e h y118 ey118
      refine j_lstore_n 127 C dX5_digest_126 (lo' := [(1, .long y118), (0, .ref (ga g 0)), (3, .int v3)]) (by decide) rfl rfl ?_
      refine j_ldc2 130 C dX5_digest_127 mw_407 rfl ?_
      refine j_lload_n 131 C dX5_digest_130 0 rfl rfl ?_
      refine j_lmul 132 C dX5_digest_131 rfl ?_
      refine j_aload_n 133 C dX5_digest_132 1 rfl rfl ?_
      refine g_F 136 C K 5 (by decide) mw_285 rfl dX5_digest_133 rfl ?_
      refine j_i2l 137 C dX5_digest_136 rfl ?_
      refine j_ladd 138 C dX5_digest_137 rfl ?_
      refine j_topl (fun y119 ey119 => ?_)
      replace h := lt_e h y119 ey119
      refine j_lstore_n 139 C dX5_digest_138 (lo' := [(1, .long y119), (0, .ref (ga g 0)), (3, .int v3)]) (by decide) rfl rfl ?_
      refine j_iconst 140 C dX5_digest_139 ic_0 rfl ?_
      refine j_istore_n 141 C dX5_digest_140 (lo' := [(3, .int (0 : Int32)), (1, .long y119), (0, .ref (ga g 0))]) (by decide) rfl rfl ?_
      refine j_sub [2, 1, 0] (lo' := [(0, .ref (ga g 0)), (1, .long y119), (3, .int (0 : Int32))]) rfl ?_
      exact wn_X5_digest_141 C K M  4096 lay σ116 y119 (0 : Int32) h
    · replace h := it_f hc110 h
      refine j_iconst 65 C dX5_digest_64 ic_0 rfl ?_
      refine j_istore 67 C dX5_digest_65 (lo' := [(4, .int (0 : Int32)), (0, .ref (ga g 0)), (1, .long v1), (3, .int v3)]) (by decide) rfl rfl ?_
      refine j_sub [1, 2, 3, 0] (lo' := [(0, .ref (ga g 0)), (1, .long v1), (3, .int v3), (4, .int (0 : Int32))]) rfl ?_
      exact wn_X5_digest_67 C K M ih56 4096 lay σ v1 v3 (0 : Int32) h
set_option maxHeartbeats 4000000 in
set_option maxRecDepth 100000 in
theorem wn_X5_digest_33 {l : Launch} {p : Program} {e : Env} {s : State} {m : MethodId} {args : Array Value} {below : List Frame} {meth : Method} {c : Code} {g : GG} {A : Nat → Prop} (C : KX p m c cX5_digest 5 s args RX5) (K : KC l g A s) (M : KM meth (some .long)) {σ' : CS} {r : Int64}      : ∀ (fu : Nat) (lay : Nat → Nat) (σ : CS) (v1 : Int64) (v3 : Int32), B_X5_digest_33  fu σ v1 v3 = some (σ', .inl r) → JJ p l e (rmk 9 162 0 0) s m args below meth c (MQ below (va_Ql (fun (r0 : Int64) (u : CS) => r0 = r ∧ u = σ') (BC (CH g A)) A) args s 0 0 A) A 5 (CH g A lay σ) 0 0 33 [(0, .ref (ga g 0)), (1, .long v1), (3, .int v3)] [] := by
  intro fu
  induction fu with
  | zero =>
    intro lay σ v1 v3 h
    exact nomatch (show (none : Option _) = some _ from h)
  | succ fu ih33 =>
    intro lay σ v1 v3 h
    unfold B_X5_digest_33 at h
    rw [lo3_s] at h
    refine j_iload_n 34 C dX5_digest_33 2 rfl rfl ?_
    refine j_aload_n 35 C dX5_digest_34 0 rfl rfl ?_
    refine g_F 38 C K 6 (by decide) mw_286 rfl dX5_digest_35 rfl ?_
    refine j_icmp_ge 41 54 C dX5_digest_38 (by decide) rfl (fun hc106 => ?_) (fun hc106 => ?_)
    · replace h := it_t hc106 h
      refine j_iconst 55 C dX5_digest_54 ic_0 rfl ?_
      refine j_istore_n 56 C dX5_digest_55 (lo' := [(3, .int (0 : Int32)), (0, .ref (ga g 0)), (1, .long v1)]) (by decide) rfl rfl ?_
      refine j_sub [1, 2, 0] (lo' := [(0, .ref (ga g 0)), (1, .long v1), (3, .int (0 : Int32))]) rfl ?_
      exact wn_X5_digest_56 C K M  4096 lay σ v1 (0 : Int32) h
    · replace h := it_f hc106 h
      refine j_aload_n 42 C dX5_digest_41 0 rfl rfl ?_
      refine j_lload_n 43 C dX5_digest_42 1 rfl rfl ?_
      refine j_iload_n 44 C dX5_digest_43 2 rfl rfl ?_
      rcases bx_e h with ⟨σ107, r108, hF, h⟩ | ⟨σ107, ex1, hF, h⟩
      · refine k_Vl 47 C K (c_X5_hashOfNode K.2.2.2 g A lay  hF) cp_X5_hashOfNode (rv_F) mw_500 dX5_digest_44 rfl rfl (Nat.le_of_ble_eq_true rfl) ⟨Nat.le_of_ble_eq_true rfl, Nat.le_of_ble_eq_true rfl⟩ ⟨Nat.le_of_ble_eq_true rfl, Nat.le_of_ble_eq_true rfl⟩ rfl (fun lay => ?_)
        refine j_lstore_n 48 C dX5_digest_47 (lo' := [(1, .long r108), (0, .ref (ga g 0)), (3, .int v3)]) (by decide) rfl rfl ?_
        obtain ⟨x109, ex109⟩ : ∃ z : Int32, z = v3 + 1 := ⟨_, rfl⟩
        replace h := lt_e h x109 ex109
        refine j_iinc 51 C dX5_digest_48 2 rfl (v := x109) ((ii_1 _).trans ex109.symm) (lo' := [(3, .int x109), (1, .long r108), (0, .ref (ga g 0))]) (by decide) rfl rfl ?_
        refine j_goto 33 C dX5_digest_51 (by decide) ?_
        refine j_sub [2, 1, 0] (lo' := [(0, .ref (ga g 0)), (1, .long r108), (3, .int x109)]) rfl ?_
        exact ih33 lay σ107 r108 x109 h
      · cases h
set_option maxHeartbeats 4000000 in
set_option maxRecDepth 100000 in
theorem wn_X5_digest_6 {l : Launch} {p : Program} {e : Env} {s : State} {m : MethodId} {args : Array Value} {below : List Frame} {meth : Method} {c : Code} {g : GG} {A : Nat → Prop} (C : KX p m c cX5_digest 5 s args RX5) (K : KC l g A s) (M : KM meth (some .long)) {σ' : CS} {r : Int64}      : ∀ (fu : Nat) (lay : Nat → Nat) (σ : CS) (v1 : Int64) (v3 : Int32), B_X5_digest_6  fu σ v1 v3 = some (σ', .inl r) → JJ p l e (rmk 9 162 0 0) s m args below meth c (MQ below (va_Ql (fun (r0 : Int64) (u : CS) => r0 = r ∧ u = σ') (BC (CH g A)) A) args s 0 0 A) A 5 (CH g A lay σ) 0 0 6 [(0, .ref (ga g 0)), (1, .long v1), (3, .int v3)] [] := by
  intro fu
  induction fu with
  | zero =>
    intro lay σ v1 v3 h
    exact nomatch (show (none : Option _) = some _ from h)
  | succ fu ih6 =>
    intro lay σ v1 v3 h
    unfold B_X5_digest_6 at h
    rw [lo3_s] at h
    refine j_iload_n 7 C dX5_digest_6 2 rfl rfl ?_
    refine j_bipush 9 C dX5_digest_7 bp_12 rfl ?_
    refine j_icmp_ge 12 31 C dX5_digest_9 (by decide) rfl (fun hc101 => ?_) (fun hc101 => ?_)
    · replace h := it_t hc101 h
      refine j_iconst 32 C dX5_digest_31 ic_0 rfl ?_
      refine j_istore_n 33 C dX5_digest_32 (lo' := [(3, .int (0 : Int32)), (0, .ref (ga g 0)), (1, .long v1)]) (by decide) rfl rfl ?_
      refine j_sub [1, 2, 0] (lo' := [(0, .ref (ga g 0)), (1, .long v1), (3, .int (0 : Int32))]) rfl ?_
      exact wn_X5_digest_33 C K M  4096 lay σ v1 (0 : Int32) h
    · replace h := it_f hc101 h
      refine j_ldc2 15 C dX5_digest_12 mw_407 rfl ?_
      refine j_lload_n 16 C dX5_digest_15 1 rfl rfl ?_
      refine j_lmul 17 C dX5_digest_16 rfl ?_
      refine j_aload_n 18 C dX5_digest_17 0 rfl rfl ?_
      refine j_iload_n 19 C dX5_digest_18 2 rfl rfl ?_
      rcases bx_e h with ⟨σ102, r103, hF, h⟩ | ⟨σ102, ex1, hF, h⟩
      · refine k_Vi 22 C K (c_X5_count K.2.2.2 g A lay  hF) cp_X5_count (rv_F) mw_408 dX5_digest_19 rfl rfl (Nat.le_of_ble_eq_true rfl) ⟨Nat.le_of_ble_eq_true rfl, Nat.le_of_ble_eq_true rfl⟩ ⟨Nat.le_of_ble_eq_true rfl, Nat.le_of_ble_eq_true rfl⟩ rfl (fun lay => ?_)
        refine j_i2l 23 C dX5_digest_22 rfl ?_
        refine j_ladd 24 C dX5_digest_23 rfl ?_
        refine j_topl (fun y104 ey104 => ?_)
        replace h := lt_e h y104 ey104
        refine j_lstore_n 25 C dX5_digest_24 (lo' := [(1, .long y104), (0, .ref (ga g 0)), (3, .int v3)]) (by decide) rfl rfl ?_
        obtain ⟨x105, ex105⟩ : ∃ z : Int32, z = v3 + 1 := ⟨_, rfl⟩
        replace h := lt_e h x105 ex105
        refine j_iinc 28 C dX5_digest_25 2 rfl (v := x105) ((ii_1 _).trans ex105.symm) (lo' := [(3, .int x105), (1, .long y104), (0, .ref (ga g 0))]) (by decide) rfl rfl ?_
        refine j_goto 6 C dX5_digest_28 (by decide) ?_
        refine j_sub [2, 1, 0] (lo' := [(0, .ref (ga g 0)), (1, .long y104), (3, .int x105)]) rfl ?_
        exact ih6 lay σ102 y104 x105 h
      · cases h
set_option maxHeartbeats 4000000 in
set_option maxRecDepth 100000 in
theorem c_X5_digest {l : Launch} (hst : l.stackTraces = false) (g : GG) (A : Nat → Prop) (lay : Nat → Nat) {σ : CS} {σ' : CS} {r : Int64}   (h : F_X5_digest σ  = some (σ', .inl r)) : ML l yX5_digest cX5_digest 5 9 162 0 0 [.ref (ga g 0)] (CH g A) g A lay σ σ' r := by
  unfold F_X5_digest at h
  refine e_l (own := RX5) (lo := [(0, .ref (ga g 0))]) hst (plainFor_of_name (by decide)) rfl rfl (Nat.le_of_ble_eq_true rfl) ?_
  intro p e s m args below meth c C K M
  refine j_ldc2 3 C dX5_digest_0 mw_406 rfl ?_
  refine j_lstore_n 4 C dX5_digest_3 (lo' := [(1, .long (1997 : Int64)), (0, .ref (ga g 0))]) (by decide) rfl rfl ?_
  refine j_iconst 5 C dX5_digest_4 ic_0 rfl ?_
  refine j_istore_n 6 C dX5_digest_5 (lo' := [(3, .int (0 : Int32)), (1, .long (1997 : Int64)), (0, .ref (ga g 0))]) (by decide) rfl rfl ?_
  refine j_sub [2, 1, 0] (lo' := [(0, .ref (ga g 0)), (1, .long (1997 : Int64)), (3, .int (0 : Int32))]) rfl ?_
  exact wn_X5_digest_6 C K M  4096 lay σ (1997 : Int64) (0 : Int32) h
