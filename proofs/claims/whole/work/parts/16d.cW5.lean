theorem cp_X5_holds : CPv yX5_holds cX5_holds 3 (some .boolean) RX5 2 := ⟨mw_396, mw_8, mw_98, mw_397, rfl, by decide, by decide, by decide +kernel⟩
set_option maxHeartbeats 4000000 in
set_option maxRecDepth 100000 in
theorem c_X5_holds {l : Launch} (hst : l.stackTraces = false) (g : GG) (A : Nat → Prop) (lay : Nat → Nat) {σ : CS} {σ' : CS} {r : Int32} {o1 : Nat} {x2 : Int32} (ho1 : o1 < 15) (h : F_X5_holds σ o1 x2 = some (σ', r)) : MI l yX5_holds cX5_holds 3 .boolean 1 22 0 0 [.ref (ga g 0), .ref (ga g (26 + o1)), .int x2] (CH g A) g A lay σ σ' r := by
  unfold F_X5_holds at h
  refine e_i (own := RX5) (lo := [(0, .ref (ga g 0)), (1, .ref (ga g (26 + o1))), (2, .int x2)]) hst (plainFor_of_name (by decide)) rfl rfl (Nat.le_of_ble_eq_true rfl) ?_
  intro p e s m args below meth c C K M
  refine j_aload_n 1 C dX5_holds_0 0 rfl rfl ?_
  refine g_F 4 C K 1 (by decide) mw_281 rfl dX5_holds_1 rfl ?_
  refine j_iload_n 5 C dX5_holds_4 2 rfl rfl ?_
  obtain ⟨hz101, h⟩ := gd_e h
  have hb102 : tn x2 < 4 := inb_lt hz101
  refine r_decs 6 C K hz101 dX5_holds_5 rfl ?_
  refine j_aload_n 7 C dX5_holds_6 1 rfl rfl ?_
  refine g_D 10 C K ho1 1 (by decide) mw_142 rfl dX5_holds_7 rfl ?_
  refine j_iload_n 11 C dX5_holds_10 2 rfl rfl ?_
  obtain ⟨hz103, h⟩ := gd_e h
  refine r_ild 12 C K (ar_B _ ho1) (ca_B _ _ ho1) hz103 dX5_holds_11 rfl ?_
  refine j_aload_n 13 C dX5_holds_12 1 rfl rfl ?_
  refine g_D 16 C K ho1 2 (by decide) mw_144 rfl dX5_holds_13 rfl ?_
  refine j_iload_n 17 C dX5_holds_16 2 rfl rfl ?_
  obtain ⟨hz104, h⟩ := gd_e h
  refine r_ild 18 C K (ar_U _ ho1) (ca_U _ _ ho1) hz104 dX5_holds_17 rfl ?_
  obtain ⟨σ105, r106, hF, h⟩ := bd_e h
  refine k_Vi 21 C K (c_X0_isHeldBy K.2.2.2 g A lay hb102 hF) cp_X0_isHeldBy (rv_C hb102) mw_398 dX5_holds_18 rfl rfl (Nat.le_of_ble_eq_true rfl) ⟨Nat.le_of_ble_eq_true rfl, Nat.le_of_ble_eq_true rfl⟩ ⟨Nat.le_of_ble_eq_true rfl, Nat.le_of_ble_eq_true rfl⟩ rfl (fun lay => ?_)
  obtain ⟨hz107, h⟩ := gd_e h
  cases h
  exact x_z C M dX5_holds_21 hz107
theorem cp_X5_holders : CPv yX5_holders cX5_holders 4 (some .int) RX5 1 := ⟨mw_553, mw_20, mw_98, mw_554, rfl, by decide, by decide, by decide +kernel⟩
set_option maxHeartbeats 4000000 in
set_option maxRecDepth 100000 in
theorem wn_X5_holders_4 {l : Launch} {p : Program} {e : Env} {s : State} {m : MethodId} {args : Array Value} {below : List Frame} {meth : Method} {c : Code} {g : GG} {A : Nat → Prop} (C : KX p m c cX5_holders 4 s args RX5) (K : KC l g A s) (M : KM meth (some .int)) {σ' : CS} {r : Int32} {x1 : Int32}     : ∀ (fu : Nat) (lay : Nat → Nat) (σ : CS) (v2 : Int32) (v3 : Int32), B_X5_holders_4 x1 fu σ v2 v3 = some (σ', r) → JJ p l e (rmk 2 44 0 0) s m args below meth c (MQ below (va_Qi (fun (r0 : Int32) (u : CS) => r0 = r ∧ u = σ') (BC (CH g A)) A) args s 0 0 A) A 4 (CH g A lay σ) 0 0 4 [(0, .ref (ga g 0)), (1, .int x1), (2, .int v2), (3, .int v3)] [] := by
  intro fu
  induction fu with
  | zero =>
    intro lay σ v2 v3 h
    exact nomatch (show (none : Option _) = some _ from h)
  | succ fu ih4 =>
    intro lay σ v2 v3 h
    unfold B_X5_holders_4 at h
    rw [lo3_s] at h
    refine j_iload_n 5 C dX5_holders_4 3 rfl rfl ?_
    refine j_aload_n 6 C dX5_holders_5 0 rfl rfl ?_
    refine g_F 9 C K 6 (by decide) mw_286 rfl dX5_holders_6 rfl ?_
    refine j_icmp_ge 12 38 C dX5_holders_9 (by decide) rfl (fun hc101 => ?_) (fun hc101 => ?_)
    · replace h := it_t hc101 h
      refine j_iload_n 39 C dX5_holders_38 2 rfl rfl ?_
      cases h
      exact x_i C M dX5_holders_39
    · replace h := it_f hc101 h
      refine j_iload_n 13 C dX5_holders_12 2 rfl rfl ?_
      refine j_aload_n 14 C dX5_holders_13 0 rfl rfl ?_
      refine j_aload_n 15 C dX5_holders_14 0 rfl rfl ?_
      refine g_F 18 C K 0 (by decide) mw_280 rfl dX5_holders_15 rfl ?_
      refine j_iload_n 19 C dX5_holders_18 3 rfl rfl ?_
      obtain ⟨hz102, h⟩ := gd_e h
      have hb103 : tn v3 < 7 := inb_lt hz102
      refine r_nodes 20 C K hz102 dX5_holders_19 rfl ?_
      refine g_N 23 C K hb103 2 (by decide) mw_222 rfl dX5_holders_20 rfl ?_
      refine j_iload_n 24 C dX5_holders_23 1 rfl rfl ?_
      obtain ⟨σ104, r105, hF, h⟩ := bd_e h
      refine k_Vi 27 C K (c_X5_holds K.2.2.2 g A lay (by omega) hF) cp_X5_holds (rv_F) mw_394 dX5_holders_24 rfl rfl (Nat.le_of_ble_eq_true rfl) ⟨Nat.le_of_ble_eq_true rfl, Nat.le_of_ble_eq_true rfl⟩ ⟨Nat.le_of_ble_eq_true rfl, Nat.le_of_ble_eq_true rfl⟩ rfl (fun lay => ?_)
      obtain ⟨σ106, r107, hF, h⟩ := bd_e h
      refine k_Si 30 C K (c_X5_asNumber K.2.2.2 g A lay  hF) cp_X5_asNumber mw_321 dX5_holders_27 rfl rfl (Nat.le_of_ble_eq_true rfl) ⟨Nat.le_of_ble_eq_true rfl, Nat.le_of_ble_eq_true rfl⟩ ⟨Nat.le_of_ble_eq_true rfl, Nat.le_of_ble_eq_true rfl⟩ rfl (fun lay => ?_)
      refine j_iadd 31 C dX5_holders_30 rfl ?_
      refine j_topi (fun x108 ex108 => ?_)
      replace h := lt_e h x108 ex108
      refine j_istore_n 32 C dX5_holders_31 (lo' := [(2, .int x108), (0, .ref (ga g 0)), (1, .int x1), (3, .int v3)]) (by decide) rfl rfl ?_
      obtain ⟨x109, ex109⟩ : ∃ z : Int32, z = v3 + 1 := ⟨_, rfl⟩
      replace h := lt_e h x109 ex109
      refine j_iinc 35 C dX5_holders_32 3 rfl (v := x109) ((ii_1 _).trans ex109.symm) (lo' := [(3, .int x109), (2, .int x108), (0, .ref (ga g 0)), (1, .int x1)]) (by decide) rfl rfl ?_
      refine j_goto 4 C dX5_holders_35 (by decide) ?_
      refine j_sub [2, 3, 1, 0] (lo' := [(0, .ref (ga g 0)), (1, .int x1), (2, .int x108), (3, .int x109)]) rfl ?_
      exact ih4 lay σ106 x108 x109 h
set_option maxHeartbeats 4000000 in
set_option maxRecDepth 100000 in
theorem c_X5_holders {l : Launch} (hst : l.stackTraces = false) (g : GG) (A : Nat → Prop) (lay : Nat → Nat) {σ : CS} {σ' : CS} {r : Int32} {x1 : Int32}  (h : F_X5_holders σ x1 = some (σ', r)) : MI l yX5_holders cX5_holders 4 .int 2 44 0 0 [.ref (ga g 0), .int x1] (CH g A) g A lay σ σ' r := by
  unfold F_X5_holders at h
  refine e_i (own := RX5) (lo := [(0, .ref (ga g 0)), (1, .int x1)]) hst (plainFor_of_name (by decide)) rfl rfl (Nat.le_of_ble_eq_true rfl) ?_
  intro p e s m args below meth c C K M
  refine j_iconst 1 C dX5_holders_0 ic_0 rfl ?_
  refine j_istore_n 2 C dX5_holders_1 (lo' := [(2, .int (0 : Int32)), (0, .ref (ga g 0)), (1, .int x1)]) (by decide) rfl rfl ?_
  refine j_iconst 3 C dX5_holders_2 ic_0 rfl ?_
  refine j_istore_n 4 C dX5_holders_3 (lo' := [(3, .int (0 : Int32)), (2, .int (0 : Int32)), (0, .ref (ga g 0)), (1, .int x1)]) (by decide) rfl rfl ?_
  refine j_sub [2, 3, 1, 0] (lo' := [(0, .ref (ga g 0)), (1, .int x1), (2, .int (0 : Int32)), (3, .int (0 : Int32))]) rfl ?_
  exact wn_X5_holders_4 C K M  4096 lay σ (0 : Int32) (0 : Int32) h
theorem cp_X5_diskHolders : CPv yX5_diskHolders cX5_diskHolders 4 (some .int) RX5 1 := ⟨mw_392, mw_7, mw_98, mw_393, rfl, by decide, by decide, by decide +kernel⟩
set_option maxHeartbeats 4000000 in
set_option maxRecDepth 100000 in
theorem wn_X5_diskHolders_4 {l : Launch} {p : Program} {e : Env} {s : State} {m : MethodId} {args : Array Value} {below : List Frame} {meth : Method} {c : Code} {g : GG} {A : Nat → Prop} (C : KX p m c cX5_diskHolders 4 s args RX5) (K : KC l g A s) (M : KM meth (some .int)) {σ' : CS} {r : Int32} {x1 : Int32}     : ∀ (fu : Nat) (lay : Nat → Nat) (σ : CS) (v2 : Int32) (v3 : Int32), B_X5_diskHolders_4 x1 fu σ v2 v3 = some (σ', r) → JJ p l e (rmk 2 44 0 0) s m args below meth c (MQ below (va_Qi (fun (r0 : Int32) (u : CS) => r0 = r ∧ u = σ') (BC (CH g A)) A) args s 0 0 A) A 4 (CH g A lay σ) 0 0 4 [(0, .ref (ga g 0)), (1, .int x1), (2, .int v2), (3, .int v3)] [] := by
  intro fu
  induction fu with
  | zero =>
    intro lay σ v2 v3 h
    exact nomatch (show (none : Option _) = some _ from h)
  | succ fu ih4 =>
    intro lay σ v2 v3 h
    unfold B_X5_diskHolders_4 at h
    rw [lo3_s] at h
    refine j_iload_n 5 C dX5_diskHolders_4 3 rfl rfl ?_
    refine j_aload_n 6 C dX5_diskHolders_5 0 rfl rfl ?_
    refine g_F 9 C K 6 (by decide) mw_286 rfl dX5_diskHolders_6 rfl ?_
    refine j_icmp_ge 12 38 C dX5_diskHolders_9 (by decide) rfl (fun hc101 => ?_) (fun hc101 => ?_)
    · replace h := it_t hc101 h
      refine j_iload_n 39 C dX5_diskHolders_38 2 rfl rfl ?_
      cases h
      exact x_i C M dX5_diskHolders_39
    · replace h := it_f hc101 h
      refine j_iload_n 13 C dX5_diskHolders_12 2 rfl rfl ?_
      refine j_aload_n 14 C dX5_diskHolders_13 0 rfl rfl ?_
      refine j_aload_n 15 C dX5_diskHolders_14 0 rfl rfl ?_
      refine g_F 18 C K 0 (by decide) mw_280 rfl dX5_diskHolders_15 rfl ?_
      refine j_iload_n 19 C dX5_diskHolders_18 3 rfl rfl ?_
      obtain ⟨hz102, h⟩ := gd_e h
      have hb103 : tn v3 < 7 := inb_lt hz102
      refine r_nodes 20 C K hz102 dX5_diskHolders_19 rfl ?_
      refine g_N 23 C K hb103 1 (by decide) mw_220 rfl dX5_diskHolders_20 rfl ?_
      refine j_iload_n 24 C dX5_diskHolders_23 1 rfl rfl ?_
      obtain ⟨σ104, r105, hF, h⟩ := bd_e h
      refine k_Vi 27 C K (c_X5_holds K.2.2.2 g A lay (by omega) hF) cp_X5_holds (rv_F) mw_394 dX5_diskHolders_24 rfl rfl (Nat.le_of_ble_eq_true rfl) ⟨Nat.le_of_ble_eq_true rfl, Nat.le_of_ble_eq_true rfl⟩ ⟨Nat.le_of_ble_eq_true rfl, Nat.le_of_ble_eq_true rfl⟩ rfl (fun lay => ?_)
      obtain ⟨σ106, r107, hF, h⟩ := bd_e h
      refine k_Si 30 C K (c_X5_asNumber K.2.2.2 g A lay  hF) cp_X5_asNumber mw_321 dX5_diskHolders_27 rfl rfl (Nat.le_of_ble_eq_true rfl) ⟨Nat.le_of_ble_eq_true rfl, Nat.le_of_ble_eq_true rfl⟩ ⟨Nat.le_of_ble_eq_true rfl, Nat.le_of_ble_eq_true rfl⟩ rfl (fun lay => ?_)
      refine j_iadd 31 C dX5_diskHolders_30 rfl ?_
      refine j_topi (fun x108 ex108 => ?_)
      replace h := lt_e h x108 ex108
      refine j_istore_n 32 C dX5_diskHolders_31 (lo' := [(2, .int x108), (0, .ref (ga g 0)), (1, .int x1), (3, .int v3)]) (by decide) rfl rfl ?_
      obtain ⟨x109, ex109⟩ : ∃ z : Int32, z = v3 + 1 := ⟨_, rfl⟩
      replace h := lt_e h x109 ex109
      refine j_iinc 35 C dX5_diskHolders_32 3 rfl (v := x109) ((ii_1 _).trans ex109.symm) (lo' := [(3, .int x109), (2, .int x108), (0, .ref (ga g 0)), (1, .int x1)]) (by decide) rfl rfl ?_
      refine j_goto 4 C dX5_diskHolders_35 (by decide) ?_
      refine j_sub [2, 3, 1, 0] (lo' := [(0, .ref (ga g 0)), (1, .int x1), (2, .int x108), (3, .int x109)]) rfl ?_
      exact ih4 lay σ106 x108 x109 h
set_option maxHeartbeats 4000000 in
set_option maxRecDepth 100000 in
theorem c_X5_diskHolders {l : Launch} (hst : l.stackTraces = false) (g : GG) (A : Nat → Prop) (lay : Nat → Nat) {σ : CS} {σ' : CS} {r : Int32} {x1 : Int32}  (h : F_X5_diskHolders σ x1 = some (σ', r)) : MI l yX5_diskHolders cX5_diskHolders 4 .int 2 44 0 0 [.ref (ga g 0), .int x1] (CH g A) g A lay σ σ' r := by
  unfold F_X5_diskHolders at h
  refine e_i (own := RX5) (lo := [(0, .ref (ga g 0)), (1, .int x1)]) hst (plainFor_of_name (by decide)) rfl rfl (Nat.le_of_ble_eq_true rfl) ?_
  intro p e s m args below meth c C K M
  refine j_iconst 1 C dX5_diskHolders_0 ic_0 rfl ?_
  refine j_istore_n 2 C dX5_diskHolders_1 (lo' := [(2, .int (0 : Int32)), (0, .ref (ga g 0)), (1, .int x1)]) (by decide) rfl rfl ?_
  refine j_iconst 3 C dX5_diskHolders_2 ic_0 rfl ?_
  refine j_istore_n 4 C dX5_diskHolders_3 (lo' := [(3, .int (0 : Int32)), (2, .int (0 : Int32)), (0, .ref (ga g 0)), (1, .int x1)]) (by decide) rfl rfl ?_
  refine j_sub [2, 3, 1, 0] (lo' := [(0, .ref (ga g 0)), (1, .int x1), (2, .int (0 : Int32)), (3, .int (0 : Int32))]) rfl ?_
  exact wn_X5_diskHolders_4 C K M  4096 lay σ (0 : Int32) (0 : Int32) h
theorem cp_X5_areEnough : CPv yX5_areEnough cX5_areEnough 2 (some .boolean) RX5 1 := ⟨mw_557, mw_21, mw_98, mw_558, rfl, by decide, by decide, by decide +kernel⟩
set_option maxHeartbeats 4000000 in
set_option maxRecDepth 100000 in
theorem c_X5_areEnough {l : Launch} (hst : l.stackTraces = false) (g : GG) (A : Nat → Prop) (lay : Nat → Nat) {σ : CS} {σ' : CS} {r : Int32} {x1 : Int32}  (h : F_X5_areEnough σ x1 = some (σ', r)) : MI l yX5_areEnough cX5_areEnough 2 .boolean 1 20 0 0 [.ref (ga g 0), .int x1] (CH g A) g A lay σ σ' r := by
  unfold F_X5_areEnough at h
  refine e_i (own := RX5) (lo := [(0, .ref (ga g 0)), (1, .int x1)]) hst (plainFor_of_name (by decide)) rfl rfl (Nat.le_of_ble_eq_true rfl) ?_
  intro p e s m args below meth c C K M
  refine j_aload_n 1 C dX5_areEnough_0 0 rfl rfl ?_
  refine g_F 4 C K 6 (by decide) mw_286 rfl dX5_areEnough_1 rfl ?_
  refine j_iload_n 5 C dX5_areEnough_4 1 rfl rfl ?_
  refine j_isub 6 C dX5_areEnough_5 rfl ?_
  refine j_aload_n 7 C dX5_areEnough_6 0 rfl rfl ?_
  obtain ⟨σ101, r102, hF, h⟩ := bd_e h
  refine k_Vi 10 C K (c_X5_quorum K.2.2.2 g A lay  hF) cp_X5_quorum (rv_F) mw_412 dX5_areEnough_7 rfl rfl (Nat.le_of_ble_eq_true rfl) ⟨Nat.le_of_ble_eq_true rfl, Nat.le_of_ble_eq_true rfl⟩ ⟨Nat.le_of_ble_eq_true rfl, Nat.le_of_ble_eq_true rfl⟩ rfl (fun lay => ?_)
  refine j_icmp_ge 13 17 C dX5_areEnough_10 (by decide) rfl (fun hc103 => ?_) (fun hc103 => ?_)
  · replace h := it_t hc103 h
    refine j_iconst 18 C dX5_areEnough_17 ic_0 rfl ?_
    cases h
    exact x_z C M dX5_areEnough_18 (by decide)
  · replace h := it_f hc103 h
    refine j_iconst 14 C dX5_areEnough_13 ic_1 rfl ?_
    refine j_goto 18 C dX5_areEnough_14 (by decide) ?_
    cases h
    exact x_z C M dX5_areEnough_18 (by decide)
theorem cp_X5_isProtectedNow : CPv yX5_isProtectedNow cX5_isProtectedNow 2 (some .boolean) RX5 1 := ⟨mw_631, mw_26, mw_98, mw_632, rfl, by decide, by decide, by decide +kernel⟩
set_option maxHeartbeats 4000000 in
set_option maxRecDepth 100000 in
theorem wn_X5_isProtectedNow_28 {l : Launch} {p : Program} {e : Env} {s : State} {m : MethodId} {args : Array Value} {below : List Frame} {meth : Method} {c : Code} {g : GG} {A : Nat → Prop} (C : KX p m c cX5_isProtectedNow 2 s args RX5) (K : KC l g A s) (M : KM meth (some .boolean)) {σ' : CS} {r : Int32} {x1 : Int32}     (lay : Nat → Nat) (σ : CS)   (h : B_X5_isProtectedNow_28 x1 σ  = some (σ', r)) : JJ p l e (rmk 3 67 0 0) s m args below meth c (MQ below (va_Qi (fun (r0 : Int32) (u : CS) => r0 = r ∧ u = σ') (BC (CH g A)) A) args s 0 0 A) A 2 (CH g A lay σ) 0 0 28 [] [] := by
  unfold B_X5_isProtectedNow_28 at h
  refine j_iconst 29 C dX5_isProtectedNow_28 ic_0 rfl ?_
  cases h
  exact x_z C M dX5_isProtectedNow_29 (by decide)
set_option maxHeartbeats 4000000 in
set_option maxRecDepth 100000 in
theorem c_X5_isProtectedNow {l : Launch} (hst : l.stackTraces = false) (g : GG) (A : Nat → Prop) (lay : Nat → Nat) {σ : CS} {σ' : CS} {r : Int32} {x1 : Int32}  (h : F_X5_isProtectedNow σ x1 = some (σ', r)) : MI l yX5_isProtectedNow cX5_isProtectedNow 2 .boolean 3 67 0 0 [.ref (ga g 0), .int x1] (CH g A) g A lay σ σ' r := by
  unfold F_X5_isProtectedNow at h
  refine e_i (own := RX5) (lo := [(0, .ref (ga g 0)), (1, .int x1)]) hst (plainFor_of_name (by decide)) rfl rfl (Nat.le_of_ble_eq_true rfl) ?_
  intro p e s m args below meth c C K M
  refine j_aload_n 1 C dX5_isProtectedNow_0 0 rfl rfl ?_
  refine g_F 4 C K 1 (by decide) mw_281 rfl dX5_isProtectedNow_1 rfl ?_
  refine j_iload_n 5 C dX5_isProtectedNow_4 1 rfl rfl ?_
  obtain ⟨hz101, h⟩ := gd_e h
  have hb102 : tn x1 < 4 := inb_lt hz101
  refine r_decs 6 C K hz101 dX5_isProtectedNow_5 rfl ?_
  obtain ⟨σ103, r104, hF, h⟩ := bd_e h
  refine k_Vi 9 C K (c_X0_isMade K.2.2.2 g A lay hb102 hF) cp_X0_isMade (rv_C hb102) mw_386 dX5_isProtectedNow_6 rfl rfl (Nat.le_of_ble_eq_true rfl) ⟨Nat.le_of_ble_eq_true rfl, Nat.le_of_ble_eq_true rfl⟩ ⟨Nat.le_of_ble_eq_true rfl, Nat.le_of_ble_eq_true rfl⟩ rfl (fun lay => ?_)
  refine j_if_eq 12 28 C dX5_isProtectedNow_9 (by decide) rfl (fun hc105 => ?_) (fun hc105 => ?_)
  · replace h := it_t hc105 h
    refine j_sub [] (lo' := []) rfl ?_
    exact wn_X5_isProtectedNow_28 C K M  lay σ103  h
  · replace h := it_f hc105 h
    refine j_aload_n 13 C dX5_isProtectedNow_12 0 rfl rfl ?_
    refine j_aload_n 14 C dX5_isProtectedNow_13 0 rfl rfl ?_
    refine j_iload_n 15 C dX5_isProtectedNow_14 1 rfl rfl ?_
    obtain ⟨σ106, r107, hF, h⟩ := bd_e h
    refine k_Vi 18 C K (c_X5_holders K.2.2.2 g A lay  hF) cp_X5_holders (rv_F) mw_551 dX5_isProtectedNow_15 rfl rfl (Nat.le_of_ble_eq_true rfl) ⟨Nat.le_of_ble_eq_true rfl, Nat.le_of_ble_eq_true rfl⟩ ⟨Nat.le_of_ble_eq_true rfl, Nat.le_of_ble_eq_true rfl⟩ rfl (fun lay => ?_)
    obtain ⟨σ108, r109, hF, h⟩ := bd_e h
    refine k_Vi 21 C K (c_X5_areEnough K.2.2.2 g A lay  hF) cp_X5_areEnough (rv_F) mw_555 dX5_isProtectedNow_18 rfl rfl (Nat.le_of_ble_eq_true rfl) ⟨Nat.le_of_ble_eq_true rfl, Nat.le_of_ble_eq_true rfl⟩ ⟨Nat.le_of_ble_eq_true rfl, Nat.le_of_ble_eq_true rfl⟩ rfl (fun lay => ?_)
    refine j_if_eq 24 28 C dX5_isProtectedNow_21 (by decide) rfl (fun hc110 => ?_) (fun hc110 => ?_)
    · replace h := it_t hc110 h
      refine j_sub [] (lo' := []) rfl ?_
      exact wn_X5_isProtectedNow_28 C K M  lay σ108  h
    · replace h := it_f hc110 h
      refine j_iconst 25 C dX5_isProtectedNow_24 ic_1 rfl ?_
      refine j_goto 29 C dX5_isProtectedNow_25 (by decide) ?_
      cases h
      exact x_z C M dX5_isProtectedNow_29 (by decide)
theorem cp_X5_slot : CPv yX5_slot cX5_slot 4 (some .int) RX5 2 := ⟨mw_626, mw_627, mw_98, mw_628, rfl, by decide, by decide, by decide +kernel⟩
set_option maxHeartbeats 4000000 in
set_option maxRecDepth 100000 in
theorem c_X5_slot {l : Launch} (hst : l.stackTraces = false) (g : GG) (A : Nat → Prop) (lay : Nat → Nat) {σ : CS} {σ' : CS} {r : Int32} {x1 : Int32} {x2 : Int32}  (h : F_X5_slot σ x1 x2 = some (σ', .inl r)) : MI l yX5_slot cX5_slot 4 .int 7 111 0 0 [.ref (ga g 0), .int x1, .int x2] (CH g A) g A lay σ σ' r := by
  unfold F_X5_slot at h
  refine e_i (own := RX5) (lo := [(0, .ref (ga g 0)), (1, .int x1), (2, .int x2)]) hst (plainFor_of_name (by decide)) rfl rfl (Nat.le_of_ble_eq_true rfl) ?_
  intro p e s m args below meth c C K M
  refine j_aload_n 1 C dX5_slot_0 0 rfl rfl ?_
  refine j_iload_n 2 C dX5_slot_1 1 rfl rfl ?_
  rcases bx_e h with ⟨σ101, u102, hF, h⟩ | ⟨σ101, ex1, hF, h⟩
  · refine k_Vv 5 C K (c_X5_requireSlot K.2.2.2 g A lay  hF) cp_X5_requireSlot (rv_F) mw_581 dX5_slot_2 rfl rfl (Nat.le_of_ble_eq_true rfl) ⟨Nat.le_of_ble_eq_true rfl, Nat.le_of_ble_eq_true rfl⟩ ⟨Nat.le_of_ble_eq_true rfl, Nat.le_of_ble_eq_true rfl⟩ rfl (fun lay => ?_)
    refine j_aload_n 6 C dX5_slot_5 0 rfl rfl ?_
    refine g_F 9 C K 1 (by decide) mw_281 rfl dX5_slot_6 rfl ?_
    refine j_iload_n 10 C dX5_slot_9 1 rfl rfl ?_
    obtain ⟨hz103, h⟩ := gd_e h
    have hb104 : tn x1 < 4 := inb_lt hz103
    refine r_decs 11 C K hz103 dX5_slot_10 rfl ?_
    refine j_astore_n 12 C dX5_slot_11 (lo' := [(3, .ref (ga g (71 + (tn x1)))), (0, .ref (ga g 0)), (1, .int x1), (2, .int x2)]) (by decide) rfl rfl ?_
    refine j_iload_n 13 C dX5_slot_12 3 rfl rfl ?_
    by_cases hc105 : x2 = 0
    · replace h := it_t hc105 h
      refine j_tin 56 C dX5_slot_13 (off := 43) (by rw [hc105]; decide) (by rw [hc105]; decide) (by rw [hc105]; decide) (by decide) ?_
      refine j_aload_n 57 C dX5_slot_56 0 rfl rfl ?_
      refine g_C 60 C K hb104 0 (by decide) mw_264 rfl dX5_slot_57 rfl ?_
      cases h
      exact x_i C M dX5_slot_60
    replace h := it_f hc105 h
    by_cases hc106 : x2 = 1
    · replace h := it_t hc106 h
      refine j_tin 61 C dX5_slot_13 (off := 48) (by rw [hc106]; decide) (by rw [hc106]; decide) (by rw [hc106]; decide) (by decide) ?_
      refine j_aload_n 62 C dX5_slot_61 0 rfl rfl ?_
      refine g_C 65 C K hb104 1 (by decide) mw_266 rfl dX5_slot_62 rfl ?_
      cases h
      exact x_i C M dX5_slot_65
    replace h := it_f hc106 h
    by_cases hc107 : x2 = 2
    · replace h := it_t hc107 h
      refine j_tin 66 C dX5_slot_13 (off := 53) (by rw [hc107]; decide) (by rw [hc107]; decide) (by rw [hc107]; decide) (by decide) ?_
      refine j_aload_n 67 C dX5_slot_66 0 rfl rfl ?_
      refine g_C 70 C K hb104 2 (by decide) mw_268 rfl dX5_slot_67 rfl ?_
      cases h
      exact x_i C M dX5_slot_70
    replace h := it_f hc107 h
    by_cases hc108 : x2 = 3
    · replace h := it_t hc108 h
      refine j_tin 71 C dX5_slot_13 (off := 58) (by rw [hc108]; decide) (by rw [hc108]; decide) (by rw [hc108]; decide) (by decide) ?_
      refine j_aload_n 72 C dX5_slot_71 1 rfl rfl ?_
      refine j_iload_n 73 C dX5_slot_72 2 rfl rfl ?_
      obtain ⟨σ109, r110, hF, h⟩ := bd_e h
      refine k_Vi 76 C K (c_X5_holders K.2.2.2 g A lay  hF) cp_X5_holders (rv_F) mw_551 dX5_slot_73 rfl rfl (Nat.le_of_ble_eq_true rfl) ⟨Nat.le_of_ble_eq_true rfl, Nat.le_of_ble_eq_true rfl⟩ ⟨Nat.le_of_ble_eq_true rfl, Nat.le_of_ble_eq_true rfl⟩ rfl (fun lay => ?_)
      cases h
      exact x_i C M dX5_slot_76
    replace h := it_f hc108 h
    by_cases hc111 : x2 = 4
    · replace h := it_t hc111 h
      refine j_tin 77 C dX5_slot_13 (off := 64) (by rw [hc111]; decide) (by rw [hc111]; decide) (by rw [hc111]; decide) (by decide) ?_
      refine j_aload_n 78 C dX5_slot_77 1 rfl rfl ?_
      refine j_iload_n 79 C dX5_slot_78 2 rfl rfl ?_
      obtain ⟨σ112, r113, hF, h⟩ := bd_e h
      refine k_Vi 82 C K (c_X5_diskHolders K.2.2.2 g A lay  hF) cp_X5_diskHolders (rv_F) mw_390 dX5_slot_79 rfl rfl (Nat.le_of_ble_eq_true rfl) ⟨Nat.le_of_ble_eq_true rfl, Nat.le_of_ble_eq_true rfl⟩ ⟨Nat.le_of_ble_eq_true rfl, Nat.le_of_ble_eq_true rfl⟩ rfl (fun lay => ?_)
      cases h
      exact x_i C M dX5_slot_82
    replace h := it_f hc111 h
    by_cases hc114 : x2 = 5
    · replace h := it_t hc114 h
      refine j_tin 83 C dX5_slot_13 (off := 70) (by rw [hc114]; decide) (by rw [hc114]; decide) (by rw [hc114]; decide) (by decide) ?_
      refine j_aload_n 84 C dX5_slot_83 1 rfl rfl ?_
      refine j_iload_n 85 C dX5_slot_84 2 rfl rfl ?_
      obtain ⟨σ115, r116, hF, h⟩ := bd_e h
      refine k_Vi 88 C K (c_X5_isProtectedNow K.2.2.2 g A lay  hF) cp_X5_isProtectedNow (rv_F) mw_629 dX5_slot_85 rfl rfl (Nat.le_of_ble_eq_true rfl) ⟨Nat.le_of_ble_eq_true rfl, Nat.le_of_ble_eq_true rfl⟩ ⟨Nat.le_of_ble_eq_true rfl, Nat.le_of_ble_eq_true rfl⟩ rfl (fun lay => ?_)
      obtain ⟨σ117, r118, hF, h⟩ := bd_e h
      refine k_Si 91 C K (c_X5_asNumber K.2.2.2 g A lay  hF) cp_X5_asNumber mw_321 dX5_slot_88 rfl rfl (Nat.le_of_ble_eq_true rfl) ⟨Nat.le_of_ble_eq_true rfl, Nat.le_of_ble_eq_true rfl⟩ ⟨Nat.le_of_ble_eq_true rfl, Nat.le_of_ble_eq_true rfl⟩ rfl (fun lay => ?_)
      cases h
      exact x_i C M dX5_slot_91
    replace h := it_f hc114 h
    by_cases hc119 : x2 = 6
    · replace h := it_t hc119 h
      refine j_tin 92 C dX5_slot_13 (off := 79) (by rw [hc119]; decide) (by rw [hc119]; decide) (by rw [hc119]; decide) (by decide) ?_
      refine j_aload_n 93 C dX5_slot_92 0 rfl rfl ?_
      refine g_C 96 C K hb104 3 (by decide) mw_270 rfl dX5_slot_93 rfl ?_
      obtain ⟨σ120, r121, hF, h⟩ := bd_e h
      refine k_Si 99 C K (c_X5_asNumber K.2.2.2 g A lay  hF) cp_X5_asNumber mw_321 dX5_slot_96 rfl rfl (Nat.le_of_ble_eq_true rfl) ⟨Nat.le_of_ble_eq_true rfl, Nat.le_of_ble_eq_true rfl⟩ ⟨Nat.le_of_ble_eq_true rfl, Nat.le_of_ble_eq_true rfl⟩ rfl (fun lay => ?_)
      cases h
      exact x_i C M dX5_slot_99
    replace h := it_f hc119 h
    refine j_tout 100 C dX5_slot_13 (by have := lv_neT hc105 (a := 0) (by decide); have := lv_neT hc106 (a := 1) (by decide); have := lv_neT hc107 (a := 2) (by decide); have := lv_neT hc108 (a := 3) (by decide); have := lv_neT hc111 (a := 4) (by decide); have := lv_neT hc114 (a := 5) (by decide); have := lv_neT hc119 (a := 6) (by decide); omega) (by decide) ?_
    cases h
  · cases h
set_option maxHeartbeats 4000000 in
set_option maxRecDepth 100000 in
theorem x_X5_slot {l : Launch} (hst : l.stackTraces = false) (g : GG) (A : Nat → Prop) (lay : Nat → Nat) {σ : CS} {σ' : CS} {ex : Nat} {x1 : Int32} {x2 : Int32}  (h : F_X5_slot σ x1 x2 = some (σ', .inr ex)) : XI l yX5_slot cX5_slot 4 .int 7 111 [.ref (ga g 0), .int x1, .int x2] (CH g A) g A lay σ σ' ex := by
  unfold F_X5_slot at h
  refine ex_i (own := RX5) (lo := [(0, .ref (ga g 0)), (1, .int x1), (2, .int x2)]) hst (by decide) rfl rfl (Nat.le_of_ble_eq_true rfl) ?_
  intro p e s m args below meth c C K M hx
  refine j_aload_n 1 C dX5_slot_0 0 rfl rfl ?_
  refine j_iload_n 2 C dX5_slot_1 1 rfl rfl ?_
  rcases bx_e h with ⟨σ101, u102, hF, h⟩ | ⟨σ101, ex1, hF, h⟩
  · refine k_Vv 5 C K (c_X5_requireSlot K.2.2.2 g A lay  hF) cp_X5_requireSlot (rv_F) mw_581 dX5_slot_2 rfl rfl (Nat.le_of_ble_eq_true rfl) ⟨Nat.le_of_ble_eq_true rfl, Nat.le_of_ble_eq_true rfl⟩ ⟨Nat.le_of_ble_eq_true rfl, Nat.le_of_ble_eq_true rfl⟩ rfl (fun lay => ?_)
    refine j_aload_n 6 C dX5_slot_5 0 rfl rfl ?_
    refine g_F 9 C K 1 (by decide) mw_281 rfl dX5_slot_6 rfl ?_
    refine j_iload_n 10 C dX5_slot_9 1 rfl rfl ?_
    obtain ⟨hz103, h⟩ := gd_e h
    have hb104 : tn x1 < 4 := inb_lt hz103
    refine r_decs 11 C K hz103 dX5_slot_10 rfl ?_
    refine j_astore_n 12 C dX5_slot_11 (lo' := [(3, .ref (ga g (71 + (tn x1)))), (0, .ref (ga g 0)), (1, .int x1), (2, .int x2)]) (by decide) rfl rfl ?_
    refine j_iload_n 13 C dX5_slot_12 3 rfl rfl ?_
    by_cases hc105 : x2 = 0
    · replace h := it_t hc105 h
      refine j_tin 56 C dX5_slot_13 (off := 43) (by rw [hc105]; decide) (by rw [hc105]; decide) (by rw [hc105]; decide) (by decide) ?_
      refine j_aload_n 57 C dX5_slot_56 0 rfl rfl ?_
      refine g_C 60 C K hb104 0 (by decide) mw_264 rfl dX5_slot_57 rfl ?_
      cases h
    replace h := it_f hc105 h
    by_cases hc106 : x2 = 1
    · replace h := it_t hc106 h
      refine j_tin 61 C dX5_slot_13 (off := 48) (by rw [hc106]; decide) (by rw [hc106]; decide) (by rw [hc106]; decide) (by decide) ?_
      refine j_aload_n 62 C dX5_slot_61 0 rfl rfl ?_
      refine g_C 65 C K hb104 1 (by decide) mw_266 rfl dX5_slot_62 rfl ?_
      cases h
    replace h := it_f hc106 h
    by_cases hc107 : x2 = 2
    · replace h := it_t hc107 h
      refine j_tin 66 C dX5_slot_13 (off := 53) (by rw [hc107]; decide) (by rw [hc107]; decide) (by rw [hc107]; decide) (by decide) ?_
      refine j_aload_n 67 C dX5_slot_66 0 rfl rfl ?_
      refine g_C 70 C K hb104 2 (by decide) mw_268 rfl dX5_slot_67 rfl ?_
      cases h
    replace h := it_f hc107 h
    by_cases hc108 : x2 = 3
    · replace h := it_t hc108 h
      refine j_tin 71 C dX5_slot_13 (off := 58) (by rw [hc108]; decide) (by rw [hc108]; decide) (by rw [hc108]; decide) (by decide) ?_
      refine j_aload_n 72 C dX5_slot_71 1 rfl rfl ?_
      refine j_iload_n 73 C dX5_slot_72 2 rfl rfl ?_
      obtain ⟨σ109, r110, hF, h⟩ := bd_e h
      refine k_Vi 76 C K (c_X5_holders K.2.2.2 g A lay  hF) cp_X5_holders (rv_F) mw_551 dX5_slot_73 rfl rfl (Nat.le_of_ble_eq_true rfl) ⟨Nat.le_of_ble_eq_true rfl, Nat.le_of_ble_eq_true rfl⟩ ⟨Nat.le_of_ble_eq_true rfl, Nat.le_of_ble_eq_true rfl⟩ rfl (fun lay => ?_)
      cases h
    replace h := it_f hc108 h
    by_cases hc111 : x2 = 4
    · replace h := it_t hc111 h
      refine j_tin 77 C dX5_slot_13 (off := 64) (by rw [hc111]; decide) (by rw [hc111]; decide) (by rw [hc111]; decide) (by decide) ?_
      refine j_aload_n 78 C dX5_slot_77 1 rfl rfl ?_
      refine j_iload_n 79 C dX5_slot_78 2 rfl rfl ?_
      obtain ⟨σ112, r113, hF, h⟩ := bd_e h
      refine k_Vi 82 C K (c_X5_diskHolders K.2.2.2 g A lay  hF) cp_X5_diskHolders (rv_F) mw_390 dX5_slot_79 rfl rfl (Nat.le_of_ble_eq_true rfl) ⟨Nat.le_of_ble_eq_true rfl, Nat.le_of_ble_eq_true rfl⟩ ⟨Nat.le_of_ble_eq_true rfl, Nat.le_of_ble_eq_true rfl⟩ rfl (fun lay => ?_)
      cases h
    replace h := it_f hc111 h
    by_cases hc114 : x2 = 5
    · replace h := it_t hc114 h
      refine j_tin 83 C dX5_slot_13 (off := 70) (by rw [hc114]; decide) (by rw [hc114]; decide) (by rw [hc114]; decide) (by decide) ?_
      refine j_aload_n 84 C dX5_slot_83 1 rfl rfl ?_
      refine j_iload_n 85 C dX5_slot_84 2 rfl rfl ?_
      obtain ⟨σ115, r116, hF, h⟩ := bd_e h
      refine k_Vi 88 C K (c_X5_isProtectedNow K.2.2.2 g A lay  hF) cp_X5_isProtectedNow (rv_F) mw_629 dX5_slot_85 rfl rfl (Nat.le_of_ble_eq_true rfl) ⟨Nat.le_of_ble_eq_true rfl, Nat.le_of_ble_eq_true rfl⟩ ⟨Nat.le_of_ble_eq_true rfl, Nat.le_of_ble_eq_true rfl⟩ rfl (fun lay => ?_)
      obtain ⟨σ117, r118, hF, h⟩ := bd_e h
      refine k_Si 91 C K (c_X5_asNumber K.2.2.2 g A lay  hF) cp_X5_asNumber mw_321 dX5_slot_88 rfl rfl (Nat.le_of_ble_eq_true rfl) ⟨Nat.le_of_ble_eq_true rfl, Nat.le_of_ble_eq_true rfl⟩ ⟨Nat.le_of_ble_eq_true rfl, Nat.le_of_ble_eq_true rfl⟩ rfl (fun lay => ?_)
      cases h
    replace h := it_f hc114 h
    by_cases hc119 : x2 = 6
    · replace h := it_t hc119 h
      refine j_tin 92 C dX5_slot_13 (off := 79) (by rw [hc119]; decide) (by rw [hc119]; decide) (by rw [hc119]; decide) (by decide) ?_
      refine j_aload_n 93 C dX5_slot_92 0 rfl rfl ?_
      refine g_C 96 C K hb104 3 (by decide) mw_270 rfl dX5_slot_93 rfl ?_
      obtain ⟨σ120, r121, hF, h⟩ := bd_e h
      refine k_Si 99 C K (c_X5_asNumber K.2.2.2 g A lay  hF) cp_X5_asNumber mw_321 dX5_slot_96 rfl rfl (Nat.le_of_ble_eq_true rfl) ⟨Nat.le_of_ble_eq_true rfl, Nat.le_of_ble_eq_true rfl⟩ ⟨Nat.le_of_ble_eq_true rfl, Nat.le_of_ble_eq_true rfl⟩ rfl (fun lay => ?_)
      cases h
    replace h := it_f hc119 h
    refine j_tout 100 C dX5_slot_13 (by have := lv_neT hc105 (a := 0) (by decide); have := lv_neT hc106 (a := 1) (by decide); have := lv_neT hc107 (a := 2) (by decide); have := lv_neT hc108 (a := 3) (by decide); have := lv_neT hc111 (a := 4) (by decide); have := lv_neT hc114 (a := 5) (by decide); have := lv_neT hc119 (a := 6) (by decide); omega) (by decide) ?_
    cases h
    exact jx_w2 C K M hx CH_kept mw_432 xs_266 xat_X5_58 dX5_slot_100 dX5_slot_103 dX5_slot_104 dX5_slot_107 dX5_slot_110 (Nat.le_of_ble_eq_true rfl) (Nat.le_of_ble_eq_true rfl) ⟨Nat.le_of_ble_eq_true rfl, Nat.le_of_ble_eq_true rfl⟩
  · cases h
    exact kx_Vv C K M hx (x_X5_requireSlot K.2.2.2 g A lay  hF) cp_X5_requireSlot (rv_F) mw_581 dX5_slot_2 rfl rfl (Nat.le_of_ble_eq_true rfl) ⟨Nat.le_of_ble_eq_true rfl, Nat.le_of_ble_eq_true rfl⟩ ⟨Nat.le_of_ble_eq_true rfl, Nat.le_of_ble_eq_true rfl⟩
theorem cp_X5_roundValue : CPv yX5_roundValue cX5_roundValue 3 (some .int) RX5 2 := ⟨mw_602, mw_603, mw_98, mw_604, rfl, by decide, by decide, by decide +kernel⟩
set_option maxHeartbeats 4000000 in
set_option maxRecDepth 100000 in
theorem c_X5_roundValue {l : Launch} (hst : l.stackTraces = false) (g : GG) (A : Nat → Prop) (lay : Nat → Nat) {σ : CS} {σ' : CS} {r : Int32} {x1 : Int32} {x2 : Int32}  (h : F_X5_roundValue σ x1 x2 = some (σ', .inl r)) : MI l yX5_roundValue cX5_roundValue 3 .int 7 111 0 0 [.ref (ga g 0), .int x1, .int x2] (CH g A) g A lay σ σ' r := by
  unfold F_X5_roundValue at h
  refine e_i (own := RX5) (lo := [(0, .ref (ga g 0)), (1, .int x1), (2, .int x2)]) hst (plainFor_of_name (by decide)) rfl rfl (Nat.le_of_ble_eq_true rfl) ?_
  intro p e s m args below meth c C K M
  refine j_aload_n 1 C dX5_roundValue_0 0 rfl rfl ?_
  refine j_iload_n 2 C dX5_roundValue_1 1 rfl rfl ?_
  rcases bx_e h with ⟨σ101, u102, hF, h⟩ | ⟨σ101, ex1, hF, h⟩
  · refine k_Vv 5 C K (c_X5_requireNode K.2.2.2 g A lay  hF) cp_X5_requireNode (rv_F) mw_508 dX5_roundValue_2 rfl rfl (Nat.le_of_ble_eq_true rfl) ⟨Nat.le_of_ble_eq_true rfl, Nat.le_of_ble_eq_true rfl⟩ ⟨Nat.le_of_ble_eq_true rfl, Nat.le_of_ble_eq_true rfl⟩ rfl (fun lay => ?_)
    refine j_aload_n 6 C dX5_roundValue_5 0 rfl rfl ?_
    refine j_iload_n 7 C dX5_roundValue_6 2 rfl rfl ?_
    rcases bx_e h with ⟨σ103, u104, hF, h⟩ | ⟨σ103, ex1, hF, h⟩
    · refine k_Vv 10 C K (c_X5_requireSlot K.2.2.2 g A lay  hF) cp_X5_requireSlot (rv_F) mw_581 dX5_roundValue_7 rfl rfl (Nat.le_of_ble_eq_true rfl) ⟨Nat.le_of_ble_eq_true rfl, Nat.le_of_ble_eq_true rfl⟩ ⟨Nat.le_of_ble_eq_true rfl, Nat.le_of_ble_eq_true rfl⟩ rfl (fun lay => ?_)
      refine j_aload_n 11 C dX5_roundValue_10 0 rfl rfl ?_
      refine j_iload_n 12 C dX5_roundValue_11 1 rfl rfl ?_
      rcases bx_e h with ⟨σ105, u106, hF, h⟩ | ⟨σ105, ex1, hF, h⟩
      · refine k_Vv 15 C K (c_X5_requireRound K.2.2.2 g A lay  hF) cp_X5_requireRound (rv_F) mw_605 dX5_roundValue_12 rfl rfl (Nat.le_of_ble_eq_true rfl) ⟨Nat.le_of_ble_eq_true rfl, Nat.le_of_ble_eq_true rfl⟩ ⟨Nat.le_of_ble_eq_true rfl, Nat.le_of_ble_eq_true rfl⟩ rfl (fun lay => ?_)
        refine j_aload_n 16 C dX5_roundValue_15 0 rfl rfl ?_
        refine g_F 19 C K 0 (by decide) mw_280 rfl dX5_roundValue_16 rfl ?_
        refine j_iload_n 20 C dX5_roundValue_19 1 rfl rfl ?_
        obtain ⟨hz107, h⟩ := gd_e h
        have hb108 : tn x1 < 7 := inb_lt hz107
        refine r_nodes 21 C K hz107 dX5_roundValue_20 rfl ?_
        refine g_N 24 C K hb108 4 (by decide) mw_226 rfl dX5_roundValue_21 rfl ?_
        refine j_iload_n 25 C dX5_roundValue_24 2 rfl rfl ?_
        obtain ⟨hz109, h⟩ := gd_e h
        refine r_ild 26 C K (ar_V _ hb108) (ca_V _ _ hb108) hz109 dX5_roundValue_25 rfl ?_
        cases h
        exact x_i C M dX5_roundValue_26
      · cases h
    · cases h
  · cases h
set_option maxHeartbeats 4000000 in
set_option maxRecDepth 100000 in
theorem x_X5_roundValue {l : Launch} (hst : l.stackTraces = false) (g : GG) (A : Nat → Prop) (lay : Nat → Nat) {σ : CS} {σ' : CS} {ex : Nat} {x1 : Int32} {x2 : Int32}  (h : F_X5_roundValue σ x1 x2 = some (σ', .inr ex)) : XI l yX5_roundValue cX5_roundValue 3 .int 7 111 [.ref (ga g 0), .int x1, .int x2] (CH g A) g A lay σ σ' ex := by
  unfold F_X5_roundValue at h
  refine ex_i (own := RX5) (lo := [(0, .ref (ga g 0)), (1, .int x1), (2, .int x2)]) hst (by decide) rfl rfl (Nat.le_of_ble_eq_true rfl) ?_
  intro p e s m args below meth c C K M hx
  refine j_aload_n 1 C dX5_roundValue_0 0 rfl rfl ?_
  refine j_iload_n 2 C dX5_roundValue_1 1 rfl rfl ?_
  rcases bx_e h with ⟨σ101, u102, hF, h⟩ | ⟨σ101, ex1, hF, h⟩
  · refine k_Vv 5 C K (c_X5_requireNode K.2.2.2 g A lay  hF) cp_X5_requireNode (rv_F) mw_508 dX5_roundValue_2 rfl rfl (Nat.le_of_ble_eq_true rfl) ⟨Nat.le_of_ble_eq_true rfl, Nat.le_of_ble_eq_true rfl⟩ ⟨Nat.le_of_ble_eq_true rfl, Nat.le_of_ble_eq_true rfl⟩ rfl (fun lay => ?_)
    refine j_aload_n 6 C dX5_roundValue_5 0 rfl rfl ?_
    refine j_iload_n 7 C dX5_roundValue_6 2 rfl rfl ?_
    rcases bx_e h with ⟨σ103, u104, hF, h⟩ | ⟨σ103, ex1, hF, h⟩
    · refine k_Vv 10 C K (c_X5_requireSlot K.2.2.2 g A lay  hF) cp_X5_requireSlot (rv_F) mw_581 dX5_roundValue_7 rfl rfl (Nat.le_of_ble_eq_true rfl) ⟨Nat.le_of_ble_eq_true rfl, Nat.le_of_ble_eq_true rfl⟩ ⟨Nat.le_of_ble_eq_true rfl, Nat.le_of_ble_eq_true rfl⟩ rfl (fun lay => ?_)
      refine j_aload_n 11 C dX5_roundValue_10 0 rfl rfl ?_
      refine j_iload_n 12 C dX5_roundValue_11 1 rfl rfl ?_
      rcases bx_e h with ⟨σ105, u106, hF, h⟩ | ⟨σ105, ex1, hF, h⟩
      · refine k_Vv 15 C K (c_X5_requireRound K.2.2.2 g A lay  hF) cp_X5_requireRound (rv_F) mw_605 dX5_roundValue_12 rfl rfl (Nat.le_of_ble_eq_true rfl) ⟨Nat.le_of_ble_eq_true rfl, Nat.le_of_ble_eq_true rfl⟩ ⟨Nat.le_of_ble_eq_true rfl, Nat.le_of_ble_eq_true rfl⟩ rfl (fun lay => ?_)
        refine j_aload_n 16 C dX5_roundValue_15 0 rfl rfl ?_
        refine g_F 19 C K 0 (by decide) mw_280 rfl dX5_roundValue_16 rfl ?_
        refine j_iload_n 20 C dX5_roundValue_19 1 rfl rfl ?_
        obtain ⟨hz107, h⟩ := gd_e h
        have hb108 : tn x1 < 7 := inb_lt hz107
        refine r_nodes 21 C K hz107 dX5_roundValue_20 rfl ?_
        refine g_N 24 C K hb108 4 (by decide) mw_226 rfl dX5_roundValue_21 rfl ?_
        refine j_iload_n 25 C dX5_roundValue_24 2 rfl rfl ?_
        obtain ⟨hz109, h⟩ := gd_e h
        refine r_ild 26 C K (ar_V _ hb108) (ca_V _ _ hb108) hz109 dX5_roundValue_25 rfl ?_
        cases h
      · cases h
        exact kx_Vv C K M hx (x_X5_requireRound K.2.2.2 g A lay  hF) cp_X5_requireRound (rv_F) mw_605 dX5_roundValue_12 rfl rfl (Nat.le_of_ble_eq_true rfl) ⟨Nat.le_of_ble_eq_true rfl, Nat.le_of_ble_eq_true rfl⟩ ⟨Nat.le_of_ble_eq_true rfl, Nat.le_of_ble_eq_true rfl⟩
    · cases h
      exact kx_Vv C K M hx (x_X5_requireSlot K.2.2.2 g A lay  hF) cp_X5_requireSlot (rv_F) mw_581 dX5_roundValue_7 rfl rfl (Nat.le_of_ble_eq_true rfl) ⟨Nat.le_of_ble_eq_true rfl, Nat.le_of_ble_eq_true rfl⟩ ⟨Nat.le_of_ble_eq_true rfl, Nat.le_of_ble_eq_true rfl⟩
  · cases h
    exact kx_Vv C K M hx (x_X5_requireNode K.2.2.2 g A lay  hF) cp_X5_requireNode (rv_F) mw_508 dX5_roundValue_2 rfl rfl (Nat.le_of_ble_eq_true rfl) ⟨Nat.le_of_ble_eq_true rfl, Nat.le_of_ble_eq_true rfl⟩ ⟨Nat.le_of_ble_eq_true rfl, Nat.le_of_ble_eq_true rfl⟩
theorem cp_X5_holdersAfterLoss : CPv yX5_holdersAfterLoss cX5_holdersAfterLoss 4 (some .int) RX5 3 := ⟨mw_919, mw_40, mw_98, mw_920, rfl, by decide, by decide, by decide +kernel⟩
set_option maxHeartbeats 4000000 in
set_option maxRecDepth 100000 in
theorem c_X5_holdersAfterLoss {l : Launch} (hst : l.stackTraces = false) (g : GG) (A : Nat → Prop) (lay : Nat → Nat) {σ : CS} {σ' : CS} {r : Int32} {o1 : Nat} {x2 : Int32} {x3 : Int32} (ho1 : o1 < 7) (h : F_X5_holdersAfterLoss σ o1 x2 x3 = some (σ', r)) : MI l yX5_holdersAfterLoss cX5_holdersAfterLoss 4 .int 3 67 0 0 [.ref (ga g 0), .ref (ga g (5 + o1)), .int x2, .int x3] (CH g A) g A lay σ σ' r := by
  unfold F_X5_holdersAfterLoss at h
  refine e_i (own := RX5) (lo := [(0, .ref (ga g 0)), (1, .ref (ga g (5 + o1))), (2, .int x2), (3, .int x3)]) hst (plainFor_of_name (by decide)) rfl rfl (Nat.le_of_ble_eq_true rfl) ?_
  intro p e s m args below meth c C K M
  refine j_aload_n 1 C dX5_holdersAfterLoss_0 0 rfl rfl ?_
  refine g_F 4 C K 2 (by decide) mw_282 rfl dX5_holdersAfterLoss_1 rfl ?_
  refine j_aload_n 5 C dX5_holdersAfterLoss_4 1 rfl rfl ?_
  refine g_N 8 C K ho1 1 (by decide) mw_220 rfl dX5_holdersAfterLoss_5 rfl ?_
  obtain ⟨σ101, u102, hF, h⟩ := bd_e h
  refine k_Vv 11 C K (c_X1_copyFrom K.2.2.2 g A lay (by omega) (by omega) hF) cp_X1_copyFrom (rv_D (by omega)) mw_559 dX5_holdersAfterLoss_8 rfl rfl (Nat.le_of_ble_eq_true rfl) ⟨Nat.le_of_ble_eq_true rfl, Nat.le_of_ble_eq_true rfl⟩ ⟨Nat.le_of_ble_eq_true rfl, Nat.le_of_ble_eq_true rfl⟩ rfl (fun lay => ?_)
  refine j_aload_n 12 C dX5_holdersAfterLoss_11 1 rfl rfl ?_
  refine g_N 15 C K ho1 3 (by decide) mw_224 rfl dX5_holdersAfterLoss_12 rfl ?_
  refine j_aload_n 16 C dX5_holdersAfterLoss_15 0 rfl rfl ?_
  refine g_F 19 C K 2 (by decide) mw_282 rfl dX5_holdersAfterLoss_16 rfl ?_
  refine j_aload_n 20 C dX5_holdersAfterLoss_19 1 rfl rfl ?_
  refine g_N 23 C K ho1 3 (by decide) mw_224 rfl dX5_holdersAfterLoss_20 rfl ?_
  refine j_iload_n 24 C dX5_holdersAfterLoss_23 2 rfl rfl ?_
  obtain ⟨σ103, r104, hF, h⟩ := bd_e h
  refine k_Vi 27 C K (c_X4_keptOf K.2.2.2 g A lay ho1 hF) cp_X4_keptOf (rv_W ho1) mw_921 dX5_holdersAfterLoss_24 rfl rfl (Nat.le_of_ble_eq_true rfl) ⟨Nat.le_of_ble_eq_true rfl, Nat.le_of_ble_eq_true rfl⟩ ⟨Nat.le_of_ble_eq_true rfl, Nat.le_of_ble_eq_true rfl⟩ rfl (fun lay => ?_)
  obtain ⟨σ105, u106, hF, h⟩ := bd_e h
  refine k_Vv 30 C K (c_X4_carryOutOn K.2.2.2 g A lay ho1 (by omega) hF) cp_X4_carryOutOn (rv_W ho1) mw_922 dX5_holdersAfterLoss_27 rfl rfl (Nat.le_of_ble_eq_true rfl) ⟨Nat.le_of_ble_eq_true rfl, Nat.le_of_ble_eq_true rfl⟩ ⟨Nat.le_of_ble_eq_true rfl, Nat.le_of_ble_eq_true rfl⟩ rfl (fun lay => ?_)
  refine j_aload_n 31 C dX5_holdersAfterLoss_30 0 rfl rfl ?_
  refine j_iload_n 32 C dX5_holdersAfterLoss_31 3 rfl rfl ?_
  obtain ⟨σ107, r108, hF, h⟩ := bd_e h
  refine k_Vi 35 C K (c_X5_holders K.2.2.2 g A lay  hF) cp_X5_holders (rv_F) mw_551 dX5_holdersAfterLoss_32 rfl rfl (Nat.le_of_ble_eq_true rfl) ⟨Nat.le_of_ble_eq_true rfl, Nat.le_of_ble_eq_true rfl⟩ ⟨Nat.le_of_ble_eq_true rfl, Nat.le_of_ble_eq_true rfl⟩ rfl (fun lay => ?_)
  refine j_aload_n 36 C dX5_holdersAfterLoss_35 0 rfl rfl ?_
  refine j_aload_n 37 C dX5_holdersAfterLoss_36 1 rfl rfl ?_
  refine g_N 40 C K ho1 2 (by decide) mw_222 rfl dX5_holdersAfterLoss_37 rfl ?_
  refine j_iload_n 41 C dX5_holdersAfterLoss_40 3 rfl rfl ?_
  obtain ⟨σ109, r110, hF, h⟩ := bd_e h
  refine k_Vi 44 C K (c_X5_holds K.2.2.2 g A lay (by omega) hF) cp_X5_holds (rv_F) mw_394 dX5_holdersAfterLoss_41 rfl rfl (Nat.le_of_ble_eq_true rfl) ⟨Nat.le_of_ble_eq_true rfl, Nat.le_of_ble_eq_true rfl⟩ ⟨Nat.le_of_ble_eq_true rfl, Nat.le_of_ble_eq_true rfl⟩ rfl (fun lay => ?_)
  obtain ⟨σ111, r112, hF, h⟩ := bd_e h
  refine k_Si 47 C K (c_X5_asNumber K.2.2.2 g A lay  hF) cp_X5_asNumber mw_321 dX5_holdersAfterLoss_44 rfl rfl (Nat.le_of_ble_eq_true rfl) ⟨Nat.le_of_ble_eq_true rfl, Nat.le_of_ble_eq_true rfl⟩ ⟨Nat.le_of_ble_eq_true rfl, Nat.le_of_ble_eq_true rfl⟩ rfl (fun lay => ?_)
  refine j_isub 48 C dX5_holdersAfterLoss_47 rfl ?_
  refine j_aload_n 49 C dX5_holdersAfterLoss_48 0 rfl rfl ?_
  refine j_aload_n 50 C dX5_holdersAfterLoss_49 0 rfl rfl ?_
  refine g_F 53 C K 2 (by decide) mw_282 rfl dX5_holdersAfterLoss_50 rfl ?_
  refine j_iload_n 54 C dX5_holdersAfterLoss_53 3 rfl rfl ?_
  obtain ⟨σ113, r114, hF, h⟩ := bd_e h
  refine k_Vi 57 C K (c_X5_holds K.2.2.2 g A lay (by omega) hF) cp_X5_holds (rv_F) mw_394 dX5_holdersAfterLoss_54 rfl rfl (Nat.le_of_ble_eq_true rfl) ⟨Nat.le_of_ble_eq_true rfl, Nat.le_of_ble_eq_true rfl⟩ ⟨Nat.le_of_ble_eq_true rfl, Nat.le_of_ble_eq_true rfl⟩ rfl (fun lay => ?_)
  obtain ⟨σ115, r116, hF, h⟩ := bd_e h
  refine k_Si 60 C K (c_X5_asNumber K.2.2.2 g A lay  hF) cp_X5_asNumber mw_321 dX5_holdersAfterLoss_57 rfl rfl (Nat.le_of_ble_eq_true rfl) ⟨Nat.le_of_ble_eq_true rfl, Nat.le_of_ble_eq_true rfl⟩ ⟨Nat.le_of_ble_eq_true rfl, Nat.le_of_ble_eq_true rfl⟩ rfl (fun lay => ?_)
  refine j_iadd 61 C dX5_holdersAfterLoss_60 rfl ?_
  cases h
  exact x_i C M dX5_holdersAfterLoss_61
theorem cp_X5_ifCrashed : CPv yX5_ifCrashed cX5_ifCrashed 4 (some .int) RX5 3 := ⟨mw_914, mw_915, mw_98, mw_916, rfl, by decide, by decide, by decide +kernel⟩
set_option maxHeartbeats 4000000 in
set_option maxRecDepth 100000 in
theorem c_X5_ifCrashed {l : Launch} (hst : l.stackTraces = false) (g : GG) (A : Nat → Prop) (lay : Nat → Nat) {σ : CS} {σ' : CS} {r : Int32} {x1 : Int32} {x2 : Int32} {x3 : Int32}  (h : F_X5_ifCrashed σ x1 x2 x3 = some (σ', .inl r)) : MI l yX5_ifCrashed cX5_ifCrashed 4 .int 7 111 0 0 [.ref (ga g 0), .int x1, .int x2, .int x3] (CH g A) g A lay σ σ' r := by
  unfold F_X5_ifCrashed at h
  refine e_i (own := RX5) (lo := [(0, .ref (ga g 0)), (1, .int x1), (2, .int x2), (3, .int x3)]) hst (plainFor_of_name (by decide)) rfl rfl (Nat.le_of_ble_eq_true rfl) ?_
  intro p e s m args below meth c C K M
  refine j_aload_n 1 C dX5_ifCrashed_0 0 rfl rfl ?_
  refine j_iload_n 2 C dX5_ifCrashed_1 1 rfl rfl ?_
  rcases bx_e h with ⟨σ101, u102, hF, h⟩ | ⟨σ101, ex1, hF, h⟩
  · refine k_Vv 5 C K (c_X5_requireNode K.2.2.2 g A lay  hF) cp_X5_requireNode (rv_F) mw_508 dX5_ifCrashed_2 rfl rfl (Nat.le_of_ble_eq_true rfl) ⟨Nat.le_of_ble_eq_true rfl, Nat.le_of_ble_eq_true rfl⟩ ⟨Nat.le_of_ble_eq_true rfl, Nat.le_of_ble_eq_true rfl⟩ rfl (fun lay => ?_)
    refine j_aload_n 6 C dX5_ifCrashed_5 0 rfl rfl ?_
    refine j_iload_n 7 C dX5_ifCrashed_6 3 rfl rfl ?_
    rcases bx_e h with ⟨σ103, u104, hF, h⟩ | ⟨σ103, ex1, hF, h⟩
    · refine k_Vv 10 C K (c_X5_requireSlot K.2.2.2 g A lay  hF) cp_X5_requireSlot (rv_F) mw_581 dX5_ifCrashed_7 rfl rfl (Nat.le_of_ble_eq_true rfl) ⟨Nat.le_of_ble_eq_true rfl, Nat.le_of_ble_eq_true rfl⟩ ⟨Nat.le_of_ble_eq_true rfl, Nat.le_of_ble_eq_true rfl⟩ rfl (fun lay => ?_)
      refine j_iload_n 11 C dX5_ifCrashed_10 2 rfl rfl ?_
      rcases bx_e h with ⟨σ105, u106, hF, h⟩ | ⟨σ105, ex1, hF, h⟩
      · refine k_Sv 14 C K (c_X5_requireLost K.2.2.2 g A lay  hF) cp_X5_requireLost mw_785 dX5_ifCrashed_11 rfl rfl (Nat.le_of_ble_eq_true rfl) ⟨Nat.le_of_ble_eq_true rfl, Nat.le_of_ble_eq_true rfl⟩ ⟨Nat.le_of_ble_eq_true rfl, Nat.le_of_ble_eq_true rfl⟩ rfl (fun lay => ?_)
        refine j_aload_n 15 C dX5_ifCrashed_14 0 rfl rfl ?_
        refine j_aload_n 16 C dX5_ifCrashed_15 0 rfl rfl ?_
        refine g_F 19 C K 0 (by decide) mw_280 rfl dX5_ifCrashed_16 rfl ?_
        refine j_iload_n 20 C dX5_ifCrashed_19 1 rfl rfl ?_
        obtain ⟨hz107, h⟩ := gd_e h
        have hb108 : tn x1 < 7 := inb_lt hz107
        refine r_nodes 21 C K hz107 dX5_ifCrashed_20 rfl ?_
        refine j_iload_n 22 C dX5_ifCrashed_21 2 rfl rfl ?_
        refine j_iload_n 23 C dX5_ifCrashed_22 3 rfl rfl ?_
        obtain ⟨σ109, r110, hF, h⟩ := bd_e h
        refine k_Vi 26 C K (c_X5_holdersAfterLoss K.2.2.2 g A lay hb108 hF) cp_X5_holdersAfterLoss (rv_F) mw_917 dX5_ifCrashed_23 rfl rfl (Nat.le_of_ble_eq_true rfl) ⟨Nat.le_of_ble_eq_true rfl, Nat.le_of_ble_eq_true rfl⟩ ⟨Nat.le_of_ble_eq_true rfl, Nat.le_of_ble_eq_true rfl⟩ rfl (fun lay => ?_)
        cases h
        exact x_i C M dX5_ifCrashed_26
      · cases h
    · cases h
  · cases h
set_option maxHeartbeats 4000000 in
set_option maxRecDepth 100000 in
theorem x_X5_ifCrashed {l : Launch} (hst : l.stackTraces = false) (g : GG) (A : Nat → Prop) (lay : Nat → Nat) {σ : CS} {σ' : CS} {ex : Nat} {x1 : Int32} {x2 : Int32} {x3 : Int32}  (h : F_X5_ifCrashed σ x1 x2 x3 = some (σ', .inr ex)) : XI l yX5_ifCrashed cX5_ifCrashed 4 .int 7 111 [.ref (ga g 0), .int x1, .int x2, .int x3] (CH g A) g A lay σ σ' ex := by
  unfold F_X5_ifCrashed at h
  refine ex_i (own := RX5) (lo := [(0, .ref (ga g 0)), (1, .int x1), (2, .int x2), (3, .int x3)]) hst (by decide) rfl rfl (Nat.le_of_ble_eq_true rfl) ?_
  intro p e s m args below meth c C K M hx
  refine j_aload_n 1 C dX5_ifCrashed_0 0 rfl rfl ?_
  refine j_iload_n 2 C dX5_ifCrashed_1 1 rfl rfl ?_
  rcases bx_e h with ⟨σ101, u102, hF, h⟩ | ⟨σ101, ex1, hF, h⟩
  · refine k_Vv 5 C K (c_X5_requireNode K.2.2.2 g A lay  hF) cp_X5_requireNode (rv_F) mw_508 dX5_ifCrashed_2 rfl rfl (Nat.le_of_ble_eq_true rfl) ⟨Nat.le_of_ble_eq_true rfl, Nat.le_of_ble_eq_true rfl⟩ ⟨Nat.le_of_ble_eq_true rfl, Nat.le_of_ble_eq_true rfl⟩ rfl (fun lay => ?_)
    refine j_aload_n 6 C dX5_ifCrashed_5 0 rfl rfl ?_
    refine j_iload_n 7 C dX5_ifCrashed_6 3 rfl rfl ?_
    rcases bx_e h with ⟨σ103, u104, hF, h⟩ | ⟨σ103, ex1, hF, h⟩
    · refine k_Vv 10 C K (c_X5_requireSlot K.2.2.2 g A lay  hF) cp_X5_requireSlot (rv_F) mw_581 dX5_ifCrashed_7 rfl rfl (Nat.le_of_ble_eq_true rfl) ⟨Nat.le_of_ble_eq_true rfl, Nat.le_of_ble_eq_true rfl⟩ ⟨Nat.le_of_ble_eq_true rfl, Nat.le_of_ble_eq_true rfl⟩ rfl (fun lay => ?_)
      refine j_iload_n 11 C dX5_ifCrashed_10 2 rfl rfl ?_
      rcases bx_e h with ⟨σ105, u106, hF, h⟩ | ⟨σ105, ex1, hF, h⟩
      · refine k_Sv 14 C K (c_X5_requireLost K.2.2.2 g A lay  hF) cp_X5_requireLost mw_785 dX5_ifCrashed_11 rfl rfl (Nat.le_of_ble_eq_true rfl) ⟨Nat.le_of_ble_eq_true rfl, Nat.le_of_ble_eq_true rfl⟩ ⟨Nat.le_of_ble_eq_true rfl, Nat.le_of_ble_eq_true rfl⟩ rfl (fun lay => ?_)
        refine j_aload_n 15 C dX5_ifCrashed_14 0 rfl rfl ?_
        refine j_aload_n 16 C dX5_ifCrashed_15 0 rfl rfl ?_
        refine g_F 19 C K 0 (by decide) mw_280 rfl dX5_ifCrashed_16 rfl ?_
        refine j_iload_n 20 C dX5_ifCrashed_19 1 rfl rfl ?_
        obtain ⟨hz107, h⟩ := gd_e h
        have hb108 : tn x1 < 7 := inb_lt hz107
        refine r_nodes 21 C K hz107 dX5_ifCrashed_20 rfl ?_
        refine j_iload_n 22 C dX5_ifCrashed_21 2 rfl rfl ?_
        refine j_iload_n 23 C dX5_ifCrashed_22 3 rfl rfl ?_
        obtain ⟨σ109, r110, hF, h⟩ := bd_e h
        refine k_Vi 26 C K (c_X5_holdersAfterLoss K.2.2.2 g A lay hb108 hF) cp_X5_holdersAfterLoss (rv_F) mw_917 dX5_ifCrashed_23 rfl rfl (Nat.le_of_ble_eq_true rfl) ⟨Nat.le_of_ble_eq_true rfl, Nat.le_of_ble_eq_true rfl⟩ ⟨Nat.le_of_ble_eq_true rfl, Nat.le_of_ble_eq_true rfl⟩ rfl (fun lay => ?_)
        cases h
      · cases h
        exact kx_Sv C K M hx (x_X5_requireLost K.2.2.2 g A lay  hF) cp_X5_requireLost mw_785 dX5_ifCrashed_11 rfl rfl (Nat.le_of_ble_eq_true rfl) ⟨Nat.le_of_ble_eq_true rfl, Nat.le_of_ble_eq_true rfl⟩ ⟨Nat.le_of_ble_eq_true rfl, Nat.le_of_ble_eq_true rfl⟩
    · cases h
      exact kx_Vv C K M hx (x_X5_requireSlot K.2.2.2 g A lay  hF) cp_X5_requireSlot (rv_F) mw_581 dX5_ifCrashed_7 rfl rfl (Nat.le_of_ble_eq_true rfl) ⟨Nat.le_of_ble_eq_true rfl, Nat.le_of_ble_eq_true rfl⟩ ⟨Nat.le_of_ble_eq_true rfl, Nat.le_of_ble_eq_true rfl⟩
  · cases h
    exact kx_Vv C K M hx (x_X5_requireNode K.2.2.2 g A lay  hF) cp_X5_requireNode (rv_F) mw_508 dX5_ifCrashed_2 rfl rfl (Nat.le_of_ble_eq_true rfl) ⟨Nat.le_of_ble_eq_true rfl, Nat.le_of_ble_eq_true rfl⟩ ⟨Nat.le_of_ble_eq_true rfl, Nat.le_of_ble_eq_true rfl⟩
theorem cp_X5_slotsThatNeed : CPv yX5_slotsThatNeed cX5_slotsThatNeed 5 (some .int) RX5 1 := ⟨mw_549, mw_19, mw_98, mw_550, rfl, by decide, by decide, by decide +kernel⟩
set_option maxHeartbeats 4000000 in
set_option maxRecDepth 100000 in
theorem wn_X5_slotsThatNeed_57 {l : Launch} {p : Program} {e : Env} {s : State} {m : MethodId} {args : Array Value} {below : List Frame} {meth : Method} {c : Code} {g : GG} {A : Nat → Prop} (C : KX p m c cX5_slotsThatNeed 5 s args RX5) (K : KC l g A s) (M : KM meth (some .int)) {σ' : CS} {r : Int32} {o1 : Nat} (ho1 : o1 < 7)  {self4 : CS → Int32 → Int32 → Option (CS × Int32)} (ih4 : ∀ (lay : Nat → Nat) (σ : CS) (v2 : Int32) (v3 : Int32), self4 σ v2 v3 = some (σ', r) → JJ p l e (rmk 3 67 0 0) s m args below meth c (MQ below (va_Qi (fun (r0 : Int32) (u : CS) => r0 = r ∧ u = σ') (BC (CH g A)) A) args s 0 0 A) A 5 (CH g A lay σ) 0 0 4 [(0, .ref (ga g 0)), (1, .ref (ga g (5 + o1))), (2, .int v2), (3, .int v3)] []) (lay : Nat → Nat) (σ : CS) (v2 : Int32) (v3 : Int32)  (h : B_X5_slotsThatNeed_57 o1 self4 σ v2 v3 = some (σ', r)) : JJ p l e (rmk 3 67 0 0) s m args below meth c (MQ below (va_Qi (fun (r0 : Int32) (u : CS) => r0 = r ∧ u = σ') (BC (CH g A)) A) args s 0 0 A) A 5 (CH g A lay σ) 0 0 57 [(0, .ref (ga g 0)), (1, .ref (ga g (5 + o1))), (2, .int v2), (3, .int v3)] [] := by
  unfold B_X5_slotsThatNeed_57 at h
  obtain ⟨x114, ex114⟩ : ∃ z : Int32, z = v3 + 1 := ⟨_, rfl⟩
  replace h := lt_e h x114 ex114
  refine j_iinc 60 C dX5_slotsThatNeed_57 3 rfl (v := x114) ((ii_1 _).trans ex114.symm) (lo' := [(3, .int x114), (0, .ref (ga g 0)), (1, .ref (ga g (5 + o1))), (2, .int v2)]) (by decide) rfl rfl ?_
  refine j_goto 4 C dX5_slotsThatNeed_60 (by decide) ?_
  refine j_sub [1, 2, 3, 0] (lo' := [(0, .ref (ga g 0)), (1, .ref (ga g (5 + o1))), (2, .int v2), (3, .int x114)]) rfl ?_
  exact ih4 lay σ v2 x114 h
set_option maxHeartbeats 4000000 in
set_option maxRecDepth 100000 in
theorem wn_X5_slotsThatNeed_4 {l : Launch} {p : Program} {e : Env} {s : State} {m : MethodId} {args : Array Value} {below : List Frame} {meth : Method} {c : Code} {g : GG} {A : Nat → Prop} (C : KX p m c cX5_slotsThatNeed 5 s args RX5) (K : KC l g A s) (M : KM meth (some .int)) {σ' : CS} {r : Int32} {o1 : Nat} (ho1 : o1 < 7)    : ∀ (fu : Nat) (lay : Nat → Nat) (σ : CS) (v2 : Int32) (v3 : Int32), B_X5_slotsThatNeed_4 o1 fu σ v2 v3 = some (σ', r) → JJ p l e (rmk 3 67 0 0) s m args below meth c (MQ below (va_Qi (fun (r0 : Int32) (u : CS) => r0 = r ∧ u = σ') (BC (CH g A)) A) args s 0 0 A) A 5 (CH g A lay σ) 0 0 4 [(0, .ref (ga g 0)), (1, .ref (ga g (5 + o1))), (2, .int v2), (3, .int v3)] [] := by
  intro fu
  induction fu with
  | zero =>
    intro lay σ v2 v3 h
    exact nomatch (show (none : Option _) = some _ from h)
  | succ fu ih4 =>
    intro lay σ v2 v3 h
    unfold B_X5_slotsThatNeed_4 at h
    rw [lo3_s] at h
    refine j_iload_n 5 C dX5_slotsThatNeed_4 3 rfl rfl ?_
    refine j_aload_n 6 C dX5_slotsThatNeed_5 0 rfl rfl ?_
    refine g_F 9 C K 7 (by decide) mw_287 rfl dX5_slotsThatNeed_6 rfl ?_
    refine j_icmp_ge 12 63 C dX5_slotsThatNeed_9 (by decide) rfl (fun hc101 => ?_) (fun hc101 => ?_)
    · replace h := it_t hc101 h
      refine j_iload_n 64 C dX5_slotsThatNeed_63 2 rfl rfl ?_
      cases h
      exact x_i C M dX5_slotsThatNeed_64
    · replace h := it_f hc101 h
      refine j_aload_n 13 C dX5_slotsThatNeed_12 0 rfl rfl ?_
      refine j_iload_n 14 C dX5_slotsThatNeed_13 3 rfl rfl ?_
      obtain ⟨σ102, r103, hF, h⟩ := bd_e h
      refine k_Vi 17 C K (c_X5_holders K.2.2.2 g A lay  hF) cp_X5_holders (rv_F) mw_551 dX5_slotsThatNeed_14 rfl rfl (Nat.le_of_ble_eq_true rfl) ⟨Nat.le_of_ble_eq_true rfl, Nat.le_of_ble_eq_true rfl⟩ ⟨Nat.le_of_ble_eq_true rfl, Nat.le_of_ble_eq_true rfl⟩ rfl (fun lay => ?_)
      refine j_istore 19 C dX5_slotsThatNeed_17 (lo' := [(4, .int r103), (0, .ref (ga g 0)), (1, .ref (ga g (5 + o1))), (2, .int v2), (3, .int v3)]) (by decide) rfl rfl ?_
      refine j_aload_n 20 C dX5_slotsThatNeed_19 1 rfl rfl ?_
      refine j_aload_n 21 C dX5_slotsThatNeed_20 2 rfl rfl ?_
      refine g_N 24 C K ho1 2 (by decide) mw_222 rfl dX5_slotsThatNeed_21 rfl ?_
      refine j_iload_n 25 C dX5_slotsThatNeed_24 4 rfl rfl ?_
      obtain ⟨σ104, r105, hF, h⟩ := bd_e h
      refine k_Vi 28 C K (c_X5_holds K.2.2.2 g A lay (by omega) hF) cp_X5_holds (rv_F) mw_394 dX5_slotsThatNeed_25 rfl rfl (Nat.le_of_ble_eq_true rfl) ⟨Nat.le_of_ble_eq_true rfl, Nat.le_of_ble_eq_true rfl⟩ ⟨Nat.le_of_ble_eq_true rfl, Nat.le_of_ble_eq_true rfl⟩ rfl (fun lay => ?_)
      refine j_if_eq 31 57 C dX5_slotsThatNeed_28 (by decide) rfl (fun hc106 => ?_) (fun hc106 => ?_)
      · replace h := it_t hc106 h
        refine j_sub [1, 2, 3, 4] (lo' := [(0, .ref (ga g 0)), (1, .ref (ga g (5 + o1))), (2, .int v2), (3, .int v3)]) rfl ?_
        exact wn_X5_slotsThatNeed_57 C K M ho1 ih4 lay σ104 v2 v3 h
      · replace h := it_f hc106 h
        refine j_aload_n 32 C dX5_slotsThatNeed_31 1 rfl rfl ?_
        refine j_iload 34 C dX5_slotsThatNeed_32 0 rfl rfl ?_
        obtain ⟨σ107, r108, hF, h⟩ := bd_e h
        refine k_Vi 37 C K (c_X5_areEnough K.2.2.2 g A lay  hF) cp_X5_areEnough (rv_F) mw_555 dX5_slotsThatNeed_34 rfl rfl (Nat.le_of_ble_eq_true rfl) ⟨Nat.le_of_ble_eq_true rfl, Nat.le_of_ble_eq_true rfl⟩ ⟨Nat.le_of_ble_eq_true rfl, Nat.le_of_ble_eq_true rfl⟩ rfl (fun lay => ?_)
        refine j_if_eq 40 57 C dX5_slotsThatNeed_37 (by decide) rfl (fun hc109 => ?_) (fun hc109 => ?_)
        · replace h := it_t hc109 h
          refine j_sub [1, 2, 3, 4] (lo' := [(0, .ref (ga g 0)), (1, .ref (ga g (5 + o1))), (2, .int v2), (3, .int v3)]) rfl ?_
          exact wn_X5_slotsThatNeed_57 C K M ho1 ih4 lay σ107 v2 v3 h
        · replace h := it_f hc109 h
          refine j_aload_n 41 C dX5_slotsThatNeed_40 1 rfl rfl ?_
          refine j_iload 43 C dX5_slotsThatNeed_41 0 rfl rfl ?_
          refine j_iconst 44 C dX5_slotsThatNeed_43 ic_1 rfl ?_
          refine j_isub 45 C dX5_slotsThatNeed_44 rfl ?_
          obtain ⟨σ110, r111, hF, h⟩ := bd_e h
          refine k_Vi 48 C K (c_X5_areEnough K.2.2.2 g A lay  hF) cp_X5_areEnough (rv_F) mw_555 dX5_slotsThatNeed_45 rfl rfl (Nat.le_of_ble_eq_true rfl) ⟨Nat.le_of_ble_eq_true rfl, Nat.le_of_ble_eq_true rfl⟩ ⟨Nat.le_of_ble_eq_true rfl, Nat.le_of_ble_eq_true rfl⟩ rfl (fun lay => ?_)
          refine j_if_ne 51 57 C dX5_slotsThatNeed_48 (by decide) rfl (fun hc112 => ?_) (fun hc112 => ?_)
          · replace h := it_f hc112 h
            refine j_sub [1, 2, 3, 4] (lo' := [(0, .ref (ga g 0)), (1, .ref (ga g (5 + o1))), (2, .int v2), (3, .int v3)]) rfl ?_
            exact wn_X5_slotsThatNeed_57 C K M ho1 ih4 lay σ110 v2 v3 h
          · replace h := it_t hc112 h
            refine j_iload_n 52 C dX5_slotsThatNeed_51 3 rfl rfl ?_
            refine j_iconst 53 C dX5_slotsThatNeed_52 ic_1 rfl ?_
            refine j_iload_n 54 C dX5_slotsThatNeed_53 4 rfl rfl ?_
            refine j_ishl 55 C dX5_slotsThatNeed_54 rfl ?_
            refine j_ior 56 C dX5_slotsThatNeed_55 rfl ?_
            refine j_topi (fun x113 ex113 => ?_)
            replace h := lt_e h x113 ex113
            refine j_istore_n 57 C dX5_slotsThatNeed_56 (lo' := [(2, .int x113), (4, .int r103), (0, .ref (ga g 0)), (1, .ref (ga g (5 + o1))), (3, .int v3)]) (by decide) rfl rfl ?_
            refine j_sub [2, 3, 0, 4] (lo' := [(0, .ref (ga g 0)), (1, .ref (ga g (5 + o1))), (2, .int x113), (3, .int v3)]) rfl ?_
            exact wn_X5_slotsThatNeed_57 C K M ho1 ih4 lay σ110 x113 v3 h
set_option maxHeartbeats 4000000 in
set_option maxRecDepth 100000 in
theorem c_X5_slotsThatNeed {l : Launch} (hst : l.stackTraces = false) (g : GG) (A : Nat → Prop) (lay : Nat → Nat) {σ : CS} {σ' : CS} {r : Int32} {o1 : Nat} (ho1 : o1 < 7) (h : F_X5_slotsThatNeed σ o1 = some (σ', r)) : MI l yX5_slotsThatNeed cX5_slotsThatNeed 5 .int 3 67 0 0 [.ref (ga g 0), .ref (ga g (5 + o1))] (CH g A) g A lay σ σ' r := by
  unfold F_X5_slotsThatNeed at h
  refine e_i (own := RX5) (lo := [(0, .ref (ga g 0)), (1, .ref (ga g (5 + o1)))]) hst (plainFor_of_name (by decide)) rfl rfl (Nat.le_of_ble_eq_true rfl) ?_
  intro p e s m args below meth c C K M
  refine j_iconst 1 C dX5_slotsThatNeed_0 ic_0 rfl ?_
  refine j_istore_n 2 C dX5_slotsThatNeed_1 (lo' := [(2, .int (0 : Int32)), (0, .ref (ga g 0)), (1, .ref (ga g (5 + o1)))]) (by decide) rfl rfl ?_
  refine j_iconst 3 C dX5_slotsThatNeed_2 ic_0 rfl ?_
  refine j_istore_n 4 C dX5_slotsThatNeed_3 (lo' := [(3, .int (0 : Int32)), (2, .int (0 : Int32)), (0, .ref (ga g 0)), (1, .ref (ga g (5 + o1)))]) (by decide) rfl rfl ?_
  refine j_sub [2, 3, 1, 0] (lo' := [(0, .ref (ga g 0)), (1, .ref (ga g (5 + o1))), (2, .int (0 : Int32)), (3, .int (0 : Int32))]) rfl ?_
  exact wn_X5_slotsThatNeed_4 C K M ho1 4096 lay σ (0 : Int32) (0 : Int32) h
theorem cp_X5_holdsAll : CPv yX5_holdsAll cX5_holdsAll 4 (some .boolean) RX5 2 := ⟨mw_568, mw_22, mw_98, mw_569, rfl, by decide, by decide, by decide +kernel⟩
set_option maxHeartbeats 4000000 in
set_option maxRecDepth 100000 in
theorem wn_X5_holdsAll_29 {l : Launch} {p : Program} {e : Env} {s : State} {m : MethodId} {args : Array Value} {below : List Frame} {meth : Method} {c : Code} {g : GG} {A : Nat → Prop} (C : KX p m c cX5_holdsAll 4 s args RX5) (K : KC l g A s) (M : KM meth (some .boolean)) {σ' : CS} {r : Int32} {o1 : Nat} {x2 : Int32} (ho1 : o1 < 15)  {self2 : CS → Int32 → Option (CS × Int32)} (ih2 : ∀ (lay : Nat → Nat) (σ : CS) (v3 : Int32), self2 σ v3 = some (σ', r) → JJ p l e (rmk 2 44 0 0) s m args below meth c (MQ below (va_Qi (fun (r0 : Int32) (u : CS) => r0 = r ∧ u = σ') (BC (CH g A)) A) args s 0 0 A) A 4 (CH g A lay σ) 0 0 2 [(0, .ref (ga g 0)), (1, .ref (ga g (26 + o1))), (2, .int x2), (3, .int v3)] []) (lay : Nat → Nat) (σ : CS) (v3 : Int32)  (h : B_X5_holdsAll_29 o1 x2 self2 σ v3 = some (σ', r)) : JJ p l e (rmk 2 44 0 0) s m args below meth c (MQ below (va_Qi (fun (r0 : Int32) (u : CS) => r0 = r ∧ u = σ') (BC (CH g A)) A) args s 0 0 A) A 4 (CH g A lay σ) 0 0 29 [(0, .ref (ga g 0)), (1, .ref (ga g (26 + o1))), (2, .int x2), (3, .int v3)] [] := by
  unfold B_X5_holdsAll_29 at h
  obtain ⟨x108, ex108⟩ : ∃ z : Int32, z = v3 + 1 := ⟨_, rfl⟩
  replace h := lt_e h x108 ex108
  refine j_iinc 32 C dX5_holdsAll_29 3 rfl (v := x108) ((ii_1 _).trans ex108.symm) (lo' := [(3, .int x108), (0, .ref (ga g 0)), (1, .ref (ga g (26 + o1))), (2, .int x2)]) (by decide) rfl rfl ?_
  refine j_goto 2 C dX5_holdsAll_32 (by decide) ?_
  refine j_sub [1, 2, 3, 0] (lo' := [(0, .ref (ga g 0)), (1, .ref (ga g (26 + o1))), (2, .int x2), (3, .int x108)]) rfl ?_
  exact ih2 lay σ x108 h
set_option maxHeartbeats 4000000 in
set_option maxRecDepth 100000 in
theorem wn_X5_holdsAll_2 {l : Launch} {p : Program} {e : Env} {s : State} {m : MethodId} {args : Array Value} {below : List Frame} {meth : Method} {c : Code} {g : GG} {A : Nat → Prop} (C : KX p m c cX5_holdsAll 4 s args RX5) (K : KC l g A s) (M : KM meth (some .boolean)) {σ' : CS} {r : Int32} {o1 : Nat} {x2 : Int32} (ho1 : o1 < 15)    : ∀ (fu : Nat) (lay : Nat → Nat) (σ : CS) (v3 : Int32), B_X5_holdsAll_2 o1 x2 fu σ v3 = some (σ', r) → JJ p l e (rmk 2 44 0 0) s m args below meth c (MQ below (va_Qi (fun (r0 : Int32) (u : CS) => r0 = r ∧ u = σ') (BC (CH g A)) A) args s 0 0 A) A 4 (CH g A lay σ) 0 0 2 [(0, .ref (ga g 0)), (1, .ref (ga g (26 + o1))), (2, .int x2), (3, .int v3)] [] := by
  intro fu
  induction fu with
  | zero =>
    intro lay σ v3 h
    exact nomatch (show (none : Option _) = some _ from h)
  | succ fu ih2 =>
    intro lay σ v3 h
    unfold B_X5_holdsAll_2 at h
    rw [lo2_s] at h
    refine j_iload_n 3 C dX5_holdsAll_2 3 rfl rfl ?_
    refine j_aload_n 4 C dX5_holdsAll_3 0 rfl rfl ?_
    refine g_F 7 C K 7 (by decide) mw_287 rfl dX5_holdsAll_4 rfl ?_
    refine j_icmp_ge 10 35 C dX5_holdsAll_7 (by decide) rfl (fun hc101 => ?_) (fun hc101 => ?_)
    · replace h := it_t hc101 h
      refine j_iconst 36 C dX5_holdsAll_35 ic_1 rfl ?_
      cases h
      exact x_z C M dX5_holdsAll_36 (by decide)
    · replace h := it_f hc101 h
      refine j_iload_n 11 C dX5_holdsAll_10 2 rfl rfl ?_
      refine j_iload_n 12 C dX5_holdsAll_11 3 rfl rfl ?_
      obtain ⟨σ102, r103, hF, h⟩ := bd_e h
      refine k_Si 15 C K (c_X5_isIn K.2.2.2 g A lay  hF) cp_X5_isIn mw_570 dX5_holdsAll_12 rfl rfl (Nat.le_of_ble_eq_true rfl) ⟨Nat.le_of_ble_eq_true rfl, Nat.le_of_ble_eq_true rfl⟩ ⟨Nat.le_of_ble_eq_true rfl, Nat.le_of_ble_eq_true rfl⟩ rfl (fun lay => ?_)
      refine j_if_eq 18 29 C dX5_holdsAll_15 (by decide) rfl (fun hc104 => ?_) (fun hc104 => ?_)
      · replace h := it_t hc104 h
        exact wn_X5_holdsAll_29 C K M ho1 ih2 lay σ102 v3 h
      · replace h := it_f hc104 h
        refine j_aload_n 19 C dX5_holdsAll_18 0 rfl rfl ?_
        refine j_aload_n 20 C dX5_holdsAll_19 1 rfl rfl ?_
        refine j_iload_n 21 C dX5_holdsAll_20 3 rfl rfl ?_
        obtain ⟨σ105, r106, hF, h⟩ := bd_e h
        refine k_Vi 24 C K (c_X5_holds K.2.2.2 g A lay ho1 hF) cp_X5_holds (rv_F) mw_394 dX5_holdsAll_21 rfl rfl (Nat.le_of_ble_eq_true rfl) ⟨Nat.le_of_ble_eq_true rfl, Nat.le_of_ble_eq_true rfl⟩ ⟨Nat.le_of_ble_eq_true rfl, Nat.le_of_ble_eq_true rfl⟩ rfl (fun lay => ?_)
        refine j_if_ne 27 29 C dX5_holdsAll_24 (by decide) rfl (fun hc107 => ?_) (fun hc107 => ?_)
        · replace h := it_f hc107 h
          exact wn_X5_holdsAll_29 C K M ho1 ih2 lay σ105 v3 h
        · replace h := it_t hc107 h
          refine j_iconst 28 C dX5_holdsAll_27 ic_0 rfl ?_
          cases h
          exact x_z C M dX5_holdsAll_28 (by decide)
set_option maxHeartbeats 4000000 in
set_option maxRecDepth 100000 in
theorem c_X5_holdsAll {l : Launch} (hst : l.stackTraces = false) (g : GG) (A : Nat → Prop) (lay : Nat → Nat) {σ : CS} {σ' : CS} {r : Int32} {o1 : Nat} {x2 : Int32} (ho1 : o1 < 15) (h : F_X5_holdsAll σ o1 x2 = some (σ', r)) : MI l yX5_holdsAll cX5_holdsAll 4 .boolean 2 44 0 0 [.ref (ga g 0), .ref (ga g (26 + o1)), .int x2] (CH g A) g A lay σ σ' r := by
  unfold F_X5_holdsAll at h
  refine e_i (own := RX5) (lo := [(0, .ref (ga g 0)), (1, .ref (ga g (26 + o1))), (2, .int x2)]) hst (plainFor_of_name (by decide)) rfl rfl (Nat.le_of_ble_eq_true rfl) ?_
  intro p e s m args below meth c C K M
  refine j_iconst 1 C dX5_holdsAll_0 ic_0 rfl ?_
  refine j_istore_n 2 C dX5_holdsAll_1 (lo' := [(3, .int (0 : Int32)), (0, .ref (ga g 0)), (1, .ref (ga g (26 + o1))), (2, .int x2)]) (by decide) rfl rfl ?_
  refine j_sub [1, 2, 3, 0] (lo' := [(0, .ref (ga g 0)), (1, .ref (ga g (26 + o1))), (2, .int x2), (3, .int (0 : Int32))]) rfl ?_
  exact wn_X5_holdsAll_2 C K M ho1 4096 lay σ (0 : Int32) h
theorem cp_X5_mostHarmlessLosses : CPv yX5_mostHarmlessLosses cX5_mostHarmlessLosses 5 (some .int) RX5 1 := ⟨mw_545, mw_18, mw_98, mw_546, rfl, by decide, by decide, by decide +kernel⟩
set_option maxHeartbeats 4000000 in
set_option maxRecDepth 100000 in
theorem wn_X5_mostHarmlessLosses_25 {l : Launch} {p : Program} {e : Env} {s : State} {m : MethodId} {args : Array Value} {below : List Frame} {meth : Method} {c : Code} {g : GG} {A : Nat → Prop} (C : KX p m c cX5_mostHarmlessLosses 5 s args RX5) (K : KC l g A s) (M : KM meth (some .int)) {σ' : CS} {r : Int32} {o1 : Nat} (ho1 : o1 < 7)    : ∀ (fu : Nat) (lay : Nat → Nat) (σ : CS) (v2 : Int32) (v3 : Nat) (v4 : Int32), v3 < 7 → B_X5_mostHarmlessLosses_25 o1 fu σ v2 v3 v4 = some (σ', r) → JJ p l e (rmk 4 91 0 0) s m args below meth c (MQ below (va_Qi (fun (r0 : Int32) (u : CS) => r0 = r ∧ u = σ') (BC (CH g A)) A) args s 0 0 A) A 5 (CH g A lay σ) 0 0 25 [(0, .ref (ga g 0)), (2, .int v2), (3, .ref (ga g (12 + v3))), (4, .int v4)] [] := by
  intro fu
  induction fu with
  | zero =>
    intro lay σ v2 v3 v4 hv3 h
    exact nomatch (show (none : Option _) = some _ from h)
  | succ fu ih25 =>
    intro lay σ v2 v3 v4 hv3 h
    unfold B_X5_mostHarmlessLosses_25 at h
    rw [lo4_s] at h
    refine j_iload 27 C dX5_mostHarmlessLosses_25 3 rfl rfl ?_
    refine j_aload_n 28 C dX5_mostHarmlessLosses_27 2 rfl rfl ?_
    refine g_W 31 C K hv3 3 (by decide) mw_208 rfl dX5_mostHarmlessLosses_28 rfl ?_
    refine j_icmp_ge 34 88 C dX5_mostHarmlessLosses_31 (by decide) rfl (fun hc105 => ?_) (fun hc105 => ?_)
    · replace h := it_t hc105 h
      refine j_iconst 89 C dX5_mostHarmlessLosses_88 ic_0 rfl ?_
      cases h
      exact x_i C M dX5_mostHarmlessLosses_89
    · replace h := it_f hc105 h
      refine j_aload_n 35 C dX5_mostHarmlessLosses_34 0 rfl rfl ?_
      refine j_aload_n 36 C dX5_mostHarmlessLosses_35 0 rfl rfl ?_
      refine g_F 39 C K 2 (by decide) mw_282 rfl dX5_mostHarmlessLosses_36 rfl ?_
      refine j_iload_n 40 C dX5_mostHarmlessLosses_39 1 rfl rfl ?_
      obtain ⟨σ106, r107, hF, h⟩ := bd_e h
      refine k_Vi 43 C K (c_X5_holdsAll K.2.2.2 g A lay (by omega) hF) cp_X5_holdsAll (rv_F) mw_566 dX5_mostHarmlessLosses_40 rfl rfl (Nat.le_of_ble_eq_true rfl) ⟨Nat.le_of_ble_eq_true rfl, Nat.le_of_ble_eq_true rfl⟩ ⟨Nat.le_of_ble_eq_true rfl, Nat.le_of_ble_eq_true rfl⟩ rfl (fun lay => ?_)
      refine j_if_eq 46 54 C dX5_mostHarmlessLosses_43 (by decide) rfl (fun hc108 => ?_) (fun hc108 => ?_)
      · replace h := it_t hc108 h
        refine j_aload_n 55 C dX5_mostHarmlessLosses_54 0 rfl rfl ?_
        refine g_F 58 C K 2 (by decide) mw_282 rfl dX5_mostHarmlessLosses_55 rfl ?_
        refine j_aload_n 59 C dX5_mostHarmlessLosses_58 2 rfl rfl ?_
        refine g_W 62 C K hv3 0 (by decide) mw_201 rfl dX5_mostHarmlessLosses_59 rfl ?_
        refine j_iload 64 C dX5_mostHarmlessLosses_62 3 rfl rfl ?_
        obtain ⟨hz109, h⟩ := gd_e h
        refine r_ild 65 C K (ar_1 _ hv3) (ca_1 _ _ hv3) hz109 dX5_mostHarmlessLosses_64 rfl ?_
        refine j_aload_n 66 C dX5_mostHarmlessLosses_65 2 rfl rfl ?_
        refine g_W 69 C K hv3 1 (by decide) mw_203 rfl dX5_mostHarmlessLosses_66 rfl ?_
        refine j_iload 71 C dX5_mostHarmlessLosses_69 3 rfl rfl ?_
        obtain ⟨hz110, h⟩ := gd_e h
        refine r_ild 72 C K (ar_2 _ hv3) (ca_2 _ _ hv3) hz110 dX5_mostHarmlessLosses_71 rfl ?_
        refine j_aload_n 73 C dX5_mostHarmlessLosses_72 2 rfl rfl ?_
        refine g_W 76 C K hv3 2 (by decide) mw_205 rfl dX5_mostHarmlessLosses_73 rfl ?_
        refine j_iload 78 C dX5_mostHarmlessLosses_76 3 rfl rfl ?_
        obtain ⟨hz111, h⟩ := gd_e h
        refine r_ild 79 C K (ar_3 _ hv3) (ca_3 _ _ hv3) hz111 dX5_mostHarmlessLosses_78 rfl ?_
        obtain ⟨σ112, u113, hF, h⟩ := bd_e h
        refine k_Vv 82 C K (c_X1_carryOut K.2.2.2 g A lay (by omega) hF) cp_X1_carryOut (rv_D (by omega)) mw_573 dX5_mostHarmlessLosses_79 rfl rfl (Nat.le_of_ble_eq_true rfl) ⟨Nat.le_of_ble_eq_true rfl, Nat.le_of_ble_eq_true rfl⟩ ⟨Nat.le_of_ble_eq_true rfl, Nat.le_of_ble_eq_true rfl⟩ rfl (fun lay => ?_)
        obtain ⟨x114, ex114⟩ : ∃ z : Int32, z = v4 + 1 := ⟨_, rfl⟩
        replace h := lt_e h x114 ex114
        refine j_iinc 85 C dX5_mostHarmlessLosses_82 3 rfl (v := x114) ((ii_1 _).trans ex114.symm) (lo' := [(4, .int x114), (0, .ref (ga g 0)), (2, .int v2), (3, .ref (ga g (12 + v3)))]) (by decide) rfl rfl ?_
        refine j_goto 25 C dX5_mostHarmlessLosses_85 (by decide) ?_
        refine j_sub [1, 2, 3, 0] (lo' := [(0, .ref (ga g 0)), (2, .int v2), (3, .ref (ga g (12 + v3))), (4, .int x114)]) rfl ?_
        exact ih25 lay σ112 v2 v3 x114 hv3 h
      · replace h := it_f hc108 h
        refine j_aload_n 47 C dX5_mostHarmlessLosses_46 2 rfl rfl ?_
        refine g_W 50 C K hv3 3 (by decide) mw_208 rfl dX5_mostHarmlessLosses_47 rfl ?_
        refine j_iload 52 C dX5_mostHarmlessLosses_50 3 rfl rfl ?_
        refine j_isub 53 C dX5_mostHarmlessLosses_52 rfl ?_
        cases h
        exact x_i C M dX5_mostHarmlessLosses_53
set_option maxHeartbeats 4000000 in
set_option maxRecDepth 100000 in
theorem c_X5_mostHarmlessLosses {l : Launch} (hst : l.stackTraces = false) (g : GG) (A : Nat → Prop) (lay : Nat → Nat) {σ : CS} {σ' : CS} {r : Int32} {o1 : Nat} (ho1 : o1 < 7) (h : F_X5_mostHarmlessLosses σ o1 = some (σ', r)) : MI l yX5_mostHarmlessLosses cX5_mostHarmlessLosses 5 .int 4 91 0 0 [.ref (ga g 0), .ref (ga g (5 + o1))] (CH g A) g A lay σ σ' r := by
  unfold F_X5_mostHarmlessLosses at h
  refine e_i (own := RX5) (lo := [(0, .ref (ga g 0)), (1, .ref (ga g (5 + o1)))]) hst (plainFor_of_name (by decide)) rfl rfl (Nat.le_of_ble_eq_true rfl) ?_
  intro p e s m args below meth c C K M
  refine j_aload_n 1 C dX5_mostHarmlessLosses_0 0 rfl rfl ?_
  refine j_aload_n 2 C dX5_mostHarmlessLosses_1 1 rfl rfl ?_
  obtain ⟨σ101, r102, hF, h⟩ := bd_e h
  refine k_Vi 5 C K (c_X5_slotsThatNeed K.2.2.2 g A lay ho1 hF) cp_X5_slotsThatNeed (rv_F) mw_547 dX5_mostHarmlessLosses_2 rfl rfl (Nat.le_of_ble_eq_true rfl) ⟨Nat.le_of_ble_eq_true rfl, Nat.le_of_ble_eq_true rfl⟩ ⟨Nat.le_of_ble_eq_true rfl, Nat.le_of_ble_eq_true rfl⟩ rfl (fun lay => ?_)
  refine j_istore_n 6 C dX5_mostHarmlessLosses_5 (lo' := [(2, .int r102), (0, .ref (ga g 0)), (1, .ref (ga g (5 + o1)))]) (by decide) rfl rfl ?_
  refine j_aload_n 7 C dX5_mostHarmlessLosses_6 2 rfl rfl ?_
  refine g_N 10 C K ho1 3 (by decide) mw_224 rfl dX5_mostHarmlessLosses_7 rfl ?_
  refine j_astore_n 11 C dX5_mostHarmlessLosses_10 (lo' := [(3, .ref (ga g (12 + o1))), (2, .int r102), (0, .ref (ga g 0)), (1, .ref (ga g (5 + o1)))]) (by decide) rfl rfl ?_
  refine j_aload_n 12 C dX5_mostHarmlessLosses_11 2 rfl rfl ?_
  refine g_F 15 C K 2 (by decide) mw_282 rfl dX5_mostHarmlessLosses_12 rfl ?_
  refine j_aload_n 16 C dX5_mostHarmlessLosses_15 3 rfl rfl ?_
  refine g_N 19 C K ho1 1 (by decide) mw_220 rfl dX5_mostHarmlessLosses_16 rfl ?_
  obtain ⟨σ103, u104, hF, h⟩ := bd_e h
  refine k_Vv 22 C K (c_X1_copyFrom K.2.2.2 g A lay (by omega) (by omega) hF) cp_X1_copyFrom (rv_D (by omega)) mw_559 dX5_mostHarmlessLosses_19 rfl rfl (Nat.le_of_ble_eq_true rfl) ⟨Nat.le_of_ble_eq_true rfl, Nat.le_of_ble_eq_true rfl⟩ ⟨Nat.le_of_ble_eq_true rfl, Nat.le_of_ble_eq_true rfl⟩ rfl (fun lay => ?_)
  refine j_iconst 23 C dX5_mostHarmlessLosses_22 ic_0 rfl ?_
  refine j_istore 25 C dX5_mostHarmlessLosses_23 (lo' := [(4, .int (0 : Int32)), (3, .ref (ga g (12 + o1))), (2, .int r102), (0, .ref (ga g 0)), (1, .ref (ga g (5 + o1)))]) (by decide) rfl rfl ?_
  refine j_sub [3, 2, 1, 0] (lo' := [(0, .ref (ga g 0)), (2, .int r102), (3, .ref (ga g (12 + o1))), (4, .int (0 : Int32))]) rfl ?_
  exact wn_X5_mostHarmlessLosses_25 C K M ho1 4096 lay σ103 r102 o1 (0 : Int32) ho1 h
theorem cp_X5_harmless : CPv yX5_harmless cX5_harmless 2 (some .int) RX5 1 := ⟨mw_927, mw_928, mw_98, mw_929, rfl, by decide, by decide, by decide +kernel⟩
set_option maxHeartbeats 4000000 in
set_option maxRecDepth 100000 in
theorem c_X5_harmless {l : Launch} (hst : l.stackTraces = false) (g : GG) (A : Nat → Prop) (lay : Nat → Nat) {σ : CS} {σ' : CS} {r : Int32} {x1 : Int32}  (h : F_X5_harmless σ x1 = some (σ', .inl r)) : MI l yX5_harmless cX5_harmless 2 .int 7 115 0 0 [.ref (ga g 0), .int x1] (CH g A) g A lay σ σ' r := by
  unfold F_X5_harmless at h
  refine e_i (own := RX5) (lo := [(0, .ref (ga g 0)), (1, .int x1)]) hst (plainFor_of_name (by decide)) rfl rfl (Nat.le_of_ble_eq_true rfl) ?_
  intro p e s m args below meth c C K M
  refine j_aload_n 1 C dX5_harmless_0 0 rfl rfl ?_
  refine j_iload_n 2 C dX5_harmless_1 1 rfl rfl ?_
  rcases bx_e h with ⟨σ101, u102, hF, h⟩ | ⟨σ101, ex1, hF, h⟩
  · refine k_Vv 5 C K (c_X5_requireNode K.2.2.2 g A lay  hF) cp_X5_requireNode (rv_F) mw_508 dX5_harmless_2 rfl rfl (Nat.le_of_ble_eq_true rfl) ⟨Nat.le_of_ble_eq_true rfl, Nat.le_of_ble_eq_true rfl⟩ ⟨Nat.le_of_ble_eq_true rfl, Nat.le_of_ble_eq_true rfl⟩ rfl (fun lay => ?_)
    refine j_aload_n 6 C dX5_harmless_5 0 rfl rfl ?_
    refine j_aload_n 7 C dX5_harmless_6 0 rfl rfl ?_
    refine g_F 10 C K 0 (by decide) mw_280 rfl dX5_harmless_7 rfl ?_
    refine j_iload_n 11 C dX5_harmless_10 1 rfl rfl ?_
    obtain ⟨hz103, h⟩ := gd_e h
    have hb104 : tn x1 < 7 := inb_lt hz103
    refine r_nodes 12 C K hz103 dX5_harmless_11 rfl ?_
    obtain ⟨σ105, r106, hF, h⟩ := bd_e h
    refine k_Vi 15 C K (c_X5_mostHarmlessLosses K.2.2.2 g A lay hb104 hF) cp_X5_mostHarmlessLosses (rv_F) mw_543 dX5_harmless_12 rfl rfl (Nat.le_of_ble_eq_true rfl) ⟨Nat.le_of_ble_eq_true rfl, Nat.le_of_ble_eq_true rfl⟩ ⟨Nat.le_of_ble_eq_true rfl, Nat.le_of_ble_eq_true rfl⟩ rfl (fun lay => ?_)
    cases h
    exact x_i C M dX5_harmless_15
  · cases h
set_option maxHeartbeats 4000000 in
set_option maxRecDepth 100000 in
theorem x_X5_harmless {l : Launch} (hst : l.stackTraces = false) (g : GG) (A : Nat → Prop) (lay : Nat → Nat) {σ : CS} {σ' : CS} {ex : Nat} {x1 : Int32}  (h : F_X5_harmless σ x1 = some (σ', .inr ex)) : XI l yX5_harmless cX5_harmless 2 .int 7 115 [.ref (ga g 0), .int x1] (CH g A) g A lay σ σ' ex := by
  unfold F_X5_harmless at h
  refine ex_i (own := RX5) (lo := [(0, .ref (ga g 0)), (1, .int x1)]) hst (by decide) rfl rfl (Nat.le_of_ble_eq_true rfl) ?_
  intro p e s m args below meth c C K M hx
  refine j_aload_n 1 C dX5_harmless_0 0 rfl rfl ?_
  refine j_iload_n 2 C dX5_harmless_1 1 rfl rfl ?_
  rcases bx_e h with ⟨σ101, u102, hF, h⟩ | ⟨σ101, ex1, hF, h⟩
  · refine k_Vv 5 C K (c_X5_requireNode K.2.2.2 g A lay  hF) cp_X5_requireNode (rv_F) mw_508 dX5_harmless_2 rfl rfl (Nat.le_of_ble_eq_true rfl) ⟨Nat.le_of_ble_eq_true rfl, Nat.le_of_ble_eq_true rfl⟩ ⟨Nat.le_of_ble_eq_true rfl, Nat.le_of_ble_eq_true rfl⟩ rfl (fun lay => ?_)
    refine j_aload_n 6 C dX5_harmless_5 0 rfl rfl ?_
    refine j_aload_n 7 C dX5_harmless_6 0 rfl rfl ?_
    refine g_F 10 C K 0 (by decide) mw_280 rfl dX5_harmless_7 rfl ?_
    refine j_iload_n 11 C dX5_harmless_10 1 rfl rfl ?_
    obtain ⟨hz103, h⟩ := gd_e h
    have hb104 : tn x1 < 7 := inb_lt hz103
    refine r_nodes 12 C K hz103 dX5_harmless_11 rfl ?_
    obtain ⟨σ105, r106, hF, h⟩ := bd_e h
    refine k_Vi 15 C K (c_X5_mostHarmlessLosses K.2.2.2 g A lay hb104 hF) cp_X5_mostHarmlessLosses (rv_F) mw_543 dX5_harmless_12 rfl rfl (Nat.le_of_ble_eq_true rfl) ⟨Nat.le_of_ble_eq_true rfl, Nat.le_of_ble_eq_true rfl⟩ ⟨Nat.le_of_ble_eq_true rfl, Nat.le_of_ble_eq_true rfl⟩ rfl (fun lay => ?_)
    cases h
  · cases h
    exact kx_Vv C K M hx (x_X5_requireNode K.2.2.2 g A lay  hF) cp_X5_requireNode (rv_F) mw_508 dX5_harmless_2 rfl rfl (Nat.le_of_ble_eq_true rfl) ⟨Nat.le_of_ble_eq_true rfl, Nat.le_of_ble_eq_true rfl⟩ ⟨Nat.le_of_ble_eq_true rfl, Nat.le_of_ble_eq_true rfl⟩
theorem cp_X5_fewestLosers : CPv yX5_fewestLosers cX5_fewestLosers 5 (some .int) RX5 1 := ⟨mw_940, mw_41, mw_98, mw_941, rfl, by decide, by decide, by decide +kernel⟩
set_option maxHeartbeats 4000000 in
set_option maxRecDepth 100000 in
theorem wn_X5_fewestLosers_72 {l : Launch} {p : Program} {e : Env} {s : State} {m : MethodId} {args : Array Value} {below : List Frame} {meth : Method} {c : Code} {g : GG} {A : Nat → Prop} (C : KX p m c cX5_fewestLosers 5 s args RX5) (K : KC l g A s) (M : KM meth (some .int)) {σ' : CS} {r : Int32} {x1 : Int32}     : ∀ (fu : Nat) (lay : Nat → Nat) (σ : CS) (v2 : Int32) (v3 : Int32) (v4 : Int32), B_X5_fewestLosers_72 x1 fu σ v2 v3 v4 = some (σ', r) → JJ p l e (rmk 3 67 0 0) s m args below meth c (MQ below (va_Qi (fun (r0 : Int32) (u : CS) => r0 = r ∧ u = σ') (BC (CH g A)) A) args s 0 0 A) A 5 (CH g A lay σ) 0 0 72 [(0, .ref (ga g 0)), (2, .int v2), (3, .int v3), (4, .int v4)] [] := by
  intro fu
  induction fu with
  | zero =>
    intro lay σ v2 v3 v4 h
    exact nomatch (show (none : Option _) = some _ from h)
  | succ fu ih72 =>
    intro lay σ v2 v3 v4 h
    unfold B_X5_fewestLosers_72 at h
    rw [lo4_s] at h
    refine j_iload 74 C dX5_fewestLosers_72 3 rfl rfl ?_
    refine j_iload_n 75 C dX5_fewestLosers_74 1 rfl rfl ?_
    refine j_icmp_gt 78 98 C dX5_fewestLosers_75 (by decide) rfl (fun hc114 => ?_) (fun hc114 => ?_)
    · replace h := it_t hc114 h
      refine j_iconst 99 C dX5_fewestLosers_98 ic_m1 rfl ?_
      cases h
      exact x_i C M dX5_fewestLosers_99
    · replace h := it_f hc114 h
      refine j_aload_n 79 C dX5_fewestLosers_78 0 rfl rfl ?_
      refine j_iload_n 80 C dX5_fewestLosers_79 2 rfl rfl ?_
      refine j_iload 82 C dX5_fewestLosers_80 3 rfl rfl ?_
      refine j_isub 83 C dX5_fewestLosers_82 rfl ?_
      obtain ⟨σ115, r116, hF, h⟩ := bd_e h
      refine k_Vi 86 C K (c_X5_areEnough K.2.2.2 g A lay  hF) cp_X5_areEnough (rv_F) mw_555 dX5_fewestLosers_83 rfl rfl (Nat.le_of_ble_eq_true rfl) ⟨Nat.le_of_ble_eq_true rfl, Nat.le_of_ble_eq_true rfl⟩ ⟨Nat.le_of_ble_eq_true rfl, Nat.le_of_ble_eq_true rfl⟩ rfl (fun lay => ?_)
      refine j_if_ne 89 92 C dX5_fewestLosers_86 (by decide) rfl (fun hc117 => ?_) (fun hc117 => ?_)
      · replace h := it_f hc117 h
        obtain ⟨x118, ex118⟩ : ∃ z : Int32, z = v4 + 1 := ⟨_, rfl⟩
        replace h := lt_e h x118 ex118
        refine j_iinc 95 C dX5_fewestLosers_92 3 rfl (v := x118) ((ii_1 _).trans ex118.symm) (lo' := [(4, .int x118), (0, .ref (ga g 0)), (2, .int v2), (3, .int v3)]) (by decide) rfl rfl ?_
        refine j_goto 72 C dX5_fewestLosers_95 (by decide) ?_
        refine j_sub [1, 2, 3, 0] (lo' := [(0, .ref (ga g 0)), (2, .int v2), (3, .int v3), (4, .int x118)]) rfl ?_
        exact ih72 lay σ115 v2 v3 x118 h
      · replace h := it_t hc117 h
        refine j_iload 91 C dX5_fewestLosers_89 3 rfl rfl ?_
        cases h
        exact x_i C M dX5_fewestLosers_91
set_option maxHeartbeats 4000000 in
set_option maxRecDepth 100000 in
theorem wn_X5_fewestLosers_52 {l : Launch} {p : Program} {e : Env} {s : State} {m : MethodId} {args : Array Value} {below : List Frame} {meth : Method} {c : Code} {g : GG} {A : Nat → Prop} (C : KX p m c cX5_fewestLosers 5 s args RX5) (K : KC l g A s) (M : KM meth (some .int)) {σ' : CS} {r : Int32} {x1 : Int32}   {self4 : CS → Int32 → Int32 → Option (CS × Int32)} (ih4 : ∀ (lay : Nat → Nat) (σ : CS) (v2 : Int32) (v3 : Int32), self4 σ v2 v3 = some (σ', r) → JJ p l e (rmk 3 67 0 0) s m args below meth c (MQ below (va_Qi (fun (r0 : Int32) (u : CS) => r0 = r ∧ u = σ') (BC (CH g A)) A) args s 0 0 A) A 5 (CH g A lay σ) 0 0 4 [(0, .ref (ga g 0)), (1, .int x1), (2, .int v2), (3, .int v3)] []) (lay : Nat → Nat) (σ : CS) (v3 : Int32) (w0 : Int32) (w1 : Int32)  (h : B_X5_fewestLosers_52 x1 self4 σ v3 w0 w1 = some (σ', r)) : JJ p l e (rmk 3 67 0 0) s m args below meth c (MQ below (va_Qi (fun (r0 : Int32) (u : CS) => r0 = r ∧ u = σ') (BC (CH g A)) A) args s 0 0 A) A 5 (CH g A lay σ) 0 0 52 [(0, .ref (ga g 0)), (1, .int x1), (3, .int v3)] [.int w0, .int w1] := by
  unfold B_X5_fewestLosers_52 at h
  obtain ⟨σ119, r120, hF, h⟩ := bd_e h
  refine k_Si 55 C K (c_X5_asNumber K.2.2.2 g A lay  hF) cp_X5_asNumber mw_321 dX5_fewestLosers_52 rfl rfl (Nat.le_of_ble_eq_true rfl) ⟨Nat.le_of_ble_eq_true rfl, Nat.le_of_ble_eq_true rfl⟩ ⟨Nat.le_of_ble_eq_true rfl, Nat.le_of_ble_eq_true rfl⟩ rfl (fun lay => ?_)
  refine j_iadd 56 C dX5_fewestLosers_55 rfl ?_
  refine j_topi (fun x121 ex121 => ?_)
  replace h := lt_e h x121 ex121
  refine j_istore_n 57 C dX5_fewestLosers_56 (lo' := [(2, .int x121), (0, .ref (ga g 0)), (1, .int x1), (3, .int v3)]) (by decide) rfl rfl ?_
  obtain ⟨x122, ex122⟩ : ∃ z : Int32, z = v3 + 1 := ⟨_, rfl⟩
  replace h := lt_e h x122 ex122
  refine j_iinc 60 C dX5_fewestLosers_57 3 rfl (v := x122) ((ii_1 _).trans ex122.symm) (lo' := [(3, .int x122), (2, .int x121), (0, .ref (ga g 0)), (1, .int x1)]) (by decide) rfl rfl ?_
  refine j_goto 4 C dX5_fewestLosers_60 (by decide) ?_
  refine j_sub [2, 3, 1, 0] (lo' := [(0, .ref (ga g 0)), (1, .int x1), (2, .int x121), (3, .int x122)]) rfl ?_
  exact ih4 lay σ119 x121 x122 h
set_option maxHeartbeats 4000000 in
set_option maxRecDepth 100000 in
theorem wn_X5_fewestLosers_51 {l : Launch} {p : Program} {e : Env} {s : State} {m : MethodId} {args : Array Value} {below : List Frame} {meth : Method} {c : Code} {g : GG} {A : Nat → Prop} (C : KX p m c cX5_fewestLosers 5 s args RX5) (K : KC l g A s) (M : KM meth (some .int)) {σ' : CS} {r : Int32} {x1 : Int32}   {self4 : CS → Int32 → Int32 → Option (CS × Int32)} (ih4 : ∀ (lay : Nat → Nat) (σ : CS) (v2 : Int32) (v3 : Int32), self4 σ v2 v3 = some (σ', r) → JJ p l e (rmk 3 67 0 0) s m args below meth c (MQ below (va_Qi (fun (r0 : Int32) (u : CS) => r0 = r ∧ u = σ') (BC (CH g A)) A) args s 0 0 A) A 5 (CH g A lay σ) 0 0 4 [(0, .ref (ga g 0)), (1, .int x1), (2, .int v2), (3, .int v3)] []) (lay : Nat → Nat) (σ : CS) (v3 : Int32) (w0 : Int32)  (h : B_X5_fewestLosers_51 x1 self4 σ v3 w0 = some (σ', r)) : JJ p l e (rmk 3 67 0 0) s m args below meth c (MQ below (va_Qi (fun (r0 : Int32) (u : CS) => r0 = r ∧ u = σ') (BC (CH g A)) A) args s 0 0 A) A 5 (CH g A lay σ) 0 0 51 [(0, .ref (ga g 0)), (1, .int x1), (3, .int v3)] [.int w0] := by
  unfold B_X5_fewestLosers_51 at h
  refine j_iconst 52 C dX5_fewestLosers_51 ic_0 rfl ?_
  exact wn_X5_fewestLosers_52 C K M ih4 lay σ v3 (0 : Int32) w0 h
set_option maxHeartbeats 4000000 in
set_option maxRecDepth 100000 in
theorem wn_X5_fewestLosers_4 {l : Launch} {p : Program} {e : Env} {s : State} {m : MethodId} {args : Array Value} {below : List Frame} {meth : Method} {c : Code} {g : GG} {A : Nat → Prop} (C : KX p m c cX5_fewestLosers 5 s args RX5) (K : KC l g A s) (M : KM meth (some .int)) {σ' : CS} {r : Int32} {x1 : Int32}     : ∀ (fu : Nat) (lay : Nat → Nat) (σ : CS) (v2 : Int32) (v3 : Int32), B_X5_fewestLosers_4 x1 fu σ v2 v3 = some (σ', r) → JJ p l e (rmk 3 67 0 0) s m args below meth c (MQ below (va_Qi (fun (r0 : Int32) (u : CS) => r0 = r ∧ u = σ') (BC (CH g A)) A) args s 0 0 A) A 5 (CH g A lay σ) 0 0 4 [(0, .ref (ga g 0)), (1, .int x1), (2, .int v2), (3, .int v3)] [] := by
  intro fu
  induction fu with
  | zero =>
    intro lay σ v2 v3 h
    exact nomatch (show (none : Option _) = some _ from h)
  | succ fu ih4 =>
    intro lay σ v2 v3 h
    unfold B_X5_fewestLosers_4 at h
    rw [lo3_s] at h
    refine j_iload_n 5 C dX5_fewestLosers_4 3 rfl rfl ?_
    refine j_aload_n 6 C dX5_fewestLosers_5 0 rfl rfl ?_
    refine g_F 9 C K 6 (by decide) mw_286 rfl dX5_fewestLosers_6 rfl ?_
    refine j_icmp_ge 12 63 C dX5_fewestLosers_9 (by decide) rfl (fun hc101 => ?_) (fun hc101 => ?_)
    · replace h := it_t hc101 h
      refine j_aload_n 64 C dX5_fewestLosers_63 0 rfl rfl ?_
      refine j_iload_n 65 C dX5_fewestLosers_64 1 rfl rfl ?_
      obtain ⟨σ102, r103, hF, h⟩ := bd_e h
      refine k_Vi 68 C K (c_X5_holders K.2.2.2 g A lay  hF) cp_X5_holders (rv_F) mw_551 dX5_fewestLosers_65 rfl rfl (Nat.le_of_ble_eq_true rfl) ⟨Nat.le_of_ble_eq_true rfl, Nat.le_of_ble_eq_true rfl⟩ ⟨Nat.le_of_ble_eq_true rfl, Nat.le_of_ble_eq_true rfl⟩ rfl (fun lay => ?_)
      refine j_istore_n 69 C dX5_fewestLosers_68 (lo' := [(3, .int r103), (0, .ref (ga g 0)), (1, .int x1), (2, .int v2)]) (by decide) rfl rfl ?_
      refine j_iconst 70 C dX5_fewestLosers_69 ic_0 rfl ?_
      refine j_istore 72 C dX5_fewestLosers_70 (lo' := [(4, .int (0 : Int32)), (3, .int r103), (0, .ref (ga g 0)), (1, .int x1), (2, .int v2)]) (by decide) rfl rfl ?_
      refine j_sub [2, 4, 1, 0] (lo' := [(0, .ref (ga g 0)), (2, .int v2), (3, .int r103), (4, .int (0 : Int32))]) rfl ?_
      exact wn_X5_fewestLosers_72 C K M  4096 lay σ102 v2 r103 (0 : Int32) h
    · replace h := it_f hc101 h
      refine j_iload_n 13 C dX5_fewestLosers_12 2 rfl rfl ?_
      refine j_aload_n 14 C dX5_fewestLosers_13 0 rfl rfl ?_
      refine j_aload_n 15 C dX5_fewestLosers_14 0 rfl rfl ?_
      refine g_F 18 C K 0 (by decide) mw_280 rfl dX5_fewestLosers_15 rfl ?_
      refine j_iload_n 19 C dX5_fewestLosers_18 3 rfl rfl ?_
      obtain ⟨hz104, h⟩ := gd_e h
      have hb105 : tn v3 < 7 := inb_lt hz104
      refine r_nodes 20 C K hz104 dX5_fewestLosers_19 rfl ?_
      refine g_N 23 C K hb105 2 (by decide) mw_222 rfl dX5_fewestLosers_20 rfl ?_
      refine j_iload_n 24 C dX5_fewestLosers_23 1 rfl rfl ?_
      obtain ⟨σ106, r107, hF, h⟩ := bd_e h
      refine k_Vi 27 C K (c_X5_holds K.2.2.2 g A lay (by omega) hF) cp_X5_holds (rv_F) mw_394 dX5_fewestLosers_24 rfl rfl (Nat.le_of_ble_eq_true rfl) ⟨Nat.le_of_ble_eq_true rfl, Nat.le_of_ble_eq_true rfl⟩ ⟨Nat.le_of_ble_eq_true rfl, Nat.le_of_ble_eq_true rfl⟩ rfl (fun lay => ?_)
      refine j_if_eq 30 51 C dX5_fewestLosers_27 (by decide) rfl (fun hc108 => ?_) (fun hc108 => ?_)
      · replace h := it_t hc108 h
        refine j_sub [0, 1, 3] (lo' := [(0, .ref (ga g 0)), (1, .int x1), (3, .int v3)]) rfl ?_
        exact wn_X5_fewestLosers_51 C K M ih4 lay σ106 v3 v2 h
      · replace h := it_f hc108 h
        refine j_aload_n 31 C dX5_fewestLosers_30 0 rfl rfl ?_
        refine j_aload_n 32 C dX5_fewestLosers_31 0 rfl rfl ?_
        refine g_F 35 C K 0 (by decide) mw_280 rfl dX5_fewestLosers_32 rfl ?_
        refine j_iload_n 36 C dX5_fewestLosers_35 3 rfl rfl ?_
        obtain ⟨hz109, h⟩ := gd_e h
        have hb110 : tn v3 < 7 := inb_lt hz109
        refine r_nodes 37 C K hz109 dX5_fewestLosers_36 rfl ?_
        refine g_N 40 C K hb110 1 (by decide) mw_220 rfl dX5_fewestLosers_37 rfl ?_
        refine j_iload_n 41 C dX5_fewestLosers_40 1 rfl rfl ?_
        obtain ⟨σ111, r112, hF, h⟩ := bd_e h
        refine k_Vi 44 C K (c_X5_holds K.2.2.2 g A lay (by omega) hF) cp_X5_holds (rv_F) mw_394 dX5_fewestLosers_41 rfl rfl (Nat.le_of_ble_eq_true rfl) ⟨Nat.le_of_ble_eq_true rfl, Nat.le_of_ble_eq_true rfl⟩ ⟨Nat.le_of_ble_eq_true rfl, Nat.le_of_ble_eq_true rfl⟩ rfl (fun lay => ?_)
        refine j_if_ne 47 51 C dX5_fewestLosers_44 (by decide) rfl (fun hc113 => ?_) (fun hc113 => ?_)
        · replace h := it_f hc113 h
          refine j_sub [0, 1, 3] (lo' := [(0, .ref (ga g 0)), (1, .int x1), (3, .int v3)]) rfl ?_
          exact wn_X5_fewestLosers_51 C K M ih4 lay σ111 v3 v2 h
        · replace h := it_t hc113 h
          refine j_iconst 48 C dX5_fewestLosers_47 ic_1 rfl ?_
          refine j_goto 52 C dX5_fewestLosers_48 (by decide) ?_
          refine j_sub [0, 1, 3] (lo' := [(0, .ref (ga g 0)), (1, .int x1), (3, .int v3)]) rfl ?_
          exact wn_X5_fewestLosers_52 C K M ih4 lay σ111 v3 (1 : Int32) v2 h
set_option maxHeartbeats 4000000 in
set_option maxRecDepth 100000 in
theorem c_X5_fewestLosers {l : Launch} (hst : l.stackTraces = false) (g : GG) (A : Nat → Prop) (lay : Nat → Nat) {σ : CS} {σ' : CS} {r : Int32} {x1 : Int32}  (h : F_X5_fewestLosers σ x1 = some (σ', r)) : MI l yX5_fewestLosers cX5_fewestLosers 5 .int 3 67 0 0 [.ref (ga g 0), .int x1] (CH g A) g A lay σ σ' r := by
  unfold F_X5_fewestLosers at h
  refine e_i (own := RX5) (lo := [(0, .ref (ga g 0)), (1, .int x1)]) hst (plainFor_of_name (by decide)) rfl rfl (Nat.le_of_ble_eq_true rfl) ?_
  intro p e s m args below meth c C K M
  refine j_iconst 1 C dX5_fewestLosers_0 ic_0 rfl ?_
  refine j_istore_n 2 C dX5_fewestLosers_1 (lo' := [(2, .int (0 : Int32)), (0, .ref (ga g 0)), (1, .int x1)]) (by decide) rfl rfl ?_
  refine j_iconst 3 C dX5_fewestLosers_2 ic_0 rfl ?_
  refine j_istore_n 4 C dX5_fewestLosers_3 (lo' := [(3, .int (0 : Int32)), (2, .int (0 : Int32)), (0, .ref (ga g 0)), (1, .int x1)]) (by decide) rfl rfl ?_
  refine j_sub [2, 3, 1, 0] (lo' := [(0, .ref (ga g 0)), (1, .int x1), (2, .int (0 : Int32)), (3, .int (0 : Int32))]) rfl ?_
  exact wn_X5_fewestLosers_4 C K M  4096 lay σ (0 : Int32) (0 : Int32) h
