theorem cp_X4_add : CPv yX4_add cX4_add 4 none RX4 3 := ⟨mw_726, mw_727, mw_105, mw_728, rfl, by decide, by decide, by decide +kernel⟩
set_option maxHeartbeats 4000000 in
set_option maxRecDepth 100000 in
theorem wn_X4_add_16 {l : Launch} {p : Program} {e : Env} {s : State} {m : MethodId} {args : Array Value} {below : List Frame} {meth : Method} {c : Code} {g : GG} {A : Nat → Prop} (C : KX p m c cX4_add 4 s args RX4) (K : KC l g A s) (M : KM meth none) {σ' : CS} {r : Unit} {o0 : Nat} {x1 : Int32} {x2 : Int32} {x3 : Int32} (ho0 : o0 < 7)    (lay : Nat → Nat) (σ : CS)   (h : B_X4_add_16 o0 x1 x2 x3 σ  = some (σ', r)) : JJ p l e (rmk 3 81 3 1536) s m args below meth c (MQ below (va_Qv (fun u : CS => u = σ') (BC (CH g A)) A) args s 3 1536 A) A 4 (CH g A lay σ) 3 1536 16 [(0, .ref (ga g (12 + o0))), (1, .int x1), (2, .int x2), (3, .int x3)] [] := by
  unfold B_X4_add_16 at h
  refine j_aload_n 17 C dX4_add_16 0 rfl rfl ?_
  refine g_W 20 C K ho0 0 (by decide) mw_202 rfl dX4_add_17 rfl ?_
  refine j_aload_n 21 C dX4_add_20 0 rfl rfl ?_
  refine g_W 24 C K ho0 3 (by decide) mw_208 rfl dX4_add_21 rfl ?_
  refine j_iload_n 25 C dX4_add_24 1 rfl rfl ?_
  obtain ⟨hz104, h⟩ := gd_e h
  refine r_ist 26 C K (ar_1 _ ho0) (ca_1 _ _ ho0) hz104 dX4_add_25 rfl (fun σ105 eσ105 => ?_)
  replace h := lt_e h σ105 eσ105
  refine j_aload_n 27 C dX4_add_26 0 rfl rfl ?_
  refine g_W 30 C K ho0 1 (by decide) mw_204 rfl dX4_add_27 rfl ?_
  refine j_aload_n 31 C dX4_add_30 0 rfl rfl ?_
  refine g_W 34 C K ho0 3 (by decide) mw_208 rfl dX4_add_31 rfl ?_
  refine j_iload_n 35 C dX4_add_34 2 rfl rfl ?_
  obtain ⟨hz106, h⟩ := gd_e h
  refine r_ist 36 C K (ar_2 _ ho0) (ca_2 _ _ ho0) hz106 dX4_add_35 rfl (fun σ107 eσ107 => ?_)
  replace h := lt_e h σ107 eσ107
  refine j_aload_n 37 C dX4_add_36 0 rfl rfl ?_
  refine g_W 40 C K ho0 2 (by decide) mw_206 rfl dX4_add_37 rfl ?_
  refine j_aload_n 41 C dX4_add_40 0 rfl rfl ?_
  refine g_W 44 C K ho0 3 (by decide) mw_208 rfl dX4_add_41 rfl ?_
  refine j_iload_n 45 C dX4_add_44 3 rfl rfl ?_
  obtain ⟨hz108, h⟩ := gd_e h
  refine r_ist 46 C K (ar_3 _ ho0) (ca_3 _ _ ho0) hz108 dX4_add_45 rfl (fun σ109 eσ109 => ?_)
  replace h := lt_e h σ109 eσ109
  refine j_aload_n 47 C dX4_add_46 0 rfl rfl ?_
  refine j_dup 48 C dX4_add_47 rfl rfl ?_
  refine g_W 51 C K ho0 3 (by decide) mw_208 rfl dX4_add_48 rfl ?_
  refine j_iconst 52 C dX4_add_51 ic_1 rfl ?_
  refine j_iadd 53 C dX4_add_52 rfl ?_
  refine p_W 56 C K ho0 3 (by decide) mw_208 rfl rfl dX4_add_53 rfl (fun σ110 eσ110 => ?_)
  replace h := lt_e h σ110 eσ110
  cases h
  exact x_v C M dX4_add_56
set_option maxHeartbeats 4000000 in
set_option maxRecDepth 100000 in
theorem c_X4_add {l : Launch} (hst : l.stackTraces = false) (g : GG) (A : Nat → Prop) (lay : Nat → Nat) {σ : CS} {σ' : CS} {r : Unit} {o0 : Nat} {x1 : Int32} {x2 : Int32} {x3 : Int32} (ho0 : o0 < 7) (h : F_X4_add σ o0 x1 x2 x3 = some (σ', r)) : MV l yX4_add cX4_add 4 3 81 3 1536 [.ref (ga g (12 + o0)), .int x1, .int x2, .int x3] (CH g A) g A lay σ σ' := by
  unfold F_X4_add at h
  refine e_v (own := RX4) (lo := [(0, .ref (ga g (12 + o0))), (1, .int x1), (2, .int x2), (3, .int x3)]) hst (plainFor_of_name (by decide)) rfl rfl (Nat.le_of_ble_eq_true rfl) ?_
  intro p e s m args below meth c C K M
  refine j_aload_n 1 C dX4_add_0 0 rfl rfl ?_
  refine g_W 4 C K ho0 3 (by decide) mw_208 rfl dX4_add_1 rfl ?_
  refine j_aload_n 5 C dX4_add_4 0 rfl rfl ?_
  refine g_W 8 C K ho0 0 (by decide) mw_202 rfl dX4_add_5 rfl ?_
  refine r_len 9 C K (ar_1 _ ho0) (ca_1 _ _ ho0) dX4_add_8 rfl ?_
  refine j_icmp_lt 12 16 C dX4_add_9 (by decide) rfl (fun hc101 => ?_) (fun hc101 => ?_)
  · replace h := it_t hc101 h
    refine j_widen (k' := 3) (n' := 1536) (by omega) (by omega) ?_
    exact wn_X4_add_16 C K M ho0 lay σ  h
  · replace h := it_f hc101 h
    refine j_aload_n 13 C dX4_add_12 0 rfl rfl ?_
    obtain ⟨σ102, u103, hF, h⟩ := bd_e h
    refine k_Vv 16 C K (c_X4_grow K.2.2.2 g A lay ho0 hF) cp_X4_grow (rv_W ho0) mw_729 dX4_add_13 rfl rfl (Nat.le_of_ble_eq_true rfl) ⟨Nat.le_of_ble_eq_true rfl, Nat.le_of_ble_eq_true rfl⟩ ⟨by simp only [rmk]; omega, by simp only [rmk]; omega⟩ rfl (fun lay => ?_)
    exact wn_X4_add_16 C K M ho0 lay σ102  h
theorem cp_X3_write : CPv yX3_write cX3_write 4 none RX3 3 := ⟨mw_704, mw_705, mw_104, mw_706, rfl, by decide, by decide, by decide +kernel⟩
set_option maxHeartbeats 4000000 in
set_option maxRecDepth 100000 in
theorem wn_X3_write_15 {l : Launch} {p : Program} {e : Env} {s : State} {m : MethodId} {args : Array Value} {below : List Frame} {meth : Method} {c : Code} {g : GG} {A : Nat → Prop} (C : KX p m c cX3_write 4 s args RX3) (K : KC l g A s) (M : KM meth none) {σ' : CS} {r : Unit} {o0 : Nat} {x1 : Int32} {x2 : Int32} {x3 : Int32} (ho0 : o0 < 7)    (lay : Nat → Nat) (σ : CS)   (h : B_X3_write_15 o0 x1 x2 x3 σ  = some (σ', r)) : JJ p l e (rmk 4 104 3 1536) s m args below meth c (MQ below (va_Qv (fun u : CS => u = σ') (BC (CH g A)) A) args s 3 1536 A) A 4 (CH g A lay σ) 0 0 15 [(0, .ref (ga g (5 + o0))), (1, .int x1), (2, .int x2), (3, .int x3)] [] := by
  unfold B_X3_write_15 at h
  refine j_aload_n 16 C dX3_write_15 0 rfl rfl ?_
  refine g_N 19 C K ho0 3 (by decide) mw_225 rfl dX3_write_16 rfl ?_
  refine j_iload_n 20 C dX3_write_19 1 rfl rfl ?_
  refine j_iload_n 21 C dX3_write_20 2 rfl rfl ?_
  refine j_iload_n 22 C dX3_write_21 3 rfl rfl ?_
  obtain ⟨σ106, u107, hF, h⟩ := bd_e h
  refine k_Vv 25 C K (c_X4_add K.2.2.2 g A lay ho0 hF) cp_X4_add (rv_W ho0) mw_725 dX3_write_22 rfl rfl (Nat.le_of_ble_eq_true rfl) ⟨Nat.le_of_ble_eq_true rfl, Nat.le_of_ble_eq_true rfl⟩ ⟨by simp only [rmk]; omega, by simp only [rmk]; omega⟩ rfl (fun lay => ?_)
  refine j_aload_n 26 C dX3_write_25 0 rfl rfl ?_
  refine g_N 29 C K ho0 2 (by decide) mw_223 rfl dX3_write_26 rfl ?_
  refine j_iload_n 30 C dX3_write_29 1 rfl rfl ?_
  refine j_iload_n 31 C dX3_write_30 2 rfl rfl ?_
  refine j_iload_n 32 C dX3_write_31 3 rfl rfl ?_
  obtain ⟨σ108, u109, hF, h⟩ := bd_e h
  refine k_Vv 35 C K (c_X1_carryOut K.2.2.2 g A lay (by omega) hF) cp_X1_carryOut (rv_D (by omega)) mw_747 dX3_write_32 rfl rfl (Nat.le_of_ble_eq_true rfl) ⟨Nat.le_of_ble_eq_true rfl, Nat.le_of_ble_eq_true rfl⟩ ⟨by simp only [rmk]; omega, by simp only [rmk]; omega⟩ rfl (fun lay => ?_)
  cases h
  exact x_v C M dX3_write_35
set_option maxHeartbeats 4000000 in
set_option maxRecDepth 100000 in
theorem c_X3_write {l : Launch} (hst : l.stackTraces = false) (g : GG) (A : Nat → Prop) (lay : Nat → Nat) {σ : CS} {σ' : CS} {r : Unit} {o0 : Nat} {x1 : Int32} {x2 : Int32} {x3 : Int32} (ho0 : o0 < 7) (h : F_X3_write σ o0 x1 x2 x3 = some (σ', r)) : MV l yX3_write cX3_write 4 4 104 3 1536 [.ref (ga g (5 + o0)), .int x1, .int x2, .int x3] (CH g A) g A lay σ σ' := by
  unfold F_X3_write at h
  refine e_v (own := RX3) (lo := [(0, .ref (ga g (5 + o0))), (1, .int x1), (2, .int x2), (3, .int x3)]) hst (plainFor_of_name (by decide)) rfl rfl (Nat.le_of_ble_eq_true rfl) ?_
  intro p e s m args below meth c C K M
  refine j_aload_n 1 C dX3_write_0 0 rfl rfl ?_
  refine g_N 4 C K ho0 3 (by decide) mw_225 rfl dX3_write_1 rfl ?_
  obtain ⟨σ101, r102, hF, h⟩ := bd_e h
  refine k_Vi 7 C K (c_X4_isFull K.2.2.2 g A lay ho0 hF) cp_X4_isFull (rv_W ho0) mw_707 dX3_write_4 rfl rfl (Nat.le_of_ble_eq_true rfl) ⟨Nat.le_of_ble_eq_true rfl, Nat.le_of_ble_eq_true rfl⟩ ⟨by simp only [rmk]; omega, by simp only [rmk]; omega⟩ rfl (fun lay => ?_)
  refine j_if_eq 10 15 C dX3_write_7 (by decide) rfl (fun hc103 => ?_) (fun hc103 => ?_)
  · replace h := it_t hc103 h
    exact wn_X3_write_15 C K M ho0 lay σ101  h
  · replace h := it_f hc103 h
    refine j_aload_n 11 C dX3_write_10 0 rfl rfl ?_
    obtain ⟨σ104, r105, hF, h⟩ := bd_e h
    refine k_Vi 14 C K (c_X3_carryOutAll K.2.2.2 g A lay ho0 hF) cp_X3_carryOutAll (rv_N ho0) mw_711 dX3_write_11 rfl rfl (Nat.le_of_ble_eq_true rfl) ⟨Nat.le_of_ble_eq_true rfl, Nat.le_of_ble_eq_true rfl⟩ ⟨by simp only [rmk]; omega, by simp only [rmk]; omega⟩ rfl (fun lay => ?_)
    refine j_pop 15 C dX3_write_14 rfl rfl ?_
    exact wn_X3_write_15 C K M ho0 lay σ104  h
theorem cp_X4_keptOf : CPv yX4_keptOf cX4_keptOf 2 (some .int) RX4 1 := ⟨mw_814, mw_815, mw_105, mw_816, rfl, by decide, by decide, by decide +kernel⟩
set_option maxHeartbeats 4000000 in
set_option maxRecDepth 100000 in
theorem c_X4_keptOf {l : Launch} (hst : l.stackTraces = false) (g : GG) (A : Nat → Prop) (lay : Nat → Nat) {σ : CS} {σ' : CS} {r : Int32} {o0 : Nat} {x1 : Int32} (ho0 : o0 < 7) (h : F_X4_keptOf σ o0 x1 = some (σ', r)) : MI l yX4_keptOf cX4_keptOf 2 .int 1 30 0 0 [.ref (ga g (12 + o0)), .int x1] (CH g A) g A lay σ σ' r := by
  unfold F_X4_keptOf at h
  refine e_i (own := RX4) (lo := [(0, .ref (ga g (12 + o0))), (1, .int x1)]) hst (plainFor_of_name (by decide)) rfl rfl (Nat.le_of_ble_eq_true rfl) ?_
  intro p e s m args below meth c C K M
  refine j_aload_n 1 C dX4_keptOf_0 0 rfl rfl ?_
  refine g_W 4 C K ho0 3 (by decide) mw_208 rfl dX4_keptOf_1 rfl ?_
  refine j_iload_n 5 C dX4_keptOf_4 1 rfl rfl ?_
  refine j_aload_n 6 C dX4_keptOf_5 0 rfl rfl ?_
  refine g_W 9 C K ho0 3 (by decide) mw_208 rfl dX4_keptOf_6 rfl ?_
  refine j_mmin 12 C mw_817 dX4_keptOf_9 (Nat.le_of_ble_eq_true rfl) (Nat.le_of_ble_eq_true rfl) (Nat.le_of_ble_eq_true rfl) (Nat.le_of_ble_eq_true rfl) rfl ?_
  refine j_isub 13 C dX4_keptOf_12 rfl ?_
  cases h
  exact x_i C M dX4_keptOf_13
theorem cp_X3_fall : CPv yX3_fall cX3_fall 4 (some .int) RX3 1 := ⟨mw_810, mw_811, mw_104, mw_812, rfl, by decide, by decide, by decide +kernel⟩
set_option maxHeartbeats 4000000 in
set_option maxRecDepth 100000 in
theorem c_X3_fall {l : Launch} (hst : l.stackTraces = false) (g : GG) (A : Nat → Prop) (lay : Nat → Nat) {σ : CS} {σ' : CS} {r : Int32} {o0 : Nat} {x1 : Int32} (ho0 : o0 < 7) (h : F_X3_fall σ o0 x1 = some (σ', r)) : MI l yX3_fall cX3_fall 4 .int 3 72 0 0 [.ref (ga g (5 + o0)), .int x1] (CH g A) g A lay σ σ' r := by
  unfold F_X3_fall at h
  refine e_i (own := RX3) (lo := [(0, .ref (ga g (5 + o0))), (1, .int x1)]) hst (plainFor_of_name (by decide)) rfl rfl (Nat.le_of_ble_eq_true rfl) ?_
  intro p e s m args below meth c C K M
  refine j_aload_n 1 C dX3_fall_0 0 rfl rfl ?_
  refine g_N 4 C K ho0 3 (by decide) mw_225 rfl dX3_fall_1 rfl ?_
  refine g_W 7 C K ho0 3 (by decide) mw_209 rfl dX3_fall_4 rfl ?_
  refine j_topi (fun x101 ex101 => ?_)
  replace h := lt_e h x101 ex101
  refine j_istore_n 8 C dX3_fall_7 (lo' := [(2, .int x101), (0, .ref (ga g (5 + o0))), (1, .int x1)]) (by decide) rfl rfl ?_
  refine j_aload_n 9 C dX3_fall_8 1 rfl rfl ?_
  refine g_N 12 C K ho0 3 (by decide) mw_225 rfl dX3_fall_9 rfl ?_
  refine j_iload_n 13 C dX3_fall_12 2 rfl rfl ?_
  obtain ⟨σ102, r103, hF, h⟩ := bd_e h
  refine k_Vi 16 C K (c_X4_keptOf K.2.2.2 g A lay ho0 hF) cp_X4_keptOf (rv_W ho0) mw_813 dX3_fall_13 rfl rfl (Nat.le_of_ble_eq_true rfl) ⟨Nat.le_of_ble_eq_true rfl, Nat.le_of_ble_eq_true rfl⟩ ⟨Nat.le_of_ble_eq_true rfl, Nat.le_of_ble_eq_true rfl⟩ rfl (fun lay => ?_)
  refine j_istore_n 17 C dX3_fall_16 (lo' := [(3, .int r103), (2, .int x101), (0, .ref (ga g (5 + o0))), (1, .int x1)]) (by decide) rfl rfl ?_
  refine j_aload_n 18 C dX3_fall_17 2 rfl rfl ?_
  refine j_iload_n 19 C dX3_fall_18 0 rfl rfl ?_
  obtain ⟨σ104, u105, hF, h⟩ := bd_e h
  refine k_Vv 22 C K (c_X3_keepOnly K.2.2.2 g A lay ho0 hF) cp_X3_keepOnly (rv_N ho0) mw_715 dX3_fall_19 rfl rfl (Nat.le_of_ble_eq_true rfl) ⟨Nat.le_of_ble_eq_true rfl, Nat.le_of_ble_eq_true rfl⟩ ⟨Nat.le_of_ble_eq_true rfl, Nat.le_of_ble_eq_true rfl⟩ rfl (fun lay => ?_)
  refine j_aload_n 23 C dX3_fall_22 2 rfl rfl ?_
  refine j_iconst 24 C dX3_fall_23 ic_0 rfl ?_
  refine p_N 27 C K ho0 5 (by decide) mw_229 rfl rfl dX3_fall_24 rfl (fun σ106 eσ106 => ?_)
  replace h := lt_e h σ106 eσ106
  refine j_aload_n 28 C dX3_fall_27 2 rfl rfl ?_
  refine j_iconst 29 C dX3_fall_28 ic_m1 rfl ?_
  refine p_N 32 C K ho0 9 (by decide) mw_237 rfl rfl dX3_fall_29 rfl (fun σ107 eσ107 => ?_)
  replace h := lt_e h σ107 eσ107
  refine j_aload_n 33 C dX3_fall_32 2 rfl rfl ?_
  refine j_iconst 34 C dX3_fall_33 ic_0 rfl ?_
  refine p_N 37 C K ho0 8 (by decide) mw_235 rfl rfl dX3_fall_34 rfl (fun σ108 eσ108 => ?_)
  replace h := lt_e h σ108 eσ108
  refine j_iload_n 38 C dX3_fall_37 1 rfl rfl ?_
  refine j_iload_n 39 C dX3_fall_38 0 rfl rfl ?_
  refine j_isub 40 C dX3_fall_39 rfl ?_
  cases h
  exact x_i C M dX3_fall_40
theorem cp_X3_loseDisk : CPv yX3_loseDisk cX3_loseDisk 2 (some .int) RX3 0 := ⟨mw_831, mw_832, mw_104, mw_833, rfl, by decide, by decide, by decide +kernel⟩
set_option maxHeartbeats 4000000 in
set_option maxRecDepth 100000 in
theorem c_X3_loseDisk {l : Launch} (hst : l.stackTraces = false) (g : GG) (A : Nat → Prop) (lay : Nat → Nat) {σ : CS} {σ' : CS} {r : Int32} {o0 : Nat} (ho0 : o0 < 7) (h : F_X3_loseDisk σ o0 = some (σ', r)) : MI l yX3_loseDisk cX3_loseDisk 2 .int 2 43 0 0 [.ref (ga g (5 + o0))] (CH g A) g A lay σ σ' r := by
  unfold F_X3_loseDisk at h
  refine e_i (own := RX3) (lo := [(0, .ref (ga g (5 + o0)))]) hst (plainFor_of_name (by decide)) rfl rfl (Nat.le_of_ble_eq_true rfl) ?_
  intro p e s m args below meth c C K M
  refine j_aload_n 1 C dX3_loseDisk_0 0 rfl rfl ?_
  refine g_N 4 C K ho0 1 (by decide) mw_221 rfl dX3_loseDisk_1 rfl ?_
  obtain ⟨σ101, r102, hF, h⟩ := bd_e h
  refine k_Vi 7 C K (c_X1_acceptedSlots K.2.2.2 g A lay (by omega) hF) cp_X1_acceptedSlots (rv_D (by omega)) mw_834 dX3_loseDisk_4 rfl rfl (Nat.le_of_ble_eq_true rfl) ⟨Nat.le_of_ble_eq_true rfl, Nat.le_of_ble_eq_true rfl⟩ ⟨Nat.le_of_ble_eq_true rfl, Nat.le_of_ble_eq_true rfl⟩ rfl (fun lay => ?_)
  refine j_istore_n 8 C dX3_loseDisk_7 (lo' := [(1, .int r102), (0, .ref (ga g (5 + o0)))]) (by decide) rfl rfl ?_
  refine j_aload_n 9 C dX3_loseDisk_8 1 rfl rfl ?_
  refine g_N 12 C K ho0 1 (by decide) mw_221 rfl dX3_loseDisk_9 rfl ?_
  obtain ⟨σ103, u104, hF, h⟩ := bd_e h
  refine k_Vv 15 C K (c_X1_reset K.2.2.2 g A lay (by omega) hF) cp_X1_reset (rv_D (by omega)) mw_659 dX3_loseDisk_12 rfl rfl (Nat.le_of_ble_eq_true rfl) ⟨Nat.le_of_ble_eq_true rfl, Nat.le_of_ble_eq_true rfl⟩ ⟨Nat.le_of_ble_eq_true rfl, Nat.le_of_ble_eq_true rfl⟩ rfl (fun lay => ?_)
  refine j_aload_n 16 C dX3_loseDisk_15 1 rfl rfl ?_
  refine g_N 19 C K ho0 2 (by decide) mw_223 rfl dX3_loseDisk_16 rfl ?_
  obtain ⟨σ105, u106, hF, h⟩ := bd_e h
  refine k_Vv 22 C K (c_X1_reset K.2.2.2 g A lay (by omega) hF) cp_X1_reset (rv_D (by omega)) mw_659 dX3_loseDisk_19 rfl rfl (Nat.le_of_ble_eq_true rfl) ⟨Nat.le_of_ble_eq_true rfl, Nat.le_of_ble_eq_true rfl⟩ ⟨Nat.le_of_ble_eq_true rfl, Nat.le_of_ble_eq_true rfl⟩ rfl (fun lay => ?_)
  refine j_aload_n 23 C dX3_loseDisk_22 1 rfl rfl ?_
  refine j_iconst 24 C dX3_loseDisk_23 ic_0 rfl ?_
  refine p_N 27 C K ho0 6 (by decide) mw_231 rfl rfl dX3_loseDisk_24 rfl (fun σ107 eσ107 => ?_)
  replace h := lt_e h σ107 eσ107
  refine j_iload_n 28 C dX3_loseDisk_27 0 rfl rfl ?_
  cases h
  exact x_i C M dX3_loseDisk_28
theorem cp_X3_bringUp : CPv yX3_bringUp cX3_bringUp 1 (some .int) RX3 0 := ⟨mw_847, mw_848, mw_104, mw_849, rfl, by decide, by decide, by decide +kernel⟩
set_option maxHeartbeats 4000000 in
set_option maxRecDepth 100000 in
theorem c_X3_bringUp {l : Launch} (hst : l.stackTraces = false) (g : GG) (A : Nat → Prop) (lay : Nat → Nat) {σ : CS} {σ' : CS} {r : Int32} {o0 : Nat} (ho0 : o0 < 7) (h : F_X3_bringUp σ o0 = some (σ', r)) : MI l yX3_bringUp cX3_bringUp 1 .int 0 0 0 0 [.ref (ga g (5 + o0))] (CH g A) g A lay σ σ' r := by
  unfold F_X3_bringUp at h
  refine e_i (own := RX3) (lo := [(0, .ref (ga g (5 + o0)))]) hst (plainFor_of_name (by decide)) rfl rfl (Nat.le_of_ble_eq_true rfl) ?_
  intro p e s m args below meth c C K M
  refine j_aload_n 1 C dX3_bringUp_0 0 rfl rfl ?_
  refine j_iconst 2 C dX3_bringUp_1 ic_1 rfl ?_
  refine p_N 5 C K ho0 5 (by decide) mw_229 rfl rfl dX3_bringUp_2 rfl (fun σ101 eσ101 => ?_)
  replace h := lt_e h σ101 eσ101
  refine j_aload_n 6 C dX3_bringUp_5 0 rfl rfl ?_
  refine j_dup 7 C dX3_bringUp_6 rfl rfl ?_
  refine g_N 10 C K ho0 7 (by decide) mw_233 rfl dX3_bringUp_7 rfl ?_
  refine j_iconst 11 C dX3_bringUp_10 ic_1 rfl ?_
  refine j_iadd 12 C dX3_bringUp_11 rfl ?_
  refine p_N 15 C K ho0 7 (by decide) mw_233 rfl rfl dX3_bringUp_12 rfl (fun σ102 eσ102 => ?_)
  replace h := lt_e h σ102 eσ102
  refine j_aload_n 16 C dX3_bringUp_15 0 rfl rfl ?_
  refine g_N 19 C K ho0 7 (by decide) mw_233 rfl dX3_bringUp_16 rfl ?_
  cases h
  exact x_i C M dX3_bringUp_19
theorem cp_X3_join : CPv yX3_join cX3_join 2 none RX3 1 := ⟨mw_868, mw_869, mw_104, mw_870, rfl, by decide, by decide, by decide +kernel⟩
set_option maxHeartbeats 4000000 in
set_option maxRecDepth 100000 in
theorem c_X3_join {l : Launch} (hst : l.stackTraces = false) (g : GG) (A : Nat → Prop) (lay : Nat → Nat) {σ : CS} {σ' : CS} {r : Unit} {o0 : Nat} {o1 : Nat} (ho0 : o0 < 7) (ho1 : o1 < 15) (h : F_X3_join σ o0 o1 = some (σ', r)) : MV l yX3_join cX3_join 2 2 51 0 0 [.ref (ga g (5 + o0)), .ref (ga g (26 + o1))] (CH g A) g A lay σ σ' := by
  unfold F_X3_join at h
  refine e_v (own := RX3) (lo := [(0, .ref (ga g (5 + o0))), (1, .ref (ga g (26 + o1)))]) hst (plainFor_of_name (by decide)) rfl rfl (Nat.le_of_ble_eq_true rfl) ?_
  intro p e s m args below meth c C K M
  refine j_aload_n 1 C dX3_join_0 0 rfl rfl ?_
  refine g_N 4 C K ho0 1 (by decide) mw_221 rfl dX3_join_1 rfl ?_
  refine j_aload_n 5 C dX3_join_4 1 rfl rfl ?_
  obtain ⟨σ101, u102, hF, h⟩ := bd_e h
  refine k_Vv 8 C K (c_X1_copyFrom K.2.2.2 g A lay (by omega) ho1 hF) cp_X1_copyFrom (rv_D (by omega)) mw_724 dX3_join_5 rfl rfl (Nat.le_of_ble_eq_true rfl) ⟨Nat.le_of_ble_eq_true rfl, Nat.le_of_ble_eq_true rfl⟩ ⟨Nat.le_of_ble_eq_true rfl, Nat.le_of_ble_eq_true rfl⟩ rfl (fun lay => ?_)
  refine j_aload_n 9 C dX3_join_8 0 rfl rfl ?_
  refine g_N 12 C K ho0 2 (by decide) mw_223 rfl dX3_join_9 rfl ?_
  refine j_aload_n 13 C dX3_join_12 1 rfl rfl ?_
  obtain ⟨σ103, u104, hF, h⟩ := bd_e h
  refine k_Vv 16 C K (c_X1_copyFrom K.2.2.2 g A lay (by omega) ho1 hF) cp_X1_copyFrom (rv_D (by omega)) mw_724 dX3_join_13 rfl rfl (Nat.le_of_ble_eq_true rfl) ⟨Nat.le_of_ble_eq_true rfl, Nat.le_of_ble_eq_true rfl⟩ ⟨Nat.le_of_ble_eq_true rfl, Nat.le_of_ble_eq_true rfl⟩ rfl (fun lay => ?_)
  refine j_aload_n 17 C dX3_join_16 0 rfl rfl ?_
  refine j_iconst 18 C dX3_join_17 ic_1 rfl ?_
  refine p_N 21 C K ho0 6 (by decide) mw_231 rfl rfl dX3_join_18 rfl (fun σ105 eσ105 => ?_)
  replace h := lt_e h σ105 eσ105
  refine j_aload_n 22 C dX3_join_21 0 rfl rfl ?_
  refine j_aload_n 23 C dX3_join_22 1 rfl rfl ?_
  refine g_D 26 C K ho1 0 (by decide) mw_141 rfl dX3_join_23 rfl ?_
  obtain ⟨σ106, u107, hF, h⟩ := bd_e h
  refine k_Vv 29 C K (c_X3_tell K.2.2.2 g A lay ho0 hF) cp_X3_tell (rv_N ho0) mw_871 dX3_join_26 rfl rfl (Nat.le_of_ble_eq_true rfl) ⟨Nat.le_of_ble_eq_true rfl, Nat.le_of_ble_eq_true rfl⟩ ⟨Nat.le_of_ble_eq_true rfl, Nat.le_of_ble_eq_true rfl⟩ rfl (fun lay => ?_)
  cases h
  exact x_v C M dX3_join_29
