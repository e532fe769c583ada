theorem cp_X4_add : CPv yX4_add cX4_add 4 none RX4 3 := ⟨mw_709, mw_710, mw_103, mw_711, rfl, by decide, by decide, by decide +kernel⟩
set_option maxHeartbeats 4000000 in
set_option maxRecDepth 100000 in
theorem wn_X4_add_27 {l : Launch} {p : Program} {e : Env} {s : State} {m : MethodId} {args : Array Value} {below : List Frame} {meth : Method} {c : Code} {g : GG} {A : Nat → Prop} (C : KX p m c cX4_add 4 s args RX4) (K : KC l g A s) (M : KM meth none) {σ' : CS} {r : Unit} {o0 : Nat} {x1 : Int32} {x2 : Int32} {x3 : Int32} (ho0 : o0 < 7)    (lay : Nat → Nat) (σ : CS)   (h : B_X4_add_27 o0 x1 x2 x3 σ  = some (σ', r)) : JJ p l e (rmk 3 81 3 1536) s m args below meth c (MQ below (va_Qv (fun u : CS => u = σ') (BC (CH g A)) A) args s 3 1536 A) A 4 (CH g A lay σ) 3 1536 27 [(0, .ref (ga g (12 + o0))), (1, .int x1), (2, .int x2), (3, .int x3)] [] := by
  unfold B_X4_add_27 at h
  refine j_aload_n 28 C dX4_add_27 0 rfl rfl ?_
  refine g_W 31 C K ho0 0 (by decide) mw_200 rfl dX4_add_28 rfl ?_
  refine j_aload_n 32 C dX4_add_31 0 rfl rfl ?_
  refine g_W 35 C K ho0 3 (by decide) mw_206 rfl dX4_add_32 rfl ?_
  refine j_iload_n 36 C dX4_add_35 1 rfl rfl ?_
  obtain ⟨hz105, h⟩ := gd_e h
  refine r_ist 37 C K (ar_1 _ ho0) (ca_1 _ _ ho0) hz105 dX4_add_36 rfl (fun σ106 eσ106 => ?_)
  replace h := lt_e h σ106 eσ106
  refine j_aload_n 38 C dX4_add_37 0 rfl rfl ?_
  refine g_W 41 C K ho0 1 (by decide) mw_202 rfl dX4_add_38 rfl ?_
  refine j_aload_n 42 C dX4_add_41 0 rfl rfl ?_
  refine g_W 45 C K ho0 3 (by decide) mw_206 rfl dX4_add_42 rfl ?_
  refine j_iload_n 46 C dX4_add_45 2 rfl rfl ?_
  obtain ⟨hz107, h⟩ := gd_e h
  refine r_ist 47 C K (ar_2 _ ho0) (ca_2 _ _ ho0) hz107 dX4_add_46 rfl (fun σ108 eσ108 => ?_)
  replace h := lt_e h σ108 eσ108
  refine j_aload_n 48 C dX4_add_47 0 rfl rfl ?_
  refine g_W 51 C K ho0 2 (by decide) mw_204 rfl dX4_add_48 rfl ?_
  refine j_aload_n 52 C dX4_add_51 0 rfl rfl ?_
  refine g_W 55 C K ho0 3 (by decide) mw_206 rfl dX4_add_52 rfl ?_
  refine j_iload_n 56 C dX4_add_55 3 rfl rfl ?_
  obtain ⟨hz109, h⟩ := gd_e h
  refine r_ist 57 C K (ar_3 _ ho0) (ca_3 _ _ ho0) hz109 dX4_add_56 rfl (fun σ110 eσ110 => ?_)
  replace h := lt_e h σ110 eσ110
  refine j_aload_n 58 C dX4_add_57 0 rfl rfl ?_
  refine j_dup 59 C dX4_add_58 rfl rfl ?_
  refine g_W 62 C K ho0 3 (by decide) mw_206 rfl dX4_add_59 rfl ?_
  refine j_iconst 63 C dX4_add_62 ic_1 rfl ?_
  refine j_iadd 64 C dX4_add_63 rfl ?_
  refine p_W 67 C K ho0 3 (by decide) mw_206 rfl rfl dX4_add_64 rfl (fun σ111 eσ111 => ?_)
  replace h := lt_e h σ111 eσ111
  cases h
  exact x_v C M dX4_add_67
set_option maxHeartbeats 4000000 in
set_option maxRecDepth 100000 in
theorem c_X4_add {l : Launch} (hst : l.stackTraces = false) (g : GG) (A : Nat → Prop) (lay : Nat → Nat) {σ : CS} {σ' : CS} {r : Unit} {o0 : Nat} {x1 : Int32} {x2 : Int32} {x3 : Int32} (ho0 : o0 < 7) (h : F_X4_add σ o0 x1 x2 x3 = some (σ', r)) : MV l yX4_add cX4_add 4 3 81 3 1536 [.ref (ga g (12 + o0)), .int x1, .int x2, .int x3] (CH g A) g A lay σ σ' := by
  unfold F_X4_add at h
  refine e_v (own := RX4) (lo := [(0, .ref (ga g (12 + o0))), (1, .int x1), (2, .int x2), (3, .int x3)]) hst (plainFor_of_name (by decide)) rfl rfl (Nat.le_of_ble_eq_true rfl) ?_
  intro p e s m args below meth c C K M
  refine j_aload_n 1 C dX4_add_0 0 rfl rfl ?_
  refine g_W 4 C K ho0 3 (by decide) mw_206 rfl dX4_add_1 rfl ?_
  refine j_sipush 7 C dX4_add_4 sp_512 rfl ?_
  refine j_icmp_lt 10 11 C dX4_add_7 (by decide) rfl (fun hc101 => ?_) (fun hc101 => ?_)
  · replace h := it_t hc101 h
    refine j_aload_n 12 C dX4_add_11 0 rfl rfl ?_
    refine g_W 15 C K ho0 3 (by decide) mw_206 rfl dX4_add_12 rfl ?_
    refine j_aload_n 16 C dX4_add_15 0 rfl rfl ?_
    refine g_W 19 C K ho0 0 (by decide) mw_200 rfl dX4_add_16 rfl ?_
    refine r_len 20 C K (ar_1 _ ho0) (ca_1 _ _ ho0) dX4_add_19 rfl ?_
    refine j_icmp_lt 23 27 C dX4_add_20 (by decide) rfl (fun hc102 => ?_) (fun hc102 => ?_)
    · replace h := it_t hc102 h
      refine j_widen (k' := 3) (n' := 1536) (by omega) (by omega) ?_
      exact wn_X4_add_27 C K M ho0 lay σ  h
    · replace h := it_f hc102 h
      refine j_aload_n 24 C dX4_add_23 0 rfl rfl ?_
      obtain ⟨σ103, u104, hF, h⟩ := bd_e h
      refine k_Vv 27 C K (c_X4_grow K.2.2.2 g A lay ho0 hF) cp_X4_grow (rv_W ho0) mw_712 dX4_add_24 rfl rfl (Nat.le_of_ble_eq_true rfl) ⟨Nat.le_of_ble_eq_true rfl, Nat.le_of_ble_eq_true rfl⟩ ⟨by simp only [rmk]; omega, by simp only [rmk]; omega⟩ rfl (fun lay => ?_)
      exact wn_X4_add_27 C K M ho0 lay σ103  h
  · replace h := it_f hc101 h
    cases h
    refine j_widen (k' := 3) (n' := 1536) (by omega) (by omega) ?_
    exact x_v C M dX4_add_10
theorem cp_X3_write : CPv yX3_write cX3_write 4 none RX3 3 := ⟨mw_705, mw_706, mw_102, mw_707, rfl, by decide, by decide, by decide +kernel⟩
set_option maxHeartbeats 4000000 in
set_option maxRecDepth 100000 in
theorem c_X3_write {l : Launch} (hst : l.stackTraces = false) (g : GG) (A : Nat → Prop) (lay : Nat → Nat) {σ : CS} {σ' : CS} {r : Unit} {o0 : Nat} {x1 : Int32} {x2 : Int32} {x3 : Int32} (ho0 : o0 < 7) (h : F_X3_write σ o0 x1 x2 x3 = some (σ', r)) : MV l yX3_write cX3_write 4 4 104 3 1536 [.ref (ga g (5 + o0)), .int x1, .int x2, .int x3] (CH g A) g A lay σ σ' := by
  unfold F_X3_write at h
  refine e_v (own := RX3) (lo := [(0, .ref (ga g (5 + o0))), (1, .int x1), (2, .int x2), (3, .int x3)]) hst (plainFor_of_name (by decide)) rfl rfl (Nat.le_of_ble_eq_true rfl) ?_
  intro p e s m args below meth c C K M
  refine j_aload_n 1 C dX3_write_0 0 rfl rfl ?_
  refine g_N 4 C K ho0 3 (by decide) mw_223 rfl dX3_write_1 rfl ?_
  refine j_iload_n 5 C dX3_write_4 1 rfl rfl ?_
  refine j_iload_n 6 C dX3_write_5 2 rfl rfl ?_
  refine j_iload_n 7 C dX3_write_6 3 rfl rfl ?_
  obtain ⟨σ101, u102, hF, h⟩ := bd_e h
  refine k_Vv 10 C K (c_X4_add K.2.2.2 g A lay ho0 hF) cp_X4_add (rv_W ho0) mw_708 dX3_write_7 rfl rfl (Nat.le_of_ble_eq_true rfl) ⟨Nat.le_of_ble_eq_true rfl, Nat.le_of_ble_eq_true rfl⟩ ⟨by simp only [rmk]; omega, by simp only [rmk]; omega⟩ rfl (fun lay => ?_)
  refine j_aload_n 11 C dX3_write_10 0 rfl rfl ?_
  refine g_N 14 C K ho0 2 (by decide) mw_221 rfl dX3_write_11 rfl ?_
  refine j_iload_n 15 C dX3_write_14 1 rfl rfl ?_
  refine j_iload_n 16 C dX3_write_15 2 rfl rfl ?_
  refine j_iload_n 17 C dX3_write_16 3 rfl rfl ?_
  obtain ⟨σ103, u104, hF, h⟩ := bd_e h
  refine k_Vv 20 C K (c_X1_carryOut K.2.2.2 g A lay (by omega) hF) cp_X1_carryOut (rv_D (by omega)) mw_730 dX3_write_17 rfl rfl (Nat.le_of_ble_eq_true rfl) ⟨Nat.le_of_ble_eq_true rfl, Nat.le_of_ble_eq_true rfl⟩ ⟨by simp only [rmk]; omega, by simp only [rmk]; omega⟩ rfl (fun lay => ?_)
  cases h
  exact x_v C M dX3_write_20
theorem cp_X4_carryOutOn : CPv yX4_carryOutOn cX4_carryOutOn 4 none RX4 2 := ⟨mw_736, mw_737, mw_103, mw_738, rfl, by decide, by decide, by decide +kernel⟩
set_option maxHeartbeats 4000000 in
set_option maxRecDepth 100000 in
theorem wn_X4_carryOutOn_2 {l : Launch} {p : Program} {e : Env} {s : State} {m : MethodId} {args : Array Value} {below : List Frame} {meth : Method} {c : Code} {g : GG} {A : Nat → Prop} (C : KX p m c cX4_carryOutOn 4 s args RX4) (K : KC l g A s) (M : KM meth none) {σ' : CS} {r : Unit} {o0 : Nat} {o1 : Nat} {x2 : Int32} (ho0 : o0 < 7) (ho1 : o1 < 15)    : ∀ (fu : Nat) (lay : Nat → Nat) (σ : CS) (v3 : Int32), B_X4_carryOutOn_2 o0 o1 x2 fu σ v3 = some (σ', r) → JJ p l e (rmk 1 23 0 0) s m args below meth c (MQ below (va_Qv (fun u : CS => u = σ') (BC (CH g A)) A) args s 0 0 A) A 4 (CH g A lay σ) 0 0 2 [(0, .ref (ga g (12 + o0))), (1, .ref (ga g (26 + o1))), (2, .int x2), (3, .int v3)] [] := by
  intro fu
  induction fu with
  | zero =>
    intro lay σ v3 h
    exact nomatch (show (none : Option _) = some _ from h)
  | succ fu ih2 =>
    intro lay σ v3 h
    unfold B_X4_carryOutOn_2 at h
    rw [lo2_s] at h
    refine j_iload_n 3 C dX4_carryOutOn_2 3 rfl rfl ?_
    refine j_iload_n 4 C dX4_carryOutOn_3 2 rfl rfl ?_
    refine j_icmp_ge 7 43 C dX4_carryOutOn_4 (by decide) rfl (fun hc101 => ?_) (fun hc101 => ?_)
    · replace h := it_t hc101 h
      cases h
      exact x_v C M dX4_carryOutOn_43
    · replace h := it_f hc101 h
      refine j_iload_n 8 C dX4_carryOutOn_7 3 rfl rfl ?_
      refine j_aload_n 9 C dX4_carryOutOn_8 0 rfl rfl ?_
      refine g_W 12 C K ho0 3 (by decide) mw_206 rfl dX4_carryOutOn_9 rfl ?_
      refine j_icmp_ge 15 43 C dX4_carryOutOn_12 (by decide) rfl (fun hc102 => ?_) (fun hc102 => ?_)
      · replace h := it_t hc102 h
        cases h
        exact x_v C M dX4_carryOutOn_43
      · replace h := it_f hc102 h
        refine j_aload_n 16 C dX4_carryOutOn_15 1 rfl rfl ?_
        refine j_aload_n 17 C dX4_carryOutOn_16 0 rfl rfl ?_
        refine g_W 20 C K ho0 0 (by decide) mw_200 rfl dX4_carryOutOn_17 rfl ?_
        refine j_iload_n 21 C dX4_carryOutOn_20 3 rfl rfl ?_
        obtain ⟨hz103, h⟩ := gd_e h
        refine r_ild 22 C K (ar_1 _ ho0) (ca_1 _ _ ho0) hz103 dX4_carryOutOn_21 rfl ?_
        refine j_aload_n 23 C dX4_carryOutOn_22 0 rfl rfl ?_
        refine g_W 26 C K ho0 1 (by decide) mw_202 rfl dX4_carryOutOn_23 rfl ?_
        refine j_iload_n 27 C dX4_carryOutOn_26 3 rfl rfl ?_
        obtain ⟨hz104, h⟩ := gd_e h
        refine r_ild 28 C K (ar_2 _ ho0) (ca_2 _ _ ho0) hz104 dX4_carryOutOn_27 rfl ?_
        refine j_aload_n 29 C dX4_carryOutOn_28 0 rfl rfl ?_
        refine g_W 32 C K ho0 2 (by decide) mw_204 rfl dX4_carryOutOn_29 rfl ?_
        refine j_iload_n 33 C dX4_carryOutOn_32 3 rfl rfl ?_
        obtain ⟨hz105, h⟩ := gd_e h
        refine r_ild 34 C K (ar_3 _ ho0) (ca_3 _ _ ho0) hz105 dX4_carryOutOn_33 rfl ?_
        obtain ⟨σ106, u107, hF, h⟩ := bd_e h
        refine k_Vv 37 C K (c_X1_carryOut K.2.2.2 g A lay ho1 hF) cp_X1_carryOut (rv_D ho1) mw_739 dX4_carryOutOn_34 rfl rfl (Nat.le_of_ble_eq_true rfl) ⟨Nat.le_of_ble_eq_true rfl, Nat.le_of_ble_eq_true rfl⟩ ⟨Nat.le_of_ble_eq_true rfl, Nat.le_of_ble_eq_true rfl⟩ rfl (fun lay => ?_)
        obtain ⟨x108, ex108⟩ : ∃ z : Int32, z = v3 + 1 := ⟨_, rfl⟩
        replace h := lt_e h x108 ex108
        refine j_iinc 40 C dX4_carryOutOn_37 3 rfl (v := x108) ((ii_1 _).trans ex108.symm) (lo' := [(3, .int x108), (0, .ref (ga g (12 + o0))), (1, .ref (ga g (26 + o1))), (2, .int x2)]) (by decide) rfl rfl ?_
        refine j_goto 2 C dX4_carryOutOn_40 (by decide) ?_
        refine j_sub [1, 2, 3, 0] (lo' := [(0, .ref (ga g (12 + o0))), (1, .ref (ga g (26 + o1))), (2, .int x2), (3, .int x108)]) rfl ?_
        exact ih2 lay σ106 x108 h
set_option maxHeartbeats 4000000 in
set_option maxRecDepth 100000 in
theorem c_X4_carryOutOn {l : Launch} (hst : l.stackTraces = false) (g : GG) (A : Nat → Prop) (lay : Nat → Nat) {σ : CS} {σ' : CS} {r : Unit} {o0 : Nat} {o1 : Nat} {x2 : Int32} (ho0 : o0 < 7) (ho1 : o1 < 15) (h : F_X4_carryOutOn σ o0 o1 x2 = some (σ', r)) : MV l yX4_carryOutOn cX4_carryOutOn 4 1 23 0 0 [.ref (ga g (12 + o0)), .ref (ga g (26 + o1)), .int x2] (CH g A) g A lay σ σ' := by
  unfold F_X4_carryOutOn at h
  refine e_v (own := RX4) (lo := [(0, .ref (ga g (12 + o0))), (1, .ref (ga g (26 + o1))), (2, .int x2)]) hst (plainFor_of_name (by decide)) rfl rfl (Nat.le_of_ble_eq_true rfl) ?_
  intro p e s m args below meth c C K M
  refine j_iconst 1 C dX4_carryOutOn_0 ic_0 rfl ?_
  refine j_istore_n 2 C dX4_carryOutOn_1 (lo' := [(3, .int (0 : Int32)), (0, .ref (ga g (12 + o0))), (1, .ref (ga g (26 + o1))), (2, .int x2)]) (by decide) rfl rfl ?_
  refine j_sub [1, 2, 3, 0] (lo' := [(0, .ref (ga g (12 + o0))), (1, .ref (ga g (26 + o1))), (2, .int x2), (3, .int (0 : Int32))]) rfl ?_
  exact wn_X4_carryOutOn_2 C K M ho0 ho1 4096 lay σ (0 : Int32) h
theorem cp_X3_carryOutAll : CPv yX3_carryOutAll cX3_carryOutAll 2 (some .int) RX3 0 := ⟨mw_732, mw_733, mw_102, mw_734, rfl, by decide, by decide, by decide +kernel⟩
set_option maxHeartbeats 4000000 in
set_option maxRecDepth 100000 in
theorem c_X3_carryOutAll {l : Launch} (hst : l.stackTraces = false) (g : GG) (A : Nat → Prop) (lay : Nat → Nat) {σ : CS} {σ' : CS} {r : Int32} {o0 : Nat} (ho0 : o0 < 7) (h : F_X3_carryOutAll σ o0 = some (σ', r)) : MI l yX3_carryOutAll cX3_carryOutAll 2 .int 2 46 0 0 [.ref (ga g (5 + o0))] (CH g A) g A lay σ σ' r := by
  unfold F_X3_carryOutAll at h
  refine e_i (own := RX3) (lo := [(0, .ref (ga g (5 + o0)))]) hst (plainFor_of_name (by decide)) rfl rfl (Nat.le_of_ble_eq_true rfl) ?_
  intro p e s m args below meth c C K M
  refine j_aload_n 1 C dX3_carryOutAll_0 0 rfl rfl ?_
  refine g_N 4 C K ho0 3 (by decide) mw_223 rfl dX3_carryOutAll_1 rfl ?_
  refine g_W 7 C K ho0 3 (by decide) mw_207 rfl dX3_carryOutAll_4 rfl ?_
  refine j_topi (fun x101 ex101 => ?_)
  replace h := lt_e h x101 ex101
  refine j_istore_n 8 C dX3_carryOutAll_7 (lo' := [(1, .int x101), (0, .ref (ga g (5 + o0)))]) (by decide) rfl rfl ?_
  refine j_aload_n 9 C dX3_carryOutAll_8 1 rfl rfl ?_
  refine g_N 12 C K ho0 3 (by decide) mw_223 rfl dX3_carryOutAll_9 rfl ?_
  refine j_aload_n 13 C dX3_carryOutAll_12 1 rfl rfl ?_
  refine g_N 16 C K ho0 1 (by decide) mw_219 rfl dX3_carryOutAll_13 rfl ?_
  refine j_iload_n 17 C dX3_carryOutAll_16 0 rfl rfl ?_
  obtain ⟨σ102, u103, hF, h⟩ := bd_e h
  refine k_Vv 20 C K (c_X4_carryOutOn K.2.2.2 g A lay ho0 (by omega) hF) cp_X4_carryOutOn (rv_W ho0) mw_735 dX3_carryOutAll_17 rfl rfl (Nat.le_of_ble_eq_true rfl) ⟨Nat.le_of_ble_eq_true rfl, Nat.le_of_ble_eq_true rfl⟩ ⟨Nat.le_of_ble_eq_true rfl, Nat.le_of_ble_eq_true rfl⟩ rfl (fun lay => ?_)
  refine j_aload_n 21 C dX3_carryOutAll_20 1 rfl rfl ?_
  refine g_N 24 C K ho0 3 (by decide) mw_223 rfl dX3_carryOutAll_21 rfl ?_
  refine j_iconst 25 C dX3_carryOutAll_24 ic_0 rfl ?_
  refine p_W 28 C K ho0 3 (by decide) mw_207 rfl rfl dX3_carryOutAll_25 rfl (fun σ104 eσ104 => ?_)
  replace h := lt_e h σ104 eσ104
  refine j_iload_n 29 C dX3_carryOutAll_28 0 rfl rfl ?_
  cases h
  exact x_i C M dX3_carryOutAll_29
theorem cp_X4_keptOf : CPv yX4_keptOf cX4_keptOf 2 (some .int) RX4 1 := ⟨mw_798, mw_799, mw_103, mw_800, rfl, by decide, by decide, by decide +kernel⟩
set_option maxHeartbeats 4000000 in
set_option maxRecDepth 100000 in
theorem c_X4_keptOf {l : Launch} (hst : l.stackTraces = false) (g : GG) (A : Nat → Prop) (lay : Nat → Nat) {σ : CS} {σ' : CS} {r : Int32} {o0 : Nat} {x1 : Int32} (ho0 : o0 < 7) (h : F_X4_keptOf σ o0 x1 = some (σ', r)) : MI l yX4_keptOf cX4_keptOf 2 .int 1 30 0 0 [.ref (ga g (12 + o0)), .int x1] (CH g A) g A lay σ σ' r := by
  unfold F_X4_keptOf at h
  refine e_i (own := RX4) (lo := [(0, .ref (ga g (12 + o0))), (1, .int x1)]) hst (plainFor_of_name (by decide)) rfl rfl (Nat.le_of_ble_eq_true rfl) ?_
  intro p e s m args below meth c C K M
  refine j_aload_n 1 C dX4_keptOf_0 0 rfl rfl ?_
  refine g_W 4 C K ho0 3 (by decide) mw_206 rfl dX4_keptOf_1 rfl ?_
  refine j_iload_n 5 C dX4_keptOf_4 1 rfl rfl ?_
  refine j_aload_n 6 C dX4_keptOf_5 0 rfl rfl ?_
  refine g_W 9 C K ho0 3 (by decide) mw_206 rfl dX4_keptOf_6 rfl ?_
  refine j_mmin 12 C mw_801 dX4_keptOf_9 (Nat.le_of_ble_eq_true rfl) (Nat.le_of_ble_eq_true rfl) (Nat.le_of_ble_eq_true rfl) (Nat.le_of_ble_eq_true rfl) rfl ?_
  refine j_isub 13 C dX4_keptOf_12 rfl ?_
  cases h
  exact x_i C M dX4_keptOf_13
theorem cp_X3_fall : CPv yX3_fall cX3_fall 4 (some .int) RX3 1 := ⟨mw_794, mw_795, mw_102, mw_796, rfl, by decide, by decide, by decide +kernel⟩
set_option maxHeartbeats 4000000 in
set_option maxRecDepth 100000 in
theorem c_X3_fall {l : Launch} (hst : l.stackTraces = false) (g : GG) (A : Nat → Prop) (lay : Nat → Nat) {σ : CS} {σ' : CS} {r : Int32} {o0 : Nat} {x1 : Int32} (ho0 : o0 < 7) (h : F_X3_fall σ o0 x1 = some (σ', r)) : MI l yX3_fall cX3_fall 4 .int 2 51 0 0 [.ref (ga g (5 + o0)), .int x1] (CH g A) g A lay σ σ' r := by
  unfold F_X3_fall at h
  refine e_i (own := RX3) (lo := [(0, .ref (ga g (5 + o0))), (1, .int x1)]) hst (plainFor_of_name (by decide)) rfl rfl (Nat.le_of_ble_eq_true rfl) ?_
  intro p e s m args below meth c C K M
  refine j_aload_n 1 C dX3_fall_0 0 rfl rfl ?_
  refine g_N 4 C K ho0 3 (by decide) mw_223 rfl dX3_fall_1 rfl ?_
  refine g_W 7 C K ho0 3 (by decide) mw_207 rfl dX3_fall_4 rfl ?_
  refine j_topi (fun x101 ex101 => ?_)
  replace h := lt_e h x101 ex101
  refine j_istore_n 8 C dX3_fall_7 (lo' := [(2, .int x101), (0, .ref (ga g (5 + o0))), (1, .int x1)]) (by decide) rfl rfl ?_
  refine j_aload_n 9 C dX3_fall_8 1 rfl rfl ?_
  refine g_N 12 C K ho0 3 (by decide) mw_223 rfl dX3_fall_9 rfl ?_
  refine j_iload_n 13 C dX3_fall_12 2 rfl rfl ?_
  obtain ⟨σ102, r103, hF, h⟩ := bd_e h
  refine k_Vi 16 C K (c_X4_keptOf K.2.2.2 g A lay ho0 hF) cp_X4_keptOf (rv_W ho0) mw_797 dX3_fall_13 rfl rfl (Nat.le_of_ble_eq_true rfl) ⟨Nat.le_of_ble_eq_true rfl, Nat.le_of_ble_eq_true rfl⟩ ⟨Nat.le_of_ble_eq_true rfl, Nat.le_of_ble_eq_true rfl⟩ rfl (fun lay => ?_)
  refine j_istore_n 17 C dX3_fall_16 (lo' := [(3, .int r103), (2, .int x101), (0, .ref (ga g (5 + o0))), (1, .int x1)]) (by decide) rfl rfl ?_
  refine j_aload_n 18 C dX3_fall_17 2 rfl rfl ?_
  refine g_N 21 C K ho0 3 (by decide) mw_223 rfl dX3_fall_18 rfl ?_
  refine j_aload_n 22 C dX3_fall_21 2 rfl rfl ?_
  refine g_N 25 C K ho0 1 (by decide) mw_219 rfl dX3_fall_22 rfl ?_
  refine j_iload_n 26 C dX3_fall_25 0 rfl rfl ?_
  obtain ⟨σ104, u105, hF, h⟩ := bd_e h
  refine k_Vv 29 C K (c_X4_carryOutOn K.2.2.2 g A lay ho0 (by omega) hF) cp_X4_carryOutOn (rv_W ho0) mw_735 dX3_fall_26 rfl rfl (Nat.le_of_ble_eq_true rfl) ⟨Nat.le_of_ble_eq_true rfl, Nat.le_of_ble_eq_true rfl⟩ ⟨Nat.le_of_ble_eq_true rfl, Nat.le_of_ble_eq_true rfl⟩ rfl (fun lay => ?_)
  refine j_aload_n 30 C dX3_fall_29 2 rfl rfl ?_
  refine g_N 33 C K ho0 3 (by decide) mw_223 rfl dX3_fall_30 rfl ?_
  refine j_iconst 34 C dX3_fall_33 ic_0 rfl ?_
  refine p_W 37 C K ho0 3 (by decide) mw_207 rfl rfl dX3_fall_34 rfl (fun σ106 eσ106 => ?_)
  replace h := lt_e h σ106 eσ106
  refine j_aload_n 38 C dX3_fall_37 2 rfl rfl ?_
  refine g_N 41 C K ho0 2 (by decide) mw_221 rfl dX3_fall_38 rfl ?_
  refine j_aload_n 42 C dX3_fall_41 2 rfl rfl ?_
  refine g_N 45 C K ho0 1 (by decide) mw_219 rfl dX3_fall_42 rfl ?_
  obtain ⟨σ107, u108, hF, h⟩ := bd_e h
  refine k_Vv 48 C K (c_X1_copyFrom K.2.2.2 g A lay (by omega) (by omega) hF) cp_X1_copyFrom (rv_D (by omega)) mw_802 dX3_fall_45 rfl rfl (Nat.le_of_ble_eq_true rfl) ⟨Nat.le_of_ble_eq_true rfl, Nat.le_of_ble_eq_true rfl⟩ ⟨Nat.le_of_ble_eq_true rfl, Nat.le_of_ble_eq_true rfl⟩ rfl (fun lay => ?_)
  refine j_aload_n 49 C dX3_fall_48 2 rfl rfl ?_
  refine j_iconst 50 C dX3_fall_49 ic_0 rfl ?_
  refine p_N 53 C K ho0 5 (by decide) mw_227 rfl rfl dX3_fall_50 rfl (fun σ109 eσ109 => ?_)
  replace h := lt_e h σ109 eσ109
  refine j_aload_n 54 C dX3_fall_53 2 rfl rfl ?_
  refine j_iconst 55 C dX3_fall_54 ic_m1 rfl ?_
  refine p_N 58 C K ho0 9 (by decide) mw_235 rfl rfl dX3_fall_55 rfl (fun σ110 eσ110 => ?_)
  replace h := lt_e h σ110 eσ110
  refine j_aload_n 59 C dX3_fall_58 2 rfl rfl ?_
  refine j_iconst 60 C dX3_fall_59 ic_0 rfl ?_
  refine p_N 63 C K ho0 8 (by decide) mw_233 rfl rfl dX3_fall_60 rfl (fun σ111 eσ111 => ?_)
  replace h := lt_e h σ111 eσ111
  refine j_iload_n 64 C dX3_fall_63 1 rfl rfl ?_
  refine j_iload_n 65 C dX3_fall_64 0 rfl rfl ?_
  refine j_isub 66 C dX3_fall_65 rfl ?_
  cases h
  exact x_i C M dX3_fall_66
theorem cp_X3_loseDisk : CPv yX3_loseDisk cX3_loseDisk 2 (some .int) RX3 0 := ⟨mw_816, mw_817, mw_102, mw_818, rfl, by decide, by decide, by decide +kernel⟩
set_option maxHeartbeats 4000000 in
set_option maxRecDepth 100000 in
theorem c_X3_loseDisk {l : Launch} (hst : l.stackTraces = false) (g : GG) (A : Nat → Prop) (lay : Nat → Nat) {σ : CS} {σ' : CS} {r : Int32} {o0 : Nat} (ho0 : o0 < 7) (h : F_X3_loseDisk σ o0 = some (σ', r)) : MI l yX3_loseDisk cX3_loseDisk 2 .int 2 43 0 0 [.ref (ga g (5 + o0))] (CH g A) g A lay σ σ' r := by
  unfold F_X3_loseDisk at h
  refine e_i (own := RX3) (lo := [(0, .ref (ga g (5 + o0)))]) hst (plainFor_of_name (by decide)) rfl rfl (Nat.le_of_ble_eq_true rfl) ?_
  intro p e s m args below meth c C K M
  refine j_aload_n 1 C dX3_loseDisk_0 0 rfl rfl ?_
  refine g_N 4 C K ho0 1 (by decide) mw_219 rfl dX3_loseDisk_1 rfl ?_
  obtain ⟨σ101, r102, hF, h⟩ := bd_e h
  refine k_Vi 7 C K (c_X1_acceptedSlots K.2.2.2 g A lay (by omega) hF) cp_X1_acceptedSlots (rv_D (by omega)) mw_819 dX3_loseDisk_4 rfl rfl (Nat.le_of_ble_eq_true rfl) ⟨Nat.le_of_ble_eq_true rfl, Nat.le_of_ble_eq_true rfl⟩ ⟨Nat.le_of_ble_eq_true rfl, Nat.le_of_ble_eq_true rfl⟩ rfl (fun lay => ?_)
  refine j_istore_n 8 C dX3_loseDisk_7 (lo' := [(1, .int r102), (0, .ref (ga g (5 + o0)))]) (by decide) rfl rfl ?_
  refine j_aload_n 9 C dX3_loseDisk_8 1 rfl rfl ?_
  refine g_N 12 C K ho0 1 (by decide) mw_219 rfl dX3_loseDisk_9 rfl ?_
  obtain ⟨σ103, u104, hF, h⟩ := bd_e h
  refine k_Vv 15 C K (c_X1_reset K.2.2.2 g A lay (by omega) hF) cp_X1_reset (rv_D (by omega)) mw_660 dX3_loseDisk_12 rfl rfl (Nat.le_of_ble_eq_true rfl) ⟨Nat.le_of_ble_eq_true rfl, Nat.le_of_ble_eq_true rfl⟩ ⟨Nat.le_of_ble_eq_true rfl, Nat.le_of_ble_eq_true rfl⟩ rfl (fun lay => ?_)
  refine j_aload_n 16 C dX3_loseDisk_15 1 rfl rfl ?_
  refine g_N 19 C K ho0 2 (by decide) mw_221 rfl dX3_loseDisk_16 rfl ?_
  obtain ⟨σ105, u106, hF, h⟩ := bd_e h
  refine k_Vv 22 C K (c_X1_reset K.2.2.2 g A lay (by omega) hF) cp_X1_reset (rv_D (by omega)) mw_660 dX3_loseDisk_19 rfl rfl (Nat.le_of_ble_eq_true rfl) ⟨Nat.le_of_ble_eq_true rfl, Nat.le_of_ble_eq_true rfl⟩ ⟨Nat.le_of_ble_eq_true rfl, Nat.le_of_ble_eq_true rfl⟩ rfl (fun lay => ?_)
  refine j_aload_n 23 C dX3_loseDisk_22 1 rfl rfl ?_
  refine j_iconst 24 C dX3_loseDisk_23 ic_0 rfl ?_
  refine p_N 27 C K ho0 6 (by decide) mw_229 rfl rfl dX3_loseDisk_24 rfl (fun σ107 eσ107 => ?_)
  replace h := lt_e h σ107 eσ107
  refine j_iload_n 28 C dX3_loseDisk_27 0 rfl rfl ?_
  cases h
  exact x_i C M dX3_loseDisk_28
theorem cp_X3_bringUp : CPv yX3_bringUp cX3_bringUp 1 (some .int) RX3 0 := ⟨mw_832, mw_833, mw_102, mw_834, rfl, by decide, by decide, by decide +kernel⟩
set_option maxHeartbeats 4000000 in
set_option maxRecDepth 100000 in
theorem c_X3_bringUp {l : Launch} (hst : l.stackTraces = false) (g : GG) (A : Nat → Prop) (lay : Nat → Nat) {σ : CS} {σ' : CS} {r : Int32} {o0 : Nat} (ho0 : o0 < 7) (h : F_X3_bringUp σ o0 = some (σ', r)) : MI l yX3_bringUp cX3_bringUp 1 .int 0 0 0 0 [.ref (ga g (5 + o0))] (CH g A) g A lay σ σ' r := by
  unfold F_X3_bringUp at h
  refine e_i (own := RX3) (lo := [(0, .ref (ga g (5 + o0)))]) hst (plainFor_of_name (by decide)) rfl rfl (Nat.le_of_ble_eq_true rfl) ?_
  intro p e s m args below meth c C K M
  refine j_aload_n 1 C dX3_bringUp_0 0 rfl rfl ?_
  refine j_iconst 2 C dX3_bringUp_1 ic_1 rfl ?_
  refine p_N 5 C K ho0 5 (by decide) mw_227 rfl rfl dX3_bringUp_2 rfl (fun σ101 eσ101 => ?_)
  replace h := lt_e h σ101 eσ101
  refine j_aload_n 6 C dX3_bringUp_5 0 rfl rfl ?_
  refine j_dup 7 C dX3_bringUp_6 rfl rfl ?_
  refine g_N 10 C K ho0 7 (by decide) mw_231 rfl dX3_bringUp_7 rfl ?_
  refine j_iconst 11 C dX3_bringUp_10 ic_1 rfl ?_
  refine j_iadd 12 C dX3_bringUp_11 rfl ?_
  refine p_N 15 C K ho0 7 (by decide) mw_231 rfl rfl dX3_bringUp_12 rfl (fun σ102 eσ102 => ?_)
  replace h := lt_e h σ102 eσ102
  refine j_aload_n 16 C dX3_bringUp_15 0 rfl rfl ?_
  refine g_N 19 C K ho0 7 (by decide) mw_231 rfl dX3_bringUp_16 rfl ?_
  cases h
  exact x_i C M dX3_bringUp_19
theorem cp_X3_join : CPv yX3_join cX3_join 2 none RX3 1 := ⟨mw_853, mw_854, mw_102, mw_855, rfl, by decide, by decide, by decide +kernel⟩
set_option maxHeartbeats 4000000 in
set_option maxRecDepth 100000 in
theorem c_X3_join {l : Launch} (hst : l.stackTraces = false) (g : GG) (A : Nat → Prop) (lay : Nat → Nat) {σ : CS} {σ' : CS} {r : Unit} {o0 : Nat} {o1 : Nat} (ho0 : o0 < 7) (ho1 : o1 < 15) (h : F_X3_join σ o0 o1 = some (σ', r)) : MV l yX3_join cX3_join 2 2 51 0 0 [.ref (ga g (5 + o0)), .ref (ga g (26 + o1))] (CH g A) g A lay σ σ' := by
  unfold F_X3_join at h
  refine e_v (own := RX3) (lo := [(0, .ref (ga g (5 + o0))), (1, .ref (ga g (26 + o1)))]) hst (plainFor_of_name (by decide)) rfl rfl (Nat.le_of_ble_eq_true rfl) ?_
  intro p e s m args below meth c C K M
  refine j_aload_n 1 C dX3_join_0 0 rfl rfl ?_
  refine g_N 4 C K ho0 1 (by decide) mw_219 rfl dX3_join_1 rfl ?_
  refine j_aload_n 5 C dX3_join_4 1 rfl rfl ?_
  obtain ⟨σ101, u102, hF, h⟩ := bd_e h
  refine k_Vv 8 C K (c_X1_copyFrom K.2.2.2 g A lay (by omega) ho1 hF) cp_X1_copyFrom (rv_D (by omega)) mw_802 dX3_join_5 rfl rfl (Nat.le_of_ble_eq_true rfl) ⟨Nat.le_of_ble_eq_true rfl, Nat.le_of_ble_eq_true rfl⟩ ⟨Nat.le_of_ble_eq_true rfl, Nat.le_of_ble_eq_true rfl⟩ rfl (fun lay => ?_)
  refine j_aload_n 9 C dX3_join_8 0 rfl rfl ?_
  refine g_N 12 C K ho0 2 (by decide) mw_221 rfl dX3_join_9 rfl ?_
  refine j_aload_n 13 C dX3_join_12 1 rfl rfl ?_
  obtain ⟨σ103, u104, hF, h⟩ := bd_e h
  refine k_Vv 16 C K (c_X1_copyFrom K.2.2.2 g A lay (by omega) ho1 hF) cp_X1_copyFrom (rv_D (by omega)) mw_802 dX3_join_13 rfl rfl (Nat.le_of_ble_eq_true rfl) ⟨Nat.le_of_ble_eq_true rfl, Nat.le_of_ble_eq_true rfl⟩ ⟨Nat.le_of_ble_eq_true rfl, Nat.le_of_ble_eq_true rfl⟩ rfl (fun lay => ?_)
  refine j_aload_n 17 C dX3_join_16 0 rfl rfl ?_
  refine j_iconst 18 C dX3_join_17 ic_1 rfl ?_
  refine p_N 21 C K ho0 6 (by decide) mw_229 rfl rfl dX3_join_18 rfl (fun σ105 eσ105 => ?_)
  replace h := lt_e h σ105 eσ105
  refine j_aload_n 22 C dX3_join_21 0 rfl rfl ?_
  refine j_aload_n 23 C dX3_join_22 1 rfl rfl ?_
  refine g_D 26 C K ho1 0 (by decide) mw_139 rfl dX3_join_23 rfl ?_
  obtain ⟨σ106, u107, hF, h⟩ := bd_e h
  refine k_Vv 29 C K (c_X3_tell K.2.2.2 g A lay ho0 hF) cp_X3_tell (rv_N ho0) mw_856 dX3_join_26 rfl rfl (Nat.le_of_ble_eq_true rfl) ⟨Nat.le_of_ble_eq_true rfl, Nat.le_of_ble_eq_true rfl⟩ ⟨Nat.le_of_ble_eq_true rfl, Nat.le_of_ble_eq_true rfl⟩ rfl (fun lay => ?_)
  cases h
  exact x_v C M dX3_join_29
