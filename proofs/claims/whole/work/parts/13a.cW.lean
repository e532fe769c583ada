theorem cp_X0_reset : CPv yX0_reset cX0_reset 1 none RX0 0 := ⟨mw_665, mw_666, mw_104, mw_667, rfl, by decide, by decide, by decide +kernel⟩
set_option maxHeartbeats 4000000 in
set_option maxRecDepth 100000 in
theorem c_X0_reset {l : Launch} (hst : l.stackTraces = false) (g : GG) (A : Nat → Prop) (lay : Nat → Nat) {σ : CS} {σ' : CS} {r : Unit} {o0 : Nat} (ho0 : o0 < 4) (h : F_X0_reset σ o0 = some (σ', r)) : MV l yX0_reset cX0_reset 1 0 0 0 0 [.ref (ga g (71 + o0))] (CH g A) g A lay σ σ' := by
  unfold F_X0_reset at h
  refine e_v (own := RX0) (lo := [(0, .ref (ga g (71 + o0)))]) hst (plainFor_of_name (by decide)) rfl rfl (Nat.le_of_ble_eq_true rfl) ?_
  intro p e s m args below meth c C K M
  refine j_aload_n 1 C dX0_reset_0 0 rfl rfl ?_
  refine j_iconst 2 C dX0_reset_1 ic_m1 rfl ?_
  refine p_C 5 C K ho0 0 (by decide) mw_263 rfl rfl dX0_reset_2 rfl (fun σ101 eσ101 => ?_)
  replace h := lt_e h σ101 eσ101
  refine j_aload_n 6 C dX0_reset_5 0 rfl rfl ?_
  refine j_iconst 7 C dX0_reset_6 ic_m1 rfl ?_
  refine p_C 10 C K ho0 1 (by decide) mw_265 rfl rfl dX0_reset_7 rfl (fun σ102 eσ102 => ?_)
  replace h := lt_e h σ102 eσ102
  refine j_aload_n 11 C dX0_reset_10 0 rfl rfl ?_
  refine j_iconst 12 C dX0_reset_11 ic_0 rfl ?_
  refine p_C 15 C K ho0 2 (by decide) mw_267 rfl rfl dX0_reset_12 rfl (fun σ103 eσ103 => ?_)
  replace h := lt_e h σ103 eσ103
  refine j_aload_n 16 C dX0_reset_15 0 rfl rfl ?_
  refine j_iconst 17 C dX0_reset_16 ic_0 rfl ?_
  refine p_C 20 C K ho0 3 (by decide) mw_269 rfl rfl dX0_reset_17 rfl (fun σ104 eσ104 => ?_)
  replace h := lt_e h σ104 eσ104
  cases h
  exact x_v C M dX0_reset_20
theorem cp_X0_isMade : CPv yX0_isMade cX0_isMade 1 (some .boolean) RX0 0 := ⟨mw_387, mw_388, mw_104, mw_389, rfl, by decide, by decide, by decide +kernel⟩
set_option maxHeartbeats 4000000 in
set_option maxRecDepth 100000 in
theorem c_X0_isMade {l : Launch} (hst : l.stackTraces = false) (g : GG) (A : Nat → Prop) (lay : Nat → Nat) {σ : CS} {σ' : CS} {r : Int32} {o0 : Nat} (ho0 : o0 < 4) (h : F_X0_isMade σ o0 = some (σ', r)) : MI l yX0_isMade cX0_isMade 1 .boolean 0 0 0 0 [.ref (ga g (71 + o0))] (CH g A) g A lay σ σ' r := by
  unfold F_X0_isMade at h
  refine e_i (own := RX0) (lo := [(0, .ref (ga g (71 + o0)))]) hst (plainFor_of_name (by decide)) rfl rfl (Nat.le_of_ble_eq_true rfl) ?_
  intro p e s m args below meth c C K M
  refine j_aload_n 1 C dX0_isMade_0 0 rfl rfl ?_
  refine g_C 4 C K ho0 2 (by decide) mw_267 rfl dX0_isMade_1 rfl ?_
  refine j_if_le 7 11 C dX0_isMade_4 (by decide) rfl (fun hc101 => ?_) (fun hc101 => ?_)
  · replace h := it_t hc101 h
    refine j_iconst 12 C dX0_isMade_11 ic_0 rfl ?_
    cases h
    exact x_z C M dX0_isMade_12 (by decide)
  · replace h := it_f hc101 h
    refine j_iconst 8 C dX0_isMade_7 ic_1 rfl ?_
    refine j_goto 12 C dX0_isMade_8 (by decide) ?_
    cases h
    exact x_z C M dX0_isMade_12 (by decide)
theorem cp_X0_decide : CPv yX0_decide cX0_decide 3 none RX0 2 := ⟨mw_762, mw_763, mw_104, mw_764, rfl, by decide, by decide, by decide +kernel⟩
set_option maxHeartbeats 4000000 in
set_option maxRecDepth 100000 in
theorem wn_X0_decide_33 {l : Launch} {p : Program} {e : Env} {s : State} {m : MethodId} {args : Array Value} {below : List Frame} {meth : Method} {c : Code} {g : GG} {A : Nat → Prop} (C : KX p m c cX0_decide 3 s args RX0) (K : KC l g A s) (M : KM meth none) {σ' : CS} {r : Unit} {o0 : Nat} {x1 : Int32} {x2 : Int32} (ho0 : o0 < 4)    (lay : Nat → Nat) (σ : CS)   (h : B_X0_decide_33 o0 x1 x2 σ  = some (σ', r)) : JJ p l e (rmk 1 20 0 0) s m args below meth c (MQ below (va_Qv (fun u : CS => u = σ') (BC (CH g A)) A) args s 0 0 A) A 3 (CH g A lay σ) 0 0 33 [(0, .ref (ga g (71 + o0)))] [] := by
  unfold B_X0_decide_33 at h
  refine j_aload_n 34 C dX0_decide_33 0 rfl rfl ?_
  refine j_dup 35 C dX0_decide_34 rfl rfl ?_
  refine g_C 38 C K ho0 2 (by decide) mw_267 rfl dX0_decide_35 rfl ?_
  refine j_iconst 39 C dX0_decide_38 ic_1 rfl ?_
  refine j_iadd 40 C dX0_decide_39 rfl ?_
  refine p_C 43 C K ho0 2 (by decide) mw_267 rfl rfl dX0_decide_40 rfl (fun σ108 eσ108 => ?_)
  replace h := lt_e h σ108 eσ108
  cases h
  exact x_v C M dX0_decide_43
set_option maxHeartbeats 4000000 in
set_option maxRecDepth 100000 in
theorem c_X0_decide {l : Launch} (hst : l.stackTraces = false) (g : GG) (A : Nat → Prop) (lay : Nat → Nat) {σ : CS} {σ' : CS} {r : Unit} {o0 : Nat} {x1 : Int32} {x2 : Int32} (ho0 : o0 < 4) (h : F_X0_decide σ o0 x1 x2 = some (σ', r)) : MV l yX0_decide cX0_decide 3 1 20 0 0 [.ref (ga g (71 + o0)), .int x1, .int x2] (CH g A) g A lay σ σ' := by
  unfold F_X0_decide at h
  refine e_v (own := RX0) (lo := [(0, .ref (ga g (71 + o0))), (1, .int x1), (2, .int x2)]) hst (plainFor_of_name (by decide)) rfl rfl (Nat.le_of_ble_eq_true rfl) ?_
  intro p e s m args below meth c C K M
  refine j_aload_n 1 C dX0_decide_0 0 rfl rfl ?_
  obtain ⟨σ101, r102, hF, h⟩ := bd_e h
  refine k_Vi 4 C K (c_X0_isMade K.2.2.2 g A lay ho0 hF) cp_X0_isMade (rv_C ho0) mw_765 dX0_decide_1 rfl rfl (Nat.le_of_ble_eq_true rfl) ⟨Nat.le_of_ble_eq_true rfl, Nat.le_of_ble_eq_true rfl⟩ ⟨Nat.le_of_ble_eq_true rfl, Nat.le_of_ble_eq_true rfl⟩ rfl (fun lay => ?_)
  refine j_if_ne 7 20 C dX0_decide_4 (by decide) rfl (fun hc103 => ?_) (fun hc103 => ?_)
  · replace h := it_f hc103 h
    refine j_iload_n 21 C dX0_decide_20 2 rfl rfl ?_
    refine j_aload_n 22 C dX0_decide_21 0 rfl rfl ?_
    refine g_C 25 C K ho0 1 (by decide) mw_265 rfl dX0_decide_22 rfl ?_
    refine j_icmp_eq 28 33 C dX0_decide_25 (by decide) rfl (fun hc104 => ?_) (fun hc104 => ?_)
    · replace h := it_t hc104 h
      refine j_sub [0] (lo' := [(0, .ref (ga g (71 + o0)))]) rfl ?_
      exact wn_X0_decide_33 C K M ho0 lay σ101  h
    · replace h := it_f hc104 h
      refine j_aload_n 29 C dX0_decide_28 0 rfl rfl ?_
      refine j_iconst 30 C dX0_decide_29 ic_1 rfl ?_
      refine p_C 33 C K ho0 3 (by decide) mw_269 rfl rfl dX0_decide_30 rfl (fun σ105 eσ105 => ?_)
      replace h := lt_e h σ105 eσ105
      refine j_sub [0] (lo' := [(0, .ref (ga g (71 + o0)))]) rfl ?_
      exact wn_X0_decide_33 C K M ho0 lay σ105  h
  · replace h := it_t hc103 h
    refine j_aload_n 8 C dX0_decide_7 0 rfl rfl ?_
    refine j_iload_n 9 C dX0_decide_8 1 rfl rfl ?_
    refine p_C 12 C K ho0 0 (by decide) mw_263 rfl rfl dX0_decide_9 rfl (fun σ106 eσ106 => ?_)
    replace h := lt_e h σ106 eσ106
    refine j_aload_n 13 C dX0_decide_12 0 rfl rfl ?_
    refine j_iload_n 14 C dX0_decide_13 2 rfl rfl ?_
    refine p_C 17 C K ho0 1 (by decide) mw_265 rfl rfl dX0_decide_14 rfl (fun σ107 eσ107 => ?_)
    replace h := lt_e h σ107 eσ107
    refine j_goto 33 C dX0_decide_17 (by decide) ?_
    refine j_sub [0] (lo' := [(0, .ref (ga g (71 + o0)))]) rfl ?_
    exact wn_X0_decide_33 C K M ho0 lay σ107  h
theorem cp_X0_isHeldBy : CPv yX0_isHeldBy cX0_isHeldBy 3 (some .boolean) RX0 2 := ⟨mw_399, mw_400, mw_104, mw_401, rfl, by decide, by decide, by decide +kernel⟩
set_option maxHeartbeats 4000000 in
set_option maxRecDepth 100000 in
theorem wn_X0_isHeldBy_27 {l : Launch} {p : Program} {e : Env} {s : State} {m : MethodId} {args : Array Value} {below : List Frame} {meth : Method} {c : Code} {g : GG} {A : Nat → Prop} (C : KX p m c cX0_isHeldBy 3 s args RX0) (K : KC l g A s) (M : KM meth (some .boolean)) {σ' : CS} {r : Int32} {o0 : Nat} {x1 : Int32} {x2 : Int32} (ho0 : o0 < 4)    (lay : Nat → Nat) (σ : CS)   (h : B_X0_isHeldBy_27 o0 x1 x2 σ  = some (σ', r)) : JJ p l e (rmk 0 0 0 0) s m args below meth c (MQ below (va_Qi (fun (r0 : Int32) (u : CS) => r0 = r ∧ u = σ') (BC (CH g A)) A) args s 0 0 A) A 3 (CH g A lay σ) 0 0 27 [] [] := by
  unfold B_X0_isHeldBy_27 at h
  refine j_iconst 28 C dX0_isHeldBy_27 ic_0 rfl ?_
  cases h
  exact x_z C M dX0_isHeldBy_28 (by decide)
set_option maxHeartbeats 4000000 in
set_option maxRecDepth 100000 in
theorem c_X0_isHeldBy {l : Launch} (hst : l.stackTraces = false) (g : GG) (A : Nat → Prop) (lay : Nat → Nat) {σ : CS} {σ' : CS} {r : Int32} {o0 : Nat} {x1 : Int32} {x2 : Int32} (ho0 : o0 < 4) (h : F_X0_isHeldBy σ o0 x1 x2 = some (σ', r)) : MI l yX0_isHeldBy cX0_isHeldBy 3 .boolean 0 0 0 0 [.ref (ga g (71 + o0)), .int x1, .int x2] (CH g A) g A lay σ σ' r := by
  unfold F_X0_isHeldBy at h
  refine e_i (own := RX0) (lo := [(0, .ref (ga g (71 + o0))), (1, .int x1), (2, .int x2)]) hst (plainFor_of_name (by decide)) rfl rfl (Nat.le_of_ble_eq_true rfl) ?_
  intro p e s m args below meth c C K M
  refine j_aload_n 1 C dX0_isHeldBy_0 0 rfl rfl ?_
  refine g_C 4 C K ho0 2 (by decide) mw_267 rfl dX0_isHeldBy_1 rfl ?_
  refine j_if_le 7 27 C dX0_isHeldBy_4 (by decide) rfl (fun hc101 => ?_) (fun hc101 => ?_)
  · replace h := it_t hc101 h
    refine j_sub [] (lo' := []) rfl ?_
    exact wn_X0_isHeldBy_27 C K M ho0 lay σ  h
  · replace h := it_f hc101 h
    refine j_iload_n 8 C dX0_isHeldBy_7 2 rfl rfl ?_
    refine j_aload_n 9 C dX0_isHeldBy_8 0 rfl rfl ?_
    refine g_C 12 C K ho0 1 (by decide) mw_265 rfl dX0_isHeldBy_9 rfl ?_
    refine j_icmp_ne 15 27 C dX0_isHeldBy_12 (by decide) rfl (fun hc102 => ?_) (fun hc102 => ?_)
    · replace h := it_f hc102 h
      refine j_sub [] (lo' := []) rfl ?_
      exact wn_X0_isHeldBy_27 C K M ho0 lay σ  h
    · replace h := it_t hc102 h
      refine j_iload_n 16 C dX0_isHeldBy_15 1 rfl rfl ?_
      refine j_aload_n 17 C dX0_isHeldBy_16 0 rfl rfl ?_
      refine g_C 20 C K ho0 0 (by decide) mw_263 rfl dX0_isHeldBy_17 rfl ?_
      refine j_icmp_lt 23 27 C dX0_isHeldBy_20 (by decide) rfl (fun hc103 => ?_) (fun hc103 => ?_)
      · replace h := it_t hc103 h
        refine j_sub [] (lo' := []) rfl ?_
        exact wn_X0_isHeldBy_27 C K M ho0 lay σ  h
      · replace h := it_f hc103 h
        refine j_iconst 24 C dX0_isHeldBy_23 ic_1 rfl ?_
        refine j_goto 28 C dX0_isHeldBy_24 (by decide) ?_
        cases h
        exact x_z C M dX0_isHeldBy_28 (by decide)
theorem cp_X1_reset : CPv yX1_reset cX1_reset 1 none RX1 0 := ⟨mw_661, mw_662, mw_99, mw_663, rfl, by decide, by decide, by decide +kernel⟩
set_option maxHeartbeats 4000000 in
set_option maxRecDepth 100000 in
theorem c_X1_reset {l : Launch} (hst : l.stackTraces = false) (g : GG) (A : Nat → Prop) (lay : Nat → Nat) {σ : CS} {σ' : CS} {r : Unit} {o0 : Nat} (ho0 : o0 < 15) (h : F_X1_reset σ o0 = some (σ', r)) : MV l yX1_reset cX1_reset 1 1 23 0 0 [.ref (ga g (26 + o0))] (CH g A) g A lay σ σ' := by
  unfold F_X1_reset at h
  refine e_v (own := RX1) (lo := [(0, .ref (ga g (26 + o0)))]) hst (plainFor_of_name (by decide)) rfl rfl (Nat.le_of_ble_eq_true rfl) ?_
  intro p e s m args below meth c C K M
  refine j_aload_n 1 C dX1_reset_0 0 rfl rfl ?_
  refine j_iconst 2 C dX1_reset_1 ic_0 rfl ?_
  refine p_D 5 C K ho0 0 (by decide) mw_138 rfl rfl dX1_reset_2 rfl (fun σ101 eσ101 => ?_)
  replace h := lt_e h σ101 eσ101
  refine j_aload_n 6 C dX1_reset_5 0 rfl rfl ?_
  refine g_D 9 C K ho0 1 (by decide) mw_141 rfl dX1_reset_6 rfl ?_
  refine j_iconst 10 C dX1_reset_9 ic_0 rfl ?_
  refine k_Sv 13 C K (c_fill K.2.2.2 g A lay (fun σ => ar_B σ ho0) (ca_B _ _ ho0)) cp_fill mw_135 dX1_reset_10 rfl rfl (Nat.le_of_ble_eq_true rfl) ⟨Nat.le_of_ble_eq_true rfl, Nat.le_of_ble_eq_true rfl⟩ ⟨Nat.le_of_ble_eq_true rfl, Nat.le_of_ble_eq_true rfl⟩ rfl (fun lay => ?_)
  obtain ⟨σ102, eσ102⟩ : ∃ z, z = pf σ101 42 o0 4 (0 : Int32) := ⟨_, rfl⟩
  rw [← eσ102]
  replace h := lt_e h σ102 eσ102
  refine j_aload_n 14 C dX1_reset_13 0 rfl rfl ?_
  refine g_D 17 C K ho0 2 (by decide) mw_143 rfl dX1_reset_14 rfl ?_
  refine j_iconst 18 C dX1_reset_17 ic_m1 rfl ?_
  refine k_Sv 21 C K (c_fill K.2.2.2 g A lay (fun σ => ar_U σ ho0) (ca_U _ _ ho0)) cp_fill mw_135 dX1_reset_18 rfl rfl (Nat.le_of_ble_eq_true rfl) ⟨Nat.le_of_ble_eq_true rfl, Nat.le_of_ble_eq_true rfl⟩ ⟨Nat.le_of_ble_eq_true rfl, Nat.le_of_ble_eq_true rfl⟩ rfl (fun lay => ?_)
  obtain ⟨σ103, eσ103⟩ : ∃ z, z = pf σ102 43 o0 4 (-1 : Int32) := ⟨_, rfl⟩
  rw [← eσ103]
  replace h := lt_e h σ103 eσ103
  cases h
  exact x_v C M dX1_reset_21
theorem cp_X1_copyFrom : CPv yX1_copyFrom cX1_copyFrom 2 none RX1 1 := ⟨mw_560, mw_561, mw_99, mw_562, rfl, by decide, by decide, by decide +kernel⟩
set_option maxHeartbeats 4000000 in
set_option maxRecDepth 100000 in
theorem c_X1_copyFrom {l : Launch} (hst : l.stackTraces = false) (g : GG) (A : Nat → Prop) (lay : Nat → Nat) {σ : CS} {σ' : CS} {r : Unit} {o0 : Nat} {o1 : Nat} (ho0 : o0 < 15) (ho1 : o1 < 15) (h : F_X1_copyFrom σ o0 o1 = some (σ', r)) : MV l yX1_copyFrom cX1_copyFrom 2 1 30 0 0 [.ref (ga g (26 + o0)), .ref (ga g (26 + o1))] (CH g A) g A lay σ σ' := by
  unfold F_X1_copyFrom at h
  refine e_v (own := RX1) (lo := [(0, .ref (ga g (26 + o0))), (1, .ref (ga g (26 + o1)))]) hst (plainFor_of_name (by decide)) rfl rfl (Nat.le_of_ble_eq_true rfl) ?_
  intro p e s m args below meth c C K M
  refine j_aload_n 1 C dX1_copyFrom_0 0 rfl rfl ?_
  refine j_aload_n 2 C dX1_copyFrom_1 1 rfl rfl ?_
  refine g_D 5 C K ho1 0 (by decide) mw_138 rfl dX1_copyFrom_2 rfl ?_
  refine p_D 8 C K ho0 0 (by decide) mw_138 rfl rfl dX1_copyFrom_5 rfl (fun σ101 eσ101 => ?_)
  replace h := lt_e h σ101 eσ101
  refine j_aload_n 9 C dX1_copyFrom_8 1 rfl rfl ?_
  refine g_D 12 C K ho1 1 (by decide) mw_141 rfl dX1_copyFrom_9 rfl ?_
  refine j_iconst 13 C dX1_copyFrom_12 ic_0 rfl ?_
  refine j_aload_n 14 C dX1_copyFrom_13 0 rfl rfl ?_
  refine g_D 17 C K ho0 1 (by decide) mw_141 rfl dX1_copyFrom_14 rfl ?_
  refine j_iconst 18 C dX1_copyFrom_17 ic_0 rfl ?_
  refine j_iconst 19 C dX1_copyFrom_18 ic_4 rfl ?_
  refine r_copy 22 C K (ar_B _ ho1) (ca_B _ _ ho1) (ar_B _ ho0) (ca_B _ _ ho0) mw_563 dX1_copyFrom_19 (Nat.le_of_ble_eq_true rfl) (Nat.le_of_ble_eq_true rfl) rfl (fun σ102 eσ102 => ?_)
  replace h := lt_e h σ102 eσ102
  refine j_aload_n 23 C dX1_copyFrom_22 1 rfl rfl ?_
  refine g_D 26 C K ho1 2 (by decide) mw_143 rfl dX1_copyFrom_23 rfl ?_
  refine j_iconst 27 C dX1_copyFrom_26 ic_0 rfl ?_
  refine j_aload_n 28 C dX1_copyFrom_27 0 rfl rfl ?_
  refine g_D 31 C K ho0 2 (by decide) mw_143 rfl dX1_copyFrom_28 rfl ?_
  refine j_iconst 32 C dX1_copyFrom_31 ic_0 rfl ?_
  refine j_iconst 33 C dX1_copyFrom_32 ic_4 rfl ?_
  refine r_copy 36 C K (ar_U _ ho1) (ca_U _ _ ho1) (ar_U _ ho0) (ca_U _ _ ho0) mw_563 dX1_copyFrom_33 (Nat.le_of_ble_eq_true rfl) (Nat.le_of_ble_eq_true rfl) rfl (fun σ103 eσ103 => ?_)
  replace h := lt_e h σ103 eσ103
  cases h
  exact x_v C M dX1_copyFrom_36
theorem cp_X1_carryOut : CPv yX1_carryOut cX1_carryOut 4 none RX1 3 := ⟨mw_574, mw_575, mw_99, mw_576, rfl, by decide, by decide, by decide +kernel⟩
set_option maxHeartbeats 4000000 in
set_option maxRecDepth 100000 in
theorem c_X1_carryOut {l : Launch} (hst : l.stackTraces = false) (g : GG) (A : Nat → Prop) (lay : Nat → Nat) {σ : CS} {σ' : CS} {r : Unit} {o0 : Nat} {x1 : Int32} {x2 : Int32} {x3 : Int32} (ho0 : o0 < 15) (h : F_X1_carryOut σ o0 x1 x2 x3 = some (σ', r)) : MV l yX1_carryOut cX1_carryOut 4 0 0 0 0 [.ref (ga g (26 + o0)), .int x1, .int x2, .int x3] (CH g A) g A lay σ σ' := by
  unfold F_X1_carryOut at h
  refine e_v (own := RX1) (lo := [(0, .ref (ga g (26 + o0))), (1, .int x1), (2, .int x2), (3, .int x3)]) hst (plainFor_of_name (by decide)) rfl rfl (Nat.le_of_ble_eq_true rfl) ?_
  intro p e s m args below meth c C K M
  refine j_aload_n 1 C dX1_carryOut_0 0 rfl rfl ?_
  refine j_iload_n 2 C dX1_carryOut_1 2 rfl rfl ?_
  refine p_D 5 C K ho0 0 (by decide) mw_138 rfl rfl dX1_carryOut_2 rfl (fun σ101 eσ101 => ?_)
  replace h := lt_e h σ101 eσ101
  refine j_iload_n 6 C dX1_carryOut_5 1 rfl rfl ?_
  refine j_if_lt 9 28 C dX1_carryOut_6 (by decide) rfl (fun hc102 => ?_) (fun hc102 => ?_)
  · replace h := it_t hc102 h
    cases h
    exact x_v C M dX1_carryOut_28
  · replace h := it_f hc102 h
    refine j_iload_n 10 C dX1_carryOut_9 1 rfl rfl ?_
    refine j_iconst 11 C dX1_carryOut_10 ic_4 rfl ?_
    refine j_icmp_ge 14 28 C dX1_carryOut_11 (by decide) rfl (fun hc103 => ?_) (fun hc103 => ?_)
    · replace h := it_t hc103 h
      cases h
      exact x_v C M dX1_carryOut_28
    · replace h := it_f hc103 h
      refine j_aload_n 15 C dX1_carryOut_14 0 rfl rfl ?_
      refine g_D 18 C K ho0 1 (by decide) mw_141 rfl dX1_carryOut_15 rfl ?_
      refine j_iload_n 19 C dX1_carryOut_18 1 rfl rfl ?_
      refine j_iload_n 20 C dX1_carryOut_19 2 rfl rfl ?_
      obtain ⟨hz104, h⟩ := gd_e h
      refine r_ist 21 C K (ar_B _ ho0) (ca_B _ _ ho0) hz104 dX1_carryOut_20 rfl (fun σ105 eσ105 => ?_)
      replace h := lt_e h σ105 eσ105
      refine j_aload_n 22 C dX1_carryOut_21 0 rfl rfl ?_
      refine g_D 25 C K ho0 2 (by decide) mw_143 rfl dX1_carryOut_22 rfl ?_
      refine j_iload_n 26 C dX1_carryOut_25 1 rfl rfl ?_
      refine j_iload_n 27 C dX1_carryOut_26 3 rfl rfl ?_
      obtain ⟨hz106, h⟩ := gd_e h
      refine r_ist 28 C K (ar_U _ ho0) (ca_U _ _ ho0) hz106 dX1_carryOut_27 rfl (fun σ107 eσ107 => ?_)
      replace h := lt_e h σ107 eσ107
      cases h
      exact x_v C M dX1_carryOut_28
theorem cp_X1_takeNewer : CPv yX1_takeNewer cX1_takeNewer 3 none RX1 1 := ⟨mw_741, mw_742, mw_99, mw_743, rfl, by decide, by decide, by decide +kernel⟩
set_option maxHeartbeats 4000000 in
set_option maxRecDepth 100000 in
theorem wn_X1_takeNewer_46 {l : Launch} {p : Program} {e : Env} {s : State} {m : MethodId} {args : Array Value} {below : List Frame} {meth : Method} {c : Code} {g : GG} {A : Nat → Prop} (C : KX p m c cX1_takeNewer 3 s args RX1) (K : KC l g A s) (M : KM meth none) {σ' : CS} {r : Unit} {o0 : Nat} {o1 : Nat} (ho0 : o0 < 15) (ho1 : o1 < 15)  {self2 : CS → Int32 → Option (CS × Unit)} (ih2 : ∀ (lay : Nat → Nat) (σ : CS) (v2 : Int32), self2 σ v2 = some (σ', r) → JJ p l e (rmk 0 0 0 0) s m args below meth c (MQ below (va_Qv (fun u : CS => u = σ') (BC (CH g A)) A) args s 0 0 A) A 3 (CH g A lay σ) 0 0 2 [(0, .ref (ga g (26 + o0))), (1, .ref (ga g (26 + o1))), (2, .int v2)] []) (lay : Nat → Nat) (σ : CS) (v2 : Int32)  (h : B_X1_takeNewer_46 o0 o1 self2 σ v2 = some (σ', r)) : JJ p l e (rmk 0 0 0 0) s m args below meth c (MQ below (va_Qv (fun u : CS => u = σ') (BC (CH g A)) A) args s 0 0 A) A 3 (CH g A lay σ) 0 0 46 [(0, .ref (ga g (26 + o0))), (1, .ref (ga g (26 + o1))), (2, .int v2)] [] := by
  unfold B_X1_takeNewer_46 at h
  obtain ⟨x111, ex111⟩ : ∃ z : Int32, z = v2 + 1 := ⟨_, rfl⟩
  replace h := lt_e h x111 ex111
  refine j_iinc 49 C dX1_takeNewer_46 2 rfl (v := x111) ((ii_1 _).trans ex111.symm) (lo' := [(2, .int x111), (0, .ref (ga g (26 + o0))), (1, .ref (ga g (26 + o1)))]) (by decide) rfl rfl ?_
  refine j_goto 2 C dX1_takeNewer_49 (by decide) ?_
  refine j_sub [1, 2, 0] (lo' := [(0, .ref (ga g (26 + o0))), (1, .ref (ga g (26 + o1))), (2, .int x111)]) rfl ?_
  exact ih2 lay σ x111 h
set_option maxHeartbeats 4000000 in
set_option maxRecDepth 100000 in
theorem wn_X1_takeNewer_2 {l : Launch} {p : Program} {e : Env} {s : State} {m : MethodId} {args : Array Value} {below : List Frame} {meth : Method} {c : Code} {g : GG} {A : Nat → Prop} (C : KX p m c cX1_takeNewer 3 s args RX1) (K : KC l g A s) (M : KM meth none) {σ' : CS} {r : Unit} {o0 : Nat} {o1 : Nat} (ho0 : o0 < 15) (ho1 : o1 < 15)    : ∀ (fu : Nat) (lay : Nat → Nat) (σ : CS) (v2 : Int32), B_X1_takeNewer_2 o0 o1 fu σ v2 = some (σ', r) → JJ p l e (rmk 0 0 0 0) s m args below meth c (MQ below (va_Qv (fun u : CS => u = σ') (BC (CH g A)) A) args s 0 0 A) A 3 (CH g A lay σ) 0 0 2 [(0, .ref (ga g (26 + o0))), (1, .ref (ga g (26 + o1))), (2, .int v2)] [] := by
  intro fu
  induction fu with
  | zero =>
    intro lay σ v2 h
    exact nomatch (show (none : Option _) = some _ from h)
  | succ fu ih2 =>
    intro lay σ v2 h
    unfold B_X1_takeNewer_2 at h
    rw [lo2_s] at h
    refine j_iload_n 3 C dX1_takeNewer_2 2 rfl rfl ?_
    refine j_iconst 4 C dX1_takeNewer_3 ic_4 rfl ?_
    refine j_icmp_ge 7 52 C dX1_takeNewer_4 (by decide) rfl (fun hc101 => ?_) (fun hc101 => ?_)
    · replace h := it_t hc101 h
      cases h
      exact x_v C M dX1_takeNewer_52
    · replace h := it_f hc101 h
      refine j_aload_n 8 C dX1_takeNewer_7 1 rfl rfl ?_
      refine g_D 11 C K ho1 1 (by decide) mw_141 rfl dX1_takeNewer_8 rfl ?_
      refine j_iload_n 12 C dX1_takeNewer_11 2 rfl rfl ?_
      obtain ⟨hz102, h⟩ := gd_e h
      refine r_ild 13 C K (ar_B _ ho1) (ca_B _ _ ho1) hz102 dX1_takeNewer_12 rfl ?_
      refine j_aload_n 14 C dX1_takeNewer_13 0 rfl rfl ?_
      refine g_D 17 C K ho0 1 (by decide) mw_141 rfl dX1_takeNewer_14 rfl ?_
      refine j_iload_n 18 C dX1_takeNewer_17 2 rfl rfl ?_
      obtain ⟨hz103, h⟩ := gd_e h
      refine r_ild 19 C K (ar_B _ ho0) (ca_B _ _ ho0) hz103 dX1_takeNewer_18 rfl ?_
      refine j_icmp_le 22 46 C dX1_takeNewer_19 (by decide) rfl (fun hc104 => ?_) (fun hc104 => ?_)
      · replace h := it_t hc104 h
        exact wn_X1_takeNewer_46 C K M ho0 ho1 ih2 lay σ v2 h
      · replace h := it_f hc104 h
        refine j_aload_n 23 C dX1_takeNewer_22 0 rfl rfl ?_
        refine g_D 26 C K ho0 1 (by decide) mw_141 rfl dX1_takeNewer_23 rfl ?_
        refine j_iload_n 27 C dX1_takeNewer_26 2 rfl rfl ?_
        refine j_aload_n 28 C dX1_takeNewer_27 1 rfl rfl ?_
        refine g_D 31 C K ho1 1 (by decide) mw_141 rfl dX1_takeNewer_28 rfl ?_
        refine j_iload_n 32 C dX1_takeNewer_31 2 rfl rfl ?_
        obtain ⟨hz105, h⟩ := gd_e h
        refine r_ild 33 C K (ar_B _ ho1) (ca_B _ _ ho1) hz105 dX1_takeNewer_32 rfl ?_
        obtain ⟨hz106, h⟩ := gd_e h
        refine r_ist 34 C K (ar_B _ ho0) (ca_B _ _ ho0) hz106 dX1_takeNewer_33 rfl (fun σ107 eσ107 => ?_)
        replace h := lt_e h σ107 eσ107
        refine j_aload_n 35 C dX1_takeNewer_34 0 rfl rfl ?_
        refine g_D 38 C K ho0 2 (by decide) mw_143 rfl dX1_takeNewer_35 rfl ?_
        refine j_iload_n 39 C dX1_takeNewer_38 2 rfl rfl ?_
        refine j_aload_n 40 C dX1_takeNewer_39 1 rfl rfl ?_
        refine g_D 43 C K ho1 2 (by decide) mw_143 rfl dX1_takeNewer_40 rfl ?_
        refine j_iload_n 44 C dX1_takeNewer_43 2 rfl rfl ?_
        obtain ⟨hz108, h⟩ := gd_e h
        refine r_ild 45 C K (ar_U _ ho1) (ca_U _ _ ho1) hz108 dX1_takeNewer_44 rfl ?_
        obtain ⟨hz109, h⟩ := gd_e h
        refine r_ist 46 C K (ar_U _ ho0) (ca_U _ _ ho0) hz109 dX1_takeNewer_45 rfl (fun σ110 eσ110 => ?_)
        replace h := lt_e h σ110 eσ110
        exact wn_X1_takeNewer_46 C K M ho0 ho1 ih2 lay σ110 v2 h
set_option maxHeartbeats 4000000 in
set_option maxRecDepth 100000 in
theorem c_X1_takeNewer {l : Launch} (hst : l.stackTraces = false) (g : GG) (A : Nat → Prop) (lay : Nat → Nat) {σ : CS} {σ' : CS} {r : Unit} {o0 : Nat} {o1 : Nat} (ho0 : o0 < 15) (ho1 : o1 < 15) (h : F_X1_takeNewer σ o0 o1 = some (σ', r)) : MV l yX1_takeNewer cX1_takeNewer 3 0 0 0 0 [.ref (ga g (26 + o0)), .ref (ga g (26 + o1))] (CH g A) g A lay σ σ' := by
  unfold F_X1_takeNewer at h
  refine e_v (own := RX1) (lo := [(0, .ref (ga g (26 + o0))), (1, .ref (ga g (26 + o1)))]) hst (plainFor_of_name (by decide)) rfl rfl (Nat.le_of_ble_eq_true rfl) ?_
  intro p e s m args below meth c C K M
  refine j_iconst 1 C dX1_takeNewer_0 ic_0 rfl ?_
  refine j_istore_n 2 C dX1_takeNewer_1 (lo' := [(2, .int (0 : Int32)), (0, .ref (ga g (26 + o0))), (1, .ref (ga g (26 + o1)))]) (by decide) rfl rfl ?_
  refine j_sub [1, 2, 0] (lo' := [(0, .ref (ga g (26 + o0))), (1, .ref (ga g (26 + o1))), (2, .int (0 : Int32))]) rfl ?_
  exact wn_X1_takeNewer_2 C K M ho0 ho1 4096 lay σ (0 : Int32) h
theorem cp_X5_asNumber : CPs yX5_asNumber cX5_asNumber 1 (some .int) 1 := ⟨mw_322, mw_98, mw_323, by decide, by decide, by decide +kernel⟩
set_option maxHeartbeats 4000000 in
set_option maxRecDepth 100000 in
theorem c_X5_asNumber {l : Launch} (hst : l.stackTraces = false) (g : GG) (A : Nat → Prop) (lay : Nat → Nat) {σ : CS} {σ' : CS} {r : Int32} {x0 : Int32}  (h : F_X5_asNumber σ x0 = some (σ', r)) : MI l yX5_asNumber cX5_asNumber 1 .int 0 0 0 0 [.int x0] (CH g A) g A lay σ σ' r := by
  unfold F_X5_asNumber at h
  refine e_i (own := RX5) (lo := [(0, .int x0)]) hst (plainFor_of_name (by decide)) rfl rfl (Nat.le_of_ble_eq_true rfl) ?_
  intro p e s m args below meth c C K M
  refine j_iload_n 1 C dX5_asNumber_0 0 rfl rfl ?_
  refine j_if_eq 4 8 C dX5_asNumber_1 (by decide) rfl (fun hc101 => ?_) (fun hc101 => ?_)
  · replace h := it_t hc101 h
    refine j_iconst 9 C dX5_asNumber_8 ic_0 rfl ?_
    cases h
    exact x_i C M dX5_asNumber_9
  · replace h := it_f hc101 h
    refine j_iconst 5 C dX5_asNumber_4 ic_1 rfl ?_
    refine j_goto 9 C dX5_asNumber_5 (by decide) ?_
    cases h
    exact x_i C M dX5_asNumber_9
theorem cp_X1_acceptedSlots : CPv yX1_acceptedSlots cX1_acceptedSlots 3 (some .int) RX1 0 := ⟨mw_820, mw_821, mw_99, mw_822, rfl, by decide, by decide, by decide +kernel⟩
set_option maxHeartbeats 4000000 in
set_option maxRecDepth 100000 in
theorem wn_X1_acceptedSlots_25 {l : Launch} {p : Program} {e : Env} {s : State} {m : MethodId} {args : Array Value} {below : List Frame} {meth : Method} {c : Code} {g : GG} {A : Nat → Prop} (C : KX p m c cX1_acceptedSlots 3 s args RX1) (K : KC l g A s) (M : KM meth (some .int)) {σ' : CS} {r : Int32} {o0 : Nat} (ho0 : o0 < 15)  {self4 : CS → Int32 → Int32 → Option (CS × Int32)} (ih4 : ∀ (lay : Nat → Nat) (σ : CS) (v1 : Int32) (v2 : Int32), self4 σ v1 v2 = some (σ', r) → JJ p l e (rmk 1 20 0 0) s m args below meth c (MQ below (va_Qi (fun (r0 : Int32) (u : CS) => r0 = r ∧ u = σ') (BC (CH g A)) A) args s 0 0 A) A 3 (CH g A lay σ) 0 0 4 [(0, .ref (ga g (26 + o0))), (1, .int v1), (2, .int v2)] []) (lay : Nat → Nat) (σ : CS) (v2 : Int32) (w0 : Int32) (w1 : Int32)  (h : B_X1_acceptedSlots_25 o0 self4 σ v2 w0 w1 = some (σ', r)) : JJ p l e (rmk 1 20 0 0) s m args below meth c (MQ below (va_Qi (fun (r0 : Int32) (u : CS) => r0 = r ∧ u = σ') (BC (CH g A)) A) args s 0 0 A) A 3 (CH g A lay σ) 0 0 25 [(0, .ref (ga g (26 + o0))), (2, .int v2)] [.int w0, .int w1] := by
  unfold B_X1_acceptedSlots_25 at h
  obtain ⟨σ104, r105, hF, h⟩ := bd_e h
  refine k_SiN 28 C K (c_X5_asNumber K.2.2.2 g A lay  hF) cp_X5_asNumber (nest_823 K) dX1_acceptedSlots_25 rfl rfl (Nat.le_of_ble_eq_true rfl) ⟨Nat.le_of_ble_eq_true rfl, Nat.le_of_ble_eq_true rfl⟩ ⟨Nat.le_of_ble_eq_true rfl, Nat.le_of_ble_eq_true rfl⟩ rfl (fun lay => ?_)
  refine j_iadd 29 C dX1_acceptedSlots_28 rfl ?_
  refine j_topi (fun x106 ex106 => ?_)
  replace h := lt_e h x106 ex106
  refine j_istore_n 30 C dX1_acceptedSlots_29 (lo' := [(1, .int x106), (0, .ref (ga g (26 + o0))), (2, .int v2)]) (by decide) rfl rfl ?_
  obtain ⟨x107, ex107⟩ : ∃ z : Int32, z = v2 + 1 := ⟨_, rfl⟩
  replace h := lt_e h x107 ex107
  refine j_iinc 33 C dX1_acceptedSlots_30 2 rfl (v := x107) ((ii_1 _).trans ex107.symm) (lo' := [(2, .int x107), (1, .int x106), (0, .ref (ga g (26 + o0)))]) (by decide) rfl rfl ?_
  refine j_goto 4 C dX1_acceptedSlots_33 (by decide) ?_
  refine j_sub [2, 1, 0] (lo' := [(0, .ref (ga g (26 + o0))), (1, .int x106), (2, .int x107)]) rfl ?_
  exact ih4 lay σ104 x106 x107 h
set_option maxHeartbeats 4000000 in
set_option maxRecDepth 100000 in
theorem wn_X1_acceptedSlots_4 {l : Launch} {p : Program} {e : Env} {s : State} {m : MethodId} {args : Array Value} {below : List Frame} {meth : Method} {c : Code} {g : GG} {A : Nat → Prop} (C : KX p m c cX1_acceptedSlots 3 s args RX1) (K : KC l g A s) (M : KM meth (some .int)) {σ' : CS} {r : Int32} {o0 : Nat} (ho0 : o0 < 15)    : ∀ (fu : Nat) (lay : Nat → Nat) (σ : CS) (v1 : Int32) (v2 : Int32), B_X1_acceptedSlots_4 o0 fu σ v1 v2 = some (σ', r) → JJ p l e (rmk 1 20 0 0) s m args below meth c (MQ below (va_Qi (fun (r0 : Int32) (u : CS) => r0 = r ∧ u = σ') (BC (CH g A)) A) args s 0 0 A) A 3 (CH g A lay σ) 0 0 4 [(0, .ref (ga g (26 + o0))), (1, .int v1), (2, .int v2)] [] := by
  intro fu
  induction fu with
  | zero =>
    intro lay σ v1 v2 h
    exact nomatch (show (none : Option _) = some _ from h)
  | succ fu ih4 =>
    intro lay σ v1 v2 h
    unfold B_X1_acceptedSlots_4 at h
    rw [lo3_s] at h
    refine j_iload_n 5 C dX1_acceptedSlots_4 2 rfl rfl ?_
    refine j_iconst 6 C dX1_acceptedSlots_5 ic_4 rfl ?_
    refine j_icmp_ge 9 36 C dX1_acceptedSlots_6 (by decide) rfl (fun hc101 => ?_) (fun hc101 => ?_)
    · replace h := it_t hc101 h
      refine j_iload_n 37 C dX1_acceptedSlots_36 1 rfl rfl ?_
      cases h
      exact x_i C M dX1_acceptedSlots_37
    · replace h := it_f hc101 h
      refine j_iload_n 10 C dX1_acceptedSlots_9 1 rfl rfl ?_
      refine j_aload_n 11 C dX1_acceptedSlots_10 0 rfl rfl ?_
      refine g_D 14 C K ho0 2 (by decide) mw_143 rfl dX1_acceptedSlots_11 rfl ?_
      refine j_iload_n 15 C dX1_acceptedSlots_14 2 rfl rfl ?_
      obtain ⟨hz102, h⟩ := gd_e h
      refine r_ild 16 C K (ar_U _ ho0) (ca_U _ _ ho0) hz102 dX1_acceptedSlots_15 rfl ?_
      refine j_iconst 17 C dX1_acceptedSlots_16 ic_m1 rfl ?_
      refine j_icmp_eq 20 24 C dX1_acceptedSlots_17 (by decide) rfl (fun hc103 => ?_) (fun hc103 => ?_)
      · replace h := it_t hc103 h
        refine j_iconst 25 C dX1_acceptedSlots_24 ic_0 rfl ?_
        refine j_sub [0, 2] (lo' := [(0, .ref (ga g (26 + o0))), (2, .int v2)]) rfl ?_
        exact wn_X1_acceptedSlots_25 C K M ho0 ih4 lay σ v2 (0 : Int32) v1 h
      · replace h := it_f hc103 h
        refine j_iconst 21 C dX1_acceptedSlots_20 ic_1 rfl ?_
        refine j_goto 25 C dX1_acceptedSlots_21 (by decide) ?_
        refine j_sub [0, 2] (lo' := [(0, .ref (ga g (26 + o0))), (2, .int v2)]) rfl ?_
        exact wn_X1_acceptedSlots_25 C K M ho0 ih4 lay σ v2 (1 : Int32) v1 h
set_option maxHeartbeats 4000000 in
set_option maxRecDepth 100000 in
theorem c_X1_acceptedSlots {l : Launch} (hst : l.stackTraces = false) (g : GG) (A : Nat → Prop) (lay : Nat → Nat) {σ : CS} {σ' : CS} {r : Int32} {o0 : Nat} (ho0 : o0 < 15) (h : F_X1_acceptedSlots σ o0 = some (σ', r)) : MI l yX1_acceptedSlots cX1_acceptedSlots 3 .int 1 20 0 0 [.ref (ga g (26 + o0))] (CH g A) g A lay σ σ' r := by
  unfold F_X1_acceptedSlots at h
  refine e_i (own := RX1) (lo := [(0, .ref (ga g (26 + o0)))]) hst (plainFor_of_name (by decide)) rfl rfl (Nat.le_of_ble_eq_true rfl) ?_
  intro p e s m args below meth c C K M
  refine j_iconst 1 C dX1_acceptedSlots_0 ic_0 rfl ?_
  refine j_istore_n 2 C dX1_acceptedSlots_1 (lo' := [(1, .int (0 : Int32)), (0, .ref (ga g (26 + o0)))]) (by decide) rfl rfl ?_
  refine j_iconst 3 C dX1_acceptedSlots_2 ic_0 rfl ?_
  refine j_istore_n 4 C dX1_acceptedSlots_3 (lo' := [(2, .int (0 : Int32)), (1, .int (0 : Int32)), (0, .ref (ga g (26 + o0)))]) (by decide) rfl rfl ?_
  refine j_sub [2, 1, 0] (lo' := [(0, .ref (ga g (26 + o0))), (1, .int (0 : Int32)), (2, .int (0 : Int32))]) rfl ?_
  exact wn_X1_acceptedSlots_4 C K M ho0 4096 lay σ (0 : Int32) (0 : Int32) h
theorem cp_X2_reset : CPv yX2_reset cX2_reset 1 none RX2 0 := ⟨mw_337, mw_338, mw_101, mw_339, rfl, by decide, by decide, by decide +kernel⟩
set_option maxHeartbeats 4000000 in
set_option maxRecDepth 100000 in
theorem c_X2_reset {l : Launch} (hst : l.stackTraces = false) (g : GG) (A : Nat → Prop) (lay : Nat → Nat) {σ : CS} {σ' : CS} {r : Unit}   (h : F_X2_reset σ  = some (σ', r)) : MV l yX2_reset cX2_reset 1 0 0 0 0 [.ref (ga g 3)] (CH g A) g A lay σ σ' := by
  unfold F_X2_reset at h
  refine e_v (own := RX2) (lo := [(0, .ref (ga g 3))]) hst (plainFor_of_name (by decide)) rfl rfl (Nat.le_of_ble_eq_true rfl) ?_
  intro p e s m args below meth c C K M
  refine j_aload_n 1 C dX2_reset_0 0 rfl rfl ?_
  refine j_iconst 2 C dX2_reset_1 ic_0 rfl ?_
  refine p_R 5 C K 6 (by decide) mw_171 rfl rfl dX2_reset_2 rfl (fun σ101 eσ101 => ?_)
  replace h := lt_e h σ101 eσ101
  cases h
  exact x_v C M dX2_reset_5
theorem cp_X2_isComplete : CPv yX2_isComplete cX2_isComplete 1 (some .boolean) RX2 0 := ⟨mw_874, mw_875, mw_101, mw_876, rfl, by decide, by decide, by decide +kernel⟩
set_option maxHeartbeats 4000000 in
set_option maxRecDepth 100000 in
theorem wn_X2_isComplete_18 {l : Launch} {p : Program} {e : Env} {s : State} {m : MethodId} {args : Array Value} {below : List Frame} {meth : Method} {c : Code} {g : GG} {A : Nat → Prop} (C : KX p m c cX2_isComplete 1 s args RX2) (K : KC l g A s) (M : KM meth (some .boolean)) {σ' : CS} {r : Int32}      (lay : Nat → Nat) (σ : CS)   (h : B_X2_isComplete_18  σ  = some (σ', r)) : JJ p l e (rmk 0 0 0 0) s m args below meth c (MQ below (va_Qi (fun (r0 : Int32) (u : CS) => r0 = r ∧ u = σ') (BC (CH g A)) A) args s 0 0 A) A 1 (CH g A lay σ) 0 0 18 [] [] := by
  unfold B_X2_isComplete_18 at h
  refine j_iconst 19 C dX2_isComplete_18 ic_1 rfl ?_
  refine j_goto 23 C dX2_isComplete_19 (by decide) ?_
  cases h
  exact x_z C M dX2_isComplete_23 (by decide)
set_option maxHeartbeats 4000000 in
set_option maxRecDepth 100000 in
theorem c_X2_isComplete {l : Launch} (hst : l.stackTraces = false) (g : GG) (A : Nat → Prop) (lay : Nat → Nat) {σ : CS} {σ' : CS} {r : Int32}   (h : F_X2_isComplete σ  = some (σ', r)) : MI l yX2_isComplete cX2_isComplete 1 .boolean 0 0 0 0 [.ref (ga g 3)] (CH g A) g A lay σ σ' r := by
  unfold F_X2_isComplete at h
  refine e_i (own := RX2) (lo := [(0, .ref (ga g 3))]) hst (plainFor_of_name (by decide)) rfl rfl (Nat.le_of_ble_eq_true rfl) ?_
  intro p e s m args below meth c C K M
  refine j_aload_n 1 C dX2_isComplete_0 0 rfl rfl ?_
  refine g_R 4 C K 6 (by decide) mw_171 rfl dX2_isComplete_1 rfl ?_
  refine j_bipush 6 C dX2_isComplete_4 bp_11 rfl ?_
  refine j_icmp_eq 9 18 C dX2_isComplete_6 (by decide) rfl (fun hc101 => ?_) (fun hc101 => ?_)
  · replace h := it_t hc101 h
    refine j_sub [] (lo' := []) rfl ?_
    exact wn_X2_isComplete_18 C K M  lay σ  h
  · replace h := it_f hc101 h
    refine j_aload_n 10 C dX2_isComplete_9 0 rfl rfl ?_
    refine g_R 13 C K 6 (by decide) mw_171 rfl dX2_isComplete_10 rfl ?_
    refine j_bipush 15 C dX2_isComplete_13 bp_8 rfl ?_
    refine j_icmp_ne 18 22 C dX2_isComplete_15 (by decide) rfl (fun hc102 => ?_) (fun hc102 => ?_)
    · replace h := it_f hc102 h
      refine j_iconst 23 C dX2_isComplete_22 ic_0 rfl ?_
      cases h
      exact x_z C M dX2_isComplete_23 (by decide)
    · replace h := it_t hc102 h
      refine j_sub [] (lo' := []) rfl ?_
      exact wn_X2_isComplete_18 C K M  lay σ  h
theorem cp_X2_isLetter : CPs yX2_isLetter cX2_isLetter 1 (some .boolean) 1 := ⟨mw_349, mw_101, mw_350, by decide, by decide, by decide +kernel⟩
set_option maxHeartbeats 4000000 in
set_option maxRecDepth 100000 in
theorem c_X2_isLetter {l : Launch} (hst : l.stackTraces = false) (g : GG) (A : Nat → Prop) (lay : Nat → Nat) {σ : CS} {σ' : CS} {r : Int32} {x0 : Int32}  (h : F_X2_isLetter σ x0 = some (σ', r)) : MI l yX2_isLetter cX2_isLetter 1 .boolean 0 0 0 0 [.int x0] (CH g A) g A lay σ σ' r := by
  unfold F_X2_isLetter at h
  refine e_i (own := RX2) (lo := [(0, .int x0)]) hst (plainFor_of_name (by decide)) rfl rfl (Nat.le_of_ble_eq_true rfl) ?_
  intro p e s m args below meth c C K M
  refine j_iload_n 1 C dX2_isLetter_0 0 rfl rfl ?_
  by_cases hc101 : x0 = 97
  · replace h := it_t hc101 h
    refine j_tin 108 C dX2_isLetter_1 (off := 107) (by rw [hc101]; decide) (by rw [hc101]; decide) (by rw [hc101]; decide) (by decide) ?_
    refine j_iconst 109 C dX2_isLetter_108 ic_1 rfl ?_
    cases h
    exact x_z C M dX2_isLetter_109 (by decide)
  replace h := it_f hc101 h
  by_cases hc102 : x0 = 98
  · replace h := it_t hc102 h
    refine j_tin 110 C dX2_isLetter_1 (off := 109) (by rw [hc102]; decide) (by rw [hc102]; decide) (by rw [hc102]; decide) (by decide) ?_
    refine j_iconst 111 C dX2_isLetter_110 ic_0 rfl ?_
    cases h
    exact x_z C M dX2_isLetter_111 (by decide)
  replace h := it_f hc102 h
  by_cases hc103 : x0 = 99
  · replace h := it_t hc103 h
    refine j_tin 108 C dX2_isLetter_1 (off := 107) (by rw [hc103]; decide) (by rw [hc103]; decide) (by rw [hc103]; decide) (by decide) ?_
    refine j_iconst 109 C dX2_isLetter_108 ic_1 rfl ?_
    cases h
    exact x_z C M dX2_isLetter_109 (by decide)
  replace h := it_f hc103 h
  by_cases hc104 : x0 = 100
  · replace h := it_t hc104 h
    refine j_tin 110 C dX2_isLetter_1 (off := 109) (by rw [hc104]; decide) (by rw [hc104]; decide) (by rw [hc104]; decide) (by decide) ?_
    refine j_iconst 111 C dX2_isLetter_110 ic_0 rfl ?_
    cases h
    exact x_z C M dX2_isLetter_111 (by decide)
  replace h := it_f hc104 h
  by_cases hc105 : x0 = 101
  · replace h := it_t hc105 h
    refine j_tin 110 C dX2_isLetter_1 (off := 109) (by rw [hc105]; decide) (by rw [hc105]; decide) (by rw [hc105]; decide) (by decide) ?_
    refine j_iconst 111 C dX2_isLetter_110 ic_0 rfl ?_
    cases h
    exact x_z C M dX2_isLetter_111 (by decide)
  replace h := it_f hc105 h
  by_cases hc106 : x0 = 102
  · replace h := it_t hc106 h
    refine j_tin 108 C dX2_isLetter_1 (off := 107) (by rw [hc106]; decide) (by rw [hc106]; decide) (by rw [hc106]; decide) (by decide) ?_
    refine j_iconst 109 C dX2_isLetter_108 ic_1 rfl ?_
    cases h
    exact x_z C M dX2_isLetter_109 (by decide)
  replace h := it_f hc106 h
  by_cases hc107 : x0 = 103
  · replace h := it_t hc107 h
    refine j_tin 110 C dX2_isLetter_1 (off := 109) (by rw [hc107]; decide) (by rw [hc107]; decide) (by rw [hc107]; decide) (by decide) ?_
    refine j_iconst 111 C dX2_isLetter_110 ic_0 rfl ?_
    cases h
    exact x_z C M dX2_isLetter_111 (by decide)
  replace h := it_f hc107 h
  by_cases hc108 : x0 = 104
  · replace h := it_t hc108 h
    refine j_tin 110 C dX2_isLetter_1 (off := 109) (by rw [hc108]; decide) (by rw [hc108]; decide) (by rw [hc108]; decide) (by decide) ?_
    refine j_iconst 111 C dX2_isLetter_110 ic_0 rfl ?_
    cases h
    exact x_z C M dX2_isLetter_111 (by decide)
  replace h := it_f hc108 h
  by_cases hc109 : x0 = 105
  · replace h := it_t hc109 h
    refine j_tin 110 C dX2_isLetter_1 (off := 109) (by rw [hc109]; decide) (by rw [hc109]; decide) (by rw [hc109]; decide) (by decide) ?_
    refine j_iconst 111 C dX2_isLetter_110 ic_0 rfl ?_
    cases h
    exact x_z C M dX2_isLetter_111 (by decide)
  replace h := it_f hc109 h
  by_cases hc110 : x0 = 106
  · replace h := it_t hc110 h
    refine j_tin 108 C dX2_isLetter_1 (off := 107) (by rw [hc110]; decide) (by rw [hc110]; decide) (by rw [hc110]; decide) (by decide) ?_
    refine j_iconst 109 C dX2_isLetter_108 ic_1 rfl ?_
    cases h
    exact x_z C M dX2_isLetter_109 (by decide)
  replace h := it_f hc110 h
  by_cases hc111 : x0 = 107
  · replace h := it_t hc111 h
    refine j_tin 110 C dX2_isLetter_1 (off := 109) (by rw [hc111]; decide) (by rw [hc111]; decide) (by rw [hc111]; decide) (by decide) ?_
    refine j_iconst 111 C dX2_isLetter_110 ic_0 rfl ?_
    cases h
    exact x_z C M dX2_isLetter_111 (by decide)
  replace h := it_f hc111 h
  by_cases hc112 : x0 = 108
  · replace h := it_t hc112 h
    refine j_tin 110 C dX2_isLetter_1 (off := 109) (by rw [hc112]; decide) (by rw [hc112]; decide) (by rw [hc112]; decide) (by decide) ?_
    refine j_iconst 111 C dX2_isLetter_110 ic_0 rfl ?_
    cases h
    exact x_z C M dX2_isLetter_111 (by decide)
  replace h := it_f hc112 h
  by_cases hc113 : x0 = 109
  · replace h := it_t hc113 h
    refine j_tin 110 C dX2_isLetter_1 (off := 109) (by rw [hc113]; decide) (by rw [hc113]; decide) (by rw [hc113]; decide) (by decide) ?_
    refine j_iconst 111 C dX2_isLetter_110 ic_0 rfl ?_
    cases h
    exact x_z C M dX2_isLetter_111 (by decide)
  replace h := it_f hc113 h
  by_cases hc114 : x0 = 110
  · replace h := it_t hc114 h
    refine j_tin 110 C dX2_isLetter_1 (off := 109) (by rw [hc114]; decide) (by rw [hc114]; decide) (by rw [hc114]; decide) (by decide) ?_
    refine j_iconst 111 C dX2_isLetter_110 ic_0 rfl ?_
    cases h
    exact x_z C M dX2_isLetter_111 (by decide)
  replace h := it_f hc114 h
  by_cases hc115 : x0 = 111
  · replace h := it_t hc115 h
    refine j_tin 110 C dX2_isLetter_1 (off := 109) (by rw [hc115]; decide) (by rw [hc115]; decide) (by rw [hc115]; decide) (by decide) ?_
    refine j_iconst 111 C dX2_isLetter_110 ic_0 rfl ?_
    cases h
    exact x_z C M dX2_isLetter_111 (by decide)
  replace h := it_f hc115 h
  by_cases hc116 : x0 = 112
  · replace h := it_t hc116 h
    refine j_tin 108 C dX2_isLetter_1 (off := 107) (by rw [hc116]; decide) (by rw [hc116]; decide) (by rw [hc116]; decide) (by decide) ?_
    refine j_iconst 109 C dX2_isLetter_108 ic_1 rfl ?_
    cases h
    exact x_z C M dX2_isLetter_109 (by decide)
  replace h := it_f hc116 h
  by_cases hc117 : x0 = 113
  · replace h := it_t hc117 h
    refine j_tin 110 C dX2_isLetter_1 (off := 109) (by rw [hc117]; decide) (by rw [hc117]; decide) (by rw [hc117]; decide) (by decide) ?_
    refine j_iconst 111 C dX2_isLetter_110 ic_0 rfl ?_
    cases h
    exact x_z C M dX2_isLetter_111 (by decide)
  replace h := it_f hc117 h
  by_cases hc118 : x0 = 114
  · replace h := it_t hc118 h
    refine j_tin 108 C dX2_isLetter_1 (off := 107) (by rw [hc118]; decide) (by rw [hc118]; decide) (by rw [hc118]; decide) (by decide) ?_
    refine j_iconst 109 C dX2_isLetter_108 ic_1 rfl ?_
    cases h
    exact x_z C M dX2_isLetter_109 (by decide)
  replace h := it_f hc118 h
  by_cases hc119 : x0 = 115
  · replace h := it_t hc119 h
    refine j_tin 110 C dX2_isLetter_1 (off := 109) (by rw [hc119]; decide) (by rw [hc119]; decide) (by rw [hc119]; decide) (by decide) ?_
    refine j_iconst 111 C dX2_isLetter_110 ic_0 rfl ?_
    cases h
    exact x_z C M dX2_isLetter_111 (by decide)
  replace h := it_f hc119 h
  by_cases hc120 : x0 = 116
  · replace h := it_t hc120 h
    refine j_tin 110 C dX2_isLetter_1 (off := 109) (by rw [hc120]; decide) (by rw [hc120]; decide) (by rw [hc120]; decide) (by decide) ?_
    refine j_iconst 111 C dX2_isLetter_110 ic_0 rfl ?_
    cases h
    exact x_z C M dX2_isLetter_111 (by decide)
  replace h := it_f hc120 h
  by_cases hc121 : x0 = 117
  · replace h := it_t hc121 h
    refine j_tin 110 C dX2_isLetter_1 (off := 109) (by rw [hc121]; decide) (by rw [hc121]; decide) (by rw [hc121]; decide) (by decide) ?_
    refine j_iconst 111 C dX2_isLetter_110 ic_0 rfl ?_
    cases h
    exact x_z C M dX2_isLetter_111 (by decide)
  replace h := it_f hc121 h
  by_cases hc122 : x0 = 118
  · replace h := it_t hc122 h
    refine j_tin 110 C dX2_isLetter_1 (off := 109) (by rw [hc122]; decide) (by rw [hc122]; decide) (by rw [hc122]; decide) (by decide) ?_
    refine j_iconst 111 C dX2_isLetter_110 ic_0 rfl ?_
    cases h
    exact x_z C M dX2_isLetter_111 (by decide)
  replace h := it_f hc122 h
  by_cases hc123 : x0 = 119
  · replace h := it_t hc123 h
    refine j_tin 108 C dX2_isLetter_1 (off := 107) (by rw [hc123]; decide) (by rw [hc123]; decide) (by rw [hc123]; decide) (by decide) ?_
    refine j_iconst 109 C dX2_isLetter_108 ic_1 rfl ?_
    cases h
    exact x_z C M dX2_isLetter_109 (by decide)
  replace h := it_f hc123 h
  refine j_tout 110 C dX2_isLetter_1 (by have := lv_neT hc101 (a := 97) (by decide); have := lv_neT hc102 (a := 98) (by decide); have := lv_neT hc103 (a := 99) (by decide); have := lv_neT hc104 (a := 100) (by decide); have := lv_neT hc105 (a := 101) (by decide); have := lv_neT hc106 (a := 102) (by decide); have := lv_neT hc107 (a := 103) (by decide); have := lv_neT hc108 (a := 104) (by decide); have := lv_neT hc109 (a := 105) (by decide); have := lv_neT hc110 (a := 106) (by decide); have := lv_neT hc111 (a := 107) (by decide); have := lv_neT hc112 (a := 108) (by decide); have := lv_neT hc113 (a := 109) (by decide); have := lv_neT hc114 (a := 110) (by decide); have := lv_neT hc115 (a := 111) (by decide); have := lv_neT hc116 (a := 112) (by decide); have := lv_neT hc117 (a := 113) (by decide); have := lv_neT hc118 (a := 114) (by decide); have := lv_neT hc119 (a := 115) (by decide); have := lv_neT hc120 (a := 116) (by decide); have := lv_neT hc121 (a := 117) (by decide); have := lv_neT hc122 (a := 118) (by decide); have := lv_neT hc123 (a := 119) (by decide); omega) (by decide) ?_
  refine j_iconst 111 C dX2_isLetter_110 ic_0 rfl ?_
  cases h
  exact x_z C M dX2_isLetter_111 (by decide)
theorem cp_X2_goesOn : CPv yX2_goesOn cX2_goesOn 3 (some .boolean) RX2 2 := ⟨mw_353, mw_2, mw_101, mw_354, rfl, by decide, by decide, by decide +kernel⟩
set_option maxHeartbeats 4000000 in
set_option maxRecDepth 100000 in
theorem wn_X2_goesOn_9 {l : Launch} {p : Program} {e : Env} {s : State} {m : MethodId} {args : Array Value} {below : List Frame} {meth : Method} {c : Code} {g : GG} {A : Nat → Prop} (C : KX p m c cX2_goesOn 3 s args RX2) (K : KC l g A s) (M : KM meth (some .boolean)) {σ' : CS} {r : Int32} {x1 : Int32} {x2 : Int32}     (lay : Nat → Nat) (σ : CS)   (h : B_X2_goesOn_9 x1 x2 σ  = some (σ', r)) : JJ p l e (rmk 0 0 0 0) s m args below meth c (MQ below (va_Qi (fun (r0 : Int32) (u : CS) => r0 = r ∧ u = σ') (BC (CH g A)) A) args s 0 0 A) A 3 (CH g A lay σ) 0 0 9 [(1, .int x1)] [] := by
  unfold B_X2_goesOn_9 at h
  refine j_iload_n 10 C dX2_goesOn_9 0 rfl rfl ?_
  obtain ⟨hz103, h⟩ := gd_e h
  cases h
  exact x_z C M dX2_goesOn_10 hz103
set_option maxHeartbeats 4000000 in
set_option maxRecDepth 100000 in
theorem c_X2_goesOn {l : Launch} (hst : l.stackTraces = false) (g : GG) (A : Nat → Prop) (lay : Nat → Nat) {σ : CS} {σ' : CS} {r : Int32} {x1 : Int32} {x2 : Int32}  (h : F_X2_goesOn σ x1 x2 = some (σ', r)) : MI l yX2_goesOn cX2_goesOn 3 .boolean 0 0 0 0 [.ref (ga g 3), .int x1, .int x2] (CH g A) g A lay σ σ' r := by
  unfold F_X2_goesOn at h
  refine e_i (own := RX2) (lo := [(0, .ref (ga g 3)), (1, .int x1), (2, .int x2)]) hst (plainFor_of_name (by decide)) rfl rfl (Nat.le_of_ble_eq_true rfl) ?_
  intro p e s m args below meth c C K M
  refine j_iload_n 1 C dX2_goesOn_0 1 rfl rfl ?_
  refine j_if_eq 4 9 C dX2_goesOn_1 (by decide) rfl (fun hc101 => ?_) (fun hc101 => ?_)
  · replace h := it_t hc101 h
    refine j_sub [1] (lo' := [(1, .int x1)]) rfl ?_
    exact wn_X2_goesOn_9 C K M  lay σ  h
  · replace h := it_f hc101 h
    refine j_aload_n 5 C dX2_goesOn_4 0 rfl rfl ?_
    refine j_iload_n 6 C dX2_goesOn_5 2 rfl rfl ?_
    refine p_R 9 C K 6 (by decide) mw_171 rfl rfl dX2_goesOn_6 rfl (fun σ102 eσ102 => ?_)
    replace h := lt_e h σ102 eσ102
    refine j_sub [1] (lo' := [(1, .int x1)]) rfl ?_
    exact wn_X2_goesOn_9 C K M  lay σ102  h
theorem cp_X2_takesLetter : CPv yX2_takesLetter cX2_takesLetter 2 (some .boolean) RX2 1 := ⟨mw_346, mw_1, mw_101, mw_347, rfl, by decide, by decide, by decide +kernel⟩
set_option maxHeartbeats 4000000 in
set_option maxRecDepth 100000 in
theorem c_X2_takesLetter {l : Launch} (hst : l.stackTraces = false) (g : GG) (A : Nat → Prop) (lay : Nat → Nat) {σ : CS} {σ' : CS} {r : Int32} {x1 : Int32}  (h : F_X2_takesLetter σ x1 = some (σ', r)) : MI l yX2_takesLetter cX2_takesLetter 2 .boolean 1 22 0 0 [.ref (ga g 3), .int x1] (CH g A) g A lay σ σ' r := by
  unfold F_X2_takesLetter at h
  refine e_i (own := RX2) (lo := [(0, .ref (ga g 3)), (1, .int x1)]) hst (plainFor_of_name (by decide)) rfl rfl (Nat.le_of_ble_eq_true rfl) ?_
  intro p e s m args below meth c C K M
  refine j_aload_n 1 C dX2_takesLetter_0 0 rfl rfl ?_
  refine j_iload_n 2 C dX2_takesLetter_1 1 rfl rfl ?_
  refine p_R 5 C K 0 (by decide) mw_159 rfl rfl dX2_takesLetter_2 rfl (fun σ101 eσ101 => ?_)
  replace h := lt_e h σ101 eσ101
  refine j_aload_n 6 C dX2_takesLetter_5 0 rfl rfl ?_
  refine j_iconst 7 C dX2_takesLetter_6 ic_0 rfl ?_
  refine p_R 10 C K 4 (by decide) mw_167 rfl rfl dX2_takesLetter_7 rfl (fun σ102 eσ102 => ?_)
  replace h := lt_e h σ102 eσ102
  refine j_aload_n 11 C dX2_takesLetter_10 0 rfl rfl ?_
  refine j_iload_n 12 C dX2_takesLetter_11 1 rfl rfl ?_
  obtain ⟨σ103, r104, hF, h⟩ := bd_e h
  refine k_Si 15 C K (c_X2_isLetter K.2.2.2 g A lay  hF) cp_X2_isLetter mw_348 dX2_takesLetter_12 rfl rfl (Nat.le_of_ble_eq_true rfl) ⟨Nat.le_of_ble_eq_true rfl, Nat.le_of_ble_eq_true rfl⟩ ⟨Nat.le_of_ble_eq_true rfl, Nat.le_of_ble_eq_true rfl⟩ rfl (fun lay => ?_)
  refine j_iconst 16 C dX2_takesLetter_15 ic_1 rfl ?_
  obtain ⟨σ105, r106, hF, h⟩ := bd_e h
  refine k_Vi 19 C K (c_X2_goesOn K.2.2.2 g A lay  hF) cp_X2_goesOn (rv_R) mw_351 dX2_takesLetter_16 rfl rfl (Nat.le_of_ble_eq_true rfl) ⟨Nat.le_of_ble_eq_true rfl, Nat.le_of_ble_eq_true rfl⟩ ⟨Nat.le_of_ble_eq_true rfl, Nat.le_of_ble_eq_true rfl⟩ rfl (fun lay => ?_)
  obtain ⟨hz107, h⟩ := gd_e h
  cases h
  exact x_z C M dX2_takesLetter_19 hz107
theorem cp_X2_digit : CPs yX2_digit cX2_digit 3 (some .int) 2 := ⟨mw_356, mw_101, mw_357, by decide, by decide, by decide +kernel⟩
set_option maxHeartbeats 4000000 in
set_option maxRecDepth 100000 in
theorem wn_X2_digit_18 {l : Launch} {p : Program} {e : Env} {s : State} {m : MethodId} {args : Array Value} {below : List Frame} {meth : Method} {c : Code} {g : GG} {A : Nat → Prop} (C : KX p m c cX2_digit 3 s args RX2) (K : KC l g A s) (M : KM meth (some .int)) {σ' : CS} {r : Int32} {x0 : Int32} {x1 : Int32}     (lay : Nat → Nat) (σ : CS)   (h : B_X2_digit_18 x0 x1 σ  = some (σ', r)) : JJ p l e (rmk 0 0 0 0) s m args below meth c (MQ below (va_Qi (fun (r0 : Int32) (u : CS) => r0 = r ∧ u = σ') (BC (CH g A)) A) args s 0 0 A) A 3 (CH g A lay σ) 0 0 18 [] [] := by
  unfold B_X2_digit_18 at h
  refine j_iconst 19 C dX2_digit_18 ic_m1 rfl ?_
  cases h
  exact x_i C M dX2_digit_19
set_option maxHeartbeats 4000000 in
set_option maxRecDepth 100000 in
theorem c_X2_digit {l : Launch} (hst : l.stackTraces = false) (g : GG) (A : Nat → Prop) (lay : Nat → Nat) {σ : CS} {σ' : CS} {r : Int32} {x0 : Int32} {x1 : Int32}  (h : F_X2_digit σ x0 x1 = some (σ', r)) : MI l yX2_digit cX2_digit 3 .int 0 0 0 0 [.int x0, .int x1] (CH g A) g A lay σ σ' r := by
  unfold F_X2_digit at h
  refine e_i (own := RX2) (lo := [(0, .int x0), (1, .int x1)]) hst (plainFor_of_name (by decide)) rfl rfl (Nat.le_of_ble_eq_true rfl) ?_
  intro p e s m args below meth c C K M
  refine j_iload_n 1 C dX2_digit_0 0 rfl rfl ?_
  refine j_bipush 3 C dX2_digit_1 bp_48 rfl ?_
  refine j_isub 4 C dX2_digit_3 rfl ?_
  refine j_topi (fun x101 ex101 => ?_)
  replace h := lt_e h x101 ex101
  refine j_istore_n 5 C dX2_digit_4 (lo' := [(2, .int x101), (0, .int x0), (1, .int x1)]) (by decide) rfl rfl ?_
  refine j_iload_n 6 C dX2_digit_5 0 rfl rfl ?_
  refine j_if_lt 9 18 C dX2_digit_6 (by decide) rfl (fun hc102 => ?_) (fun hc102 => ?_)
  · replace h := it_t hc102 h
    refine j_sub [] (lo' := []) rfl ?_
    exact wn_X2_digit_18 C K M  lay σ  h
  · replace h := it_f hc102 h
    refine j_iload_n 10 C dX2_digit_9 0 rfl rfl ?_
    refine j_iload_n 11 C dX2_digit_10 2 rfl rfl ?_
    refine j_icmp_ge 14 18 C dX2_digit_11 (by decide) rfl (fun hc103 => ?_) (fun hc103 => ?_)
    · replace h := it_t hc103 h
      refine j_sub [] (lo' := []) rfl ?_
      exact wn_X2_digit_18 C K M  lay σ  h
    · replace h := it_f hc103 h
      refine j_iload_n 15 C dX2_digit_14 0 rfl rfl ?_
      refine j_goto 19 C dX2_digit_15 (by decide) ?_
      cases h
      exact x_i C M dX2_digit_19
theorem cp_X2_placeBehindNode : CPv yX2_placeBehindNode cX2_placeBehindNode 1 (some .int) RX2 0 := ⟨mw_360, mw_3, mw_101, mw_361, rfl, by decide, by decide, by decide +kernel⟩
set_option maxHeartbeats 4000000 in
set_option maxRecDepth 100000 in
theorem c_X2_placeBehindNode {l : Launch} (hst : l.stackTraces = false) (g : GG) (A : Nat → Prop) (lay : Nat → Nat) {σ : CS} {σ' : CS} {r : Int32}   (h : F_X2_placeBehindNode σ  = some (σ', r)) : MI l yX2_placeBehindNode cX2_placeBehindNode 1 .int 0 0 0 0 [.ref (ga g 3)] (CH g A) g A lay σ σ' r := by
  unfold F_X2_placeBehindNode at h
  refine e_i (own := RX2) (lo := [(0, .ref (ga g 3))]) hst (plainFor_of_name (by decide)) rfl rfl (Nat.le_of_ble_eq_true rfl) ?_
  intro p e s m args below meth c C K M
  refine j_aload_n 1 C dX2_placeBehindNode_0 0 rfl rfl ?_
  refine g_R 4 C K 0 (by decide) mw_159 rfl dX2_placeBehindNode_1 rfl ?_
  refine j_topi (fun x101 ex101 => ?_)
  replace h := lt_e h x101 ex101
  by_cases hc102 : x101 = 97
  · replace h := it_t hc102 h
    refine j_lookup 51 C dX2_placeBehindNode_4 (off := 47) (by decide) (by rw [hc102]; decide) (by decide) ?_
    refine j_iconst 52 C dX2_placeBehindNode_51 ic_2 rfl ?_
    cases h
    exact x_i C M dX2_placeBehindNode_52
  replace h := it_f hc102 h
  by_cases hc103 : x101 = 99
  · replace h := it_t hc103 h
    refine j_lookup 53 C dX2_placeBehindNode_4 (off := 49) (by decide) (by rw [hc103]; decide) (by decide) ?_
    refine j_bipush 55 C dX2_placeBehindNode_53 bp_9 rfl ?_
    cases h
    exact x_i C M dX2_placeBehindNode_55
  replace h := it_f hc103 h
  by_cases hc104 : x101 = 106
  · replace h := it_t hc104 h
    refine j_lookup 48 C dX2_placeBehindNode_4 (off := 44) (by decide) (by rw [hc104]; decide) (by decide) ?_
    refine j_bipush 50 C dX2_placeBehindNode_48 bp_6 rfl ?_
    cases h
    exact x_i C M dX2_placeBehindNode_50
  replace h := it_f hc104 h
  by_cases hc105 : x101 = 112
  · replace h := it_t hc105 h
    refine j_lookup 48 C dX2_placeBehindNode_4 (off := 44) (by decide) (by rw [hc105]; decide) (by decide) ?_
    refine j_bipush 50 C dX2_placeBehindNode_48 bp_6 rfl ?_
    cases h
    exact x_i C M dX2_placeBehindNode_50
  replace h := it_f hc105 h
  refine j_lookup 56 C dX2_placeBehindNode_4 (off := 52) (by decide) (by refine (lv_osw hc102 (by decide)).trans ?_; refine (lv_osw hc103 (by decide)).trans ?_; refine (lv_osw hc104 (by decide)).trans ?_; refine (lv_osw hc105 (by decide)).trans ?_; rfl) (by decide) ?_
  refine j_bipush 58 C dX2_placeBehindNode_56 bp_11 rfl ?_
  cases h
  exact x_i C M dX2_placeBehindNode_58
theorem cp_X2_takesReached : CPv yX2_takesReached cX2_takesReached 2 (some .boolean) RX2 1 := ⟨mw_364, mw_4, mw_101, mw_365, rfl, by decide, by decide, by decide +kernel⟩
set_option maxHeartbeats 4000000 in
set_option maxRecDepth 100000 in
theorem wn_X2_takesReached_14 {l : Launch} {p : Program} {e : Env} {s : State} {m : MethodId} {args : Array Value} {below : List Frame} {meth : Method} {c : Code} {g : GG} {A : Nat → Prop} (C : KX p m c cX2_takesReached 2 s args RX2) (K : KC l g A s) (M : KM meth (some .boolean)) {σ' : CS} {r : Int32} {x1 : Int32}     (lay : Nat → Nat) (σ : CS)   (h : B_X2_takesReached_14 x1 σ  = some (σ', r)) : JJ p l e (rmk 0 0 0 0) s m args below meth c (MQ below (va_Qi (fun (r0 : Int32) (u : CS) => r0 = r ∧ u = σ') (BC (CH g A)) A) args s 0 0 A) A 2 (CH g A lay σ) 0 0 14 [] [] := by
  unfold B_X2_takesReached_14 at h
  refine j_iconst 15 C dX2_takesReached_14 ic_0 rfl ?_
  cases h
  exact x_z C M dX2_takesReached_15 (by decide)
set_option maxHeartbeats 4000000 in
set_option maxRecDepth 100000 in
theorem c_X2_takesReached {l : Launch} (hst : l.stackTraces = false) (g : GG) (A : Nat → Prop) (lay : Nat → Nat) {σ : CS} {σ' : CS} {r : Int32} {x1 : Int32}  (h : F_X2_takesReached σ x1 = some (σ', r)) : MI l yX2_takesReached cX2_takesReached 2 .boolean 0 0 0 0 [.ref (ga g 3), .int x1] (CH g A) g A lay σ σ' r := by
  unfold F_X2_takesReached at h
  refine e_i (own := RX2) (lo := [(0, .ref (ga g 3)), (1, .int x1)]) hst (plainFor_of_name (by decide)) rfl rfl (Nat.le_of_ble_eq_true rfl) ?_
  intro p e s m args below meth c C K M
  refine j_iload_n 1 C dX2_takesReached_0 1 rfl rfl ?_
  refine j_iconst 2 C dX2_takesReached_1 ic_m1 rfl ?_
  refine j_icmp_eq 5 14 C dX2_takesReached_2 (by decide) rfl (fun hc101 => ?_) (fun hc101 => ?_)
  · replace h := it_t hc101 h
    refine j_sub [] (lo' := []) rfl ?_
    exact wn_X2_takesReached_14 C K M  lay σ  h
  · replace h := it_f hc101 h
    refine j_aload_n 6 C dX2_takesReached_5 0 rfl rfl ?_
    refine g_R 9 C K 4 (by decide) mw_167 rfl dX2_takesReached_6 rfl ?_
    refine j_iload_n 10 C dX2_takesReached_9 1 rfl rfl ?_
    refine j_ishr 11 C dX2_takesReached_10 rfl ?_
    refine j_if_eq 14 16 C dX2_takesReached_11 (by decide) rfl (fun hc102 => ?_) (fun hc102 => ?_)
    · replace h := it_t hc102 h
      refine j_aload_n 17 C dX2_takesReached_16 0 rfl rfl ?_
      refine j_dup 18 C dX2_takesReached_17 rfl rfl ?_
      refine g_R 21 C K 4 (by decide) mw_167 rfl dX2_takesReached_18 rfl ?_
      refine j_iconst 22 C dX2_takesReached_21 ic_1 rfl ?_
      refine j_iload_n 23 C dX2_takesReached_22 1 rfl rfl ?_
      refine j_ishl 24 C dX2_takesReached_23 rfl ?_
      refine j_ior 25 C dX2_takesReached_24 rfl ?_
      refine p_R 28 C K 4 (by decide) mw_167 rfl rfl dX2_takesReached_25 rfl (fun σ103 eσ103 => ?_)
      replace h := lt_e h σ103 eσ103
      refine j_aload_n 29 C dX2_takesReached_28 0 rfl rfl ?_
      refine j_bipush 31 C dX2_takesReached_29 bp_8 rfl ?_
      refine p_R 34 C K 6 (by decide) mw_171 rfl rfl dX2_takesReached_31 rfl (fun σ104 eσ104 => ?_)
      replace h := lt_e h σ104 eσ104
      refine j_iconst 35 C dX2_takesReached_34 ic_1 rfl ?_
      cases h
      exact x_z C M dX2_takesReached_35 (by decide)
    · replace h := it_f hc102 h
      refine j_sub [] (lo' := []) rfl ?_
      exact wn_X2_takesReached_14 C K M  lay σ  h
theorem cp_X2_takes : CPv yX2_takes cX2_takes 4 (some .boolean) RX2 3 := ⟨mw_341, mw_342, mw_101, mw_343, rfl, by decide, by decide, by decide +kernel⟩
set_option maxHeartbeats 4000000 in
set_option maxRecDepth 100000 in
theorem wn_X2_takes_318 {l : Launch} {p : Program} {e : Env} {s : State} {m : MethodId} {args : Array Value} {below : List Frame} {meth : Method} {c : Code} {g : GG} {A : Nat → Prop} (C : KX p m c cX2_takes 4 s args RX2) (K : KC l g A s) (M : KM meth (some .boolean)) {σ' : CS} {r : Int32} {x1 : Int32} {x2 : Int32} {x3 : Int32}     (lay : Nat → Nat) (σ : CS) (w0 : Int32)  (h : B_X2_takes_318 x1 x2 x3 σ w0 = some (σ', r)) : JJ p l e (rmk 2 43 0 0) s m args below meth c (MQ below (va_Qi (fun (r0 : Int32) (u : CS) => r0 = r ∧ u = σ') (BC (CH g A)) A) args s 0 0 A) A 4 (CH g A lay σ) 0 0 318 [] [.int w0, .ref (ga g 3)] := by
  unfold B_X2_takes_318 at h
  refine j_iconst 319 C dX2_takes_318 ic_0 rfl ?_
  obtain ⟨σ177, r178, hF, h⟩ := bd_e h
  refine k_Vi 322 C K (c_X2_goesOn K.2.2.2 g A lay  hF) cp_X2_goesOn (rv_R) mw_351 dX2_takes_319 rfl rfl (Nat.le_of_ble_eq_true rfl) ⟨Nat.le_of_ble_eq_true rfl, Nat.le_of_ble_eq_true rfl⟩ ⟨Nat.le_of_ble_eq_true rfl, Nat.le_of_ble_eq_true rfl⟩ rfl (fun lay => ?_)
  obtain ⟨hz179, h⟩ := gd_e h
  cases h
  exact x_z C M dX2_takes_322 hz179
set_option maxHeartbeats 4000000 in
set_option maxRecDepth 100000 in
theorem wn_X2_takes_300 {l : Launch} {p : Program} {e : Env} {s : State} {m : MethodId} {args : Array Value} {below : List Frame} {meth : Method} {c : Code} {g : GG} {A : Nat → Prop} (C : KX p m c cX2_takes 4 s args RX2) (K : KC l g A s) (M : KM meth (some .boolean)) {σ' : CS} {r : Int32} {x1 : Int32} {x2 : Int32} {x3 : Int32}     (lay : Nat → Nat) (σ : CS) (w0 : Int32)  (h : B_X2_takes_300 x1 x2 x3 σ w0 = some (σ', r)) : JJ p l e (rmk 2 43 0 0) s m args below meth c (MQ below (va_Qi (fun (r0 : Int32) (u : CS) => r0 = r ∧ u = σ') (BC (CH g A)) A) args s 0 0 A) A 4 (CH g A lay σ) 0 0 300 [] [.int w0, .ref (ga g 3)] := by
  unfold B_X2_takes_300 at h
  refine j_bipush 302 C dX2_takes_300 bp_11 rfl ?_
  obtain ⟨σ174, r175, hF, h⟩ := bd_e h
  refine k_Vi 305 C K (c_X2_goesOn K.2.2.2 g A lay  hF) cp_X2_goesOn (rv_R) mw_351 dX2_takes_302 rfl rfl (Nat.le_of_ble_eq_true rfl) ⟨Nat.le_of_ble_eq_true rfl, Nat.le_of_ble_eq_true rfl⟩ ⟨Nat.le_of_ble_eq_true rfl, Nat.le_of_ble_eq_true rfl⟩ rfl (fun lay => ?_)
  obtain ⟨hz176, h⟩ := gd_e h
  cases h
  exact x_z C M dX2_takes_305 hz176
set_option maxHeartbeats 4000000 in
set_option maxRecDepth 100000 in
theorem wn_X2_takes_270 {l : Launch} {p : Program} {e : Env} {s : State} {m : MethodId} {args : Array Value} {below : List Frame} {meth : Method} {c : Code} {g : GG} {A : Nat → Prop} (C : KX p m c cX2_takes 4 s args RX2) (K : KC l g A s) (M : KM meth (some .boolean)) {σ' : CS} {r : Int32} {x1 : Int32} {x2 : Int32} {x3 : Int32}     (lay : Nat → Nat) (σ : CS) (w0 : Int32)  (h : B_X2_takes_270 x1 x2 x3 σ w0 = some (σ', r)) : JJ p l e (rmk 2 43 0 0) s m args below meth c (MQ below (va_Qi (fun (r0 : Int32) (u : CS) => r0 = r ∧ u = σ') (BC (CH g A)) A) args s 0 0 A) A 4 (CH g A lay σ) 0 0 270 [] [.int w0, .ref (ga g 3)] := by
  unfold B_X2_takes_270 at h
  refine j_bipush 272 C dX2_takes_270 bp_10 rfl ?_
  obtain ⟨σ171, r172, hF, h⟩ := bd_e h
  refine k_Vi 275 C K (c_X2_goesOn K.2.2.2 g A lay  hF) cp_X2_goesOn (rv_R) mw_351 dX2_takes_272 rfl rfl (Nat.le_of_ble_eq_true rfl) ⟨Nat.le_of_ble_eq_true rfl, Nat.le_of_ble_eq_true rfl⟩ ⟨Nat.le_of_ble_eq_true rfl, Nat.le_of_ble_eq_true rfl⟩ rfl (fun lay => ?_)
  obtain ⟨hz173, h⟩ := gd_e h
  cases h
  exact x_z C M dX2_takes_275 hz173
set_option maxHeartbeats 4000000 in
set_option maxRecDepth 100000 in
theorem wn_X2_takes_252 {l : Launch} {p : Program} {e : Env} {s : State} {m : MethodId} {args : Array Value} {below : List Frame} {meth : Method} {c : Code} {g : GG} {A : Nat → Prop} (C : KX p m c cX2_takes 4 s args RX2) (K : KC l g A s) (M : KM meth (some .boolean)) {σ' : CS} {r : Int32} {x1 : Int32} {x2 : Int32} {x3 : Int32}     (lay : Nat → Nat) (σ : CS)   (h : B_X2_takes_252 x1 x2 x3 σ  = some (σ', r)) : JJ p l e (rmk 2 43 0 0) s m args below meth c (MQ below (va_Qi (fun (r0 : Int32) (u : CS) => r0 = r ∧ u = σ') (BC (CH g A)) A) args s 0 0 A) A 4 (CH g A lay σ) 0 0 252 [] [] := by
  unfold B_X2_takes_252 at h
  refine j_iconst 253 C dX2_takes_252 ic_1 rfl ?_
  refine j_goto 257 C dX2_takes_253 (by decide) ?_
  cases h
  exact x_z C M dX2_takes_257 (by decide)
set_option maxHeartbeats 4000000 in
set_option maxRecDepth 100000 in
theorem wn_X2_takes_233 {l : Launch} {p : Program} {e : Env} {s : State} {m : MethodId} {args : Array Value} {below : List Frame} {meth : Method} {c : Code} {g : GG} {A : Nat → Prop} (C : KX p m c cX2_takes 4 s args RX2) (K : KC l g A s) (M : KM meth (some .boolean)) {σ' : CS} {r : Int32} {x1 : Int32} {x2 : Int32} {x3 : Int32}     (lay : Nat → Nat) (σ : CS) (w0 : Int32)  (h : B_X2_takes_233 x1 x2 x3 σ w0 = some (σ', r)) : JJ p l e (rmk 2 43 0 0) s m args below meth c (MQ below (va_Qi (fun (r0 : Int32) (u : CS) => r0 = r ∧ u = σ') (BC (CH g A)) A) args s 0 0 A) A 4 (CH g A lay σ) 0 0 233 [(0, .ref (ga g 3)), (1, .int x1), (2, .int x2)] [.int w0, .ref (ga g 3)] := by
  unfold B_X2_takes_233 at h
  refine j_iconst 234 C dX2_takes_233 ic_0 rfl ?_
  obtain ⟨σ163, r164, hF, h⟩ := bd_e h
  refine k_Vi 237 C K (c_X2_goesOn K.2.2.2 g A lay  hF) cp_X2_goesOn (rv_R) mw_351 dX2_takes_234 rfl rfl (Nat.le_of_ble_eq_true rfl) ⟨Nat.le_of_ble_eq_true rfl, Nat.le_of_ble_eq_true rfl⟩ ⟨Nat.le_of_ble_eq_true rfl, Nat.le_of_ble_eq_true rfl⟩ rfl (fun lay => ?_)
  refine j_if_ne 240 252 C dX2_takes_237 (by decide) rfl (fun hc165 => ?_) (fun hc165 => ?_)
  · replace h := it_f hc165 h
    refine j_sub [] (lo' := []) rfl ?_
    exact wn_X2_takes_252 C K M  lay σ163  h
  · replace h := it_t hc165 h
    refine j_aload_n 241 C dX2_takes_240 0 rfl rfl ?_
    refine j_iload_n 242 C dX2_takes_241 1 rfl rfl ?_
    refine j_iload_n 243 C dX2_takes_242 2 rfl rfl ?_
    obtain ⟨σ166, r167, hF, h⟩ := bd_e h
    refine k_Si 246 C K (c_X2_digit K.2.2.2 g A lay  hF) cp_X2_digit mw_355 dX2_takes_243 rfl rfl (Nat.le_of_ble_eq_true rfl) ⟨Nat.le_of_ble_eq_true rfl, Nat.le_of_ble_eq_true rfl⟩ ⟨Nat.le_of_ble_eq_true rfl, Nat.le_of_ble_eq_true rfl⟩ rfl (fun lay => ?_)
    obtain ⟨σ168, r169, hF, h⟩ := bd_e h
    refine k_Vi 249 C K (c_X2_takesReached K.2.2.2 g A lay  hF) cp_X2_takesReached (rv_R) mw_362 dX2_takes_246 rfl rfl (Nat.le_of_ble_eq_true rfl) ⟨Nat.le_of_ble_eq_true rfl, Nat.le_of_ble_eq_true rfl⟩ ⟨Nat.le_of_ble_eq_true rfl, Nat.le_of_ble_eq_true rfl⟩ rfl (fun lay => ?_)
    refine j_if_eq 252 256 C dX2_takes_249 (by decide) rfl (fun hc170 => ?_) (fun hc170 => ?_)
    · replace h := it_t hc170 h
      refine j_iconst 257 C dX2_takes_256 ic_0 rfl ?_
      cases h
      exact x_z C M dX2_takes_257 (by decide)
    · replace h := it_f hc170 h
      refine j_sub [] (lo' := []) rfl ?_
      exact wn_X2_takes_252 C K M  lay σ168  h
set_option maxHeartbeats 4000000 in
set_option maxRecDepth 100000 in
theorem wn_X2_takes_205 {l : Launch} {p : Program} {e : Env} {s : State} {m : MethodId} {args : Array Value} {below : List Frame} {meth : Method} {c : Code} {g : GG} {A : Nat → Prop} (C : KX p m c cX2_takes 4 s args RX2) (K : KC l g A s) (M : KM meth (some .boolean)) {σ' : CS} {r : Int32} {x1 : Int32} {x2 : Int32} {x3 : Int32}     (lay : Nat → Nat) (σ : CS) (w0 : Int32)  (h : B_X2_takes_205 x1 x2 x3 σ w0 = some (σ', r)) : JJ p l e (rmk 2 43 0 0) s m args below meth c (MQ below (va_Qi (fun (r0 : Int32) (u : CS) => r0 = r ∧ u = σ') (BC (CH g A)) A) args s 0 0 A) A 4 (CH g A lay σ) 0 0 205 [] [.int w0, .ref (ga g 3)] := by
  unfold B_X2_takes_205 at h
  refine j_bipush 207 C dX2_takes_205 bp_7 rfl ?_
  obtain ⟨σ160, r161, hF, h⟩ := bd_e h
  refine k_Vi 210 C K (c_X2_goesOn K.2.2.2 g A lay  hF) cp_X2_goesOn (rv_R) mw_351 dX2_takes_207 rfl rfl (Nat.le_of_ble_eq_true rfl) ⟨Nat.le_of_ble_eq_true rfl, Nat.le_of_ble_eq_true rfl⟩ ⟨Nat.le_of_ble_eq_true rfl, Nat.le_of_ble_eq_true rfl⟩ rfl (fun lay => ?_)
  obtain ⟨hz162, h⟩ := gd_e h
  cases h
  exact x_z C M dX2_takes_210 hz162
set_option maxHeartbeats 4000000 in
set_option maxRecDepth 100000 in
theorem wn_X2_takes_187 {l : Launch} {p : Program} {e : Env} {s : State} {m : MethodId} {args : Array Value} {below : List Frame} {meth : Method} {c : Code} {g : GG} {A : Nat → Prop} (C : KX p m c cX2_takes 4 s args RX2) (K : KC l g A s) (M : KM meth (some .boolean)) {σ' : CS} {r : Int32} {x1 : Int32} {x2 : Int32} {x3 : Int32}     (lay : Nat → Nat) (σ : CS) (w0 : Int32)  (h : B_X2_takes_187 x1 x2 x3 σ w0 = some (σ', r)) : JJ p l e (rmk 2 43 0 0) s m args below meth c (MQ below (va_Qi (fun (r0 : Int32) (u : CS) => r0 = r ∧ u = σ') (BC (CH g A)) A) args s 0 0 A) A 4 (CH g A lay σ) 0 0 187 [] [.int w0, .ref (ga g 3)] := by
  unfold B_X2_takes_187 at h
  refine j_bipush 189 C dX2_takes_187 bp_6 rfl ?_
  obtain ⟨σ157, r158, hF, h⟩ := bd_e h
  refine k_Vi 192 C K (c_X2_goesOn K.2.2.2 g A lay  hF) cp_X2_goesOn (rv_R) mw_351 dX2_takes_189 rfl rfl (Nat.le_of_ble_eq_true rfl) ⟨Nat.le_of_ble_eq_true rfl, Nat.le_of_ble_eq_true rfl⟩ ⟨Nat.le_of_ble_eq_true rfl, Nat.le_of_ble_eq_true rfl⟩ rfl (fun lay => ?_)
  obtain ⟨hz159, h⟩ := gd_e h
  cases h
  exact x_z C M dX2_takes_192 hz159
set_option maxHeartbeats 4000000 in
set_option maxRecDepth 100000 in
theorem wn_X2_takes_158 {l : Launch} {p : Program} {e : Env} {s : State} {m : MethodId} {args : Array Value} {below : List Frame} {meth : Method} {c : Code} {g : GG} {A : Nat → Prop} (C : KX p m c cX2_takes 4 s args RX2) (K : KC l g A s) (M : KM meth (some .boolean)) {σ' : CS} {r : Int32} {x1 : Int32} {x2 : Int32} {x3 : Int32}     (lay : Nat → Nat) (σ : CS) (w0 : Int32)  (h : B_X2_takes_158 x1 x2 x3 σ w0 = some (σ', r)) : JJ p l e (rmk 2 43 0 0) s m args below meth c (MQ below (va_Qi (fun (r0 : Int32) (u : CS) => r0 = r ∧ u = σ') (BC (CH g A)) A) args s 0 0 A) A 4 (CH g A lay σ) 0 0 158 [] [.int w0, .ref (ga g 3)] := by
  unfold B_X2_takes_158 at h
  refine j_iconst 159 C dX2_takes_158 ic_5 rfl ?_
  obtain ⟨σ154, r155, hF, h⟩ := bd_e h
  refine k_Vi 162 C K (c_X2_goesOn K.2.2.2 g A lay  hF) cp_X2_goesOn (rv_R) mw_351 dX2_takes_159 rfl rfl (Nat.le_of_ble_eq_true rfl) ⟨Nat.le_of_ble_eq_true rfl, Nat.le_of_ble_eq_true rfl⟩ ⟨Nat.le_of_ble_eq_true rfl, Nat.le_of_ble_eq_true rfl⟩ rfl (fun lay => ?_)
  obtain ⟨hz156, h⟩ := gd_e h
  cases h
  exact x_z C M dX2_takes_162 hz156
set_option maxHeartbeats 4000000 in
set_option maxRecDepth 100000 in
theorem wn_X2_takes_141 {l : Launch} {p : Program} {e : Env} {s : State} {m : MethodId} {args : Array Value} {below : List Frame} {meth : Method} {c : Code} {g : GG} {A : Nat → Prop} (C : KX p m c cX2_takes 4 s args RX2) (K : KC l g A s) (M : KM meth (some .boolean)) {σ' : CS} {r : Int32} {x1 : Int32} {x2 : Int32} {x3 : Int32}     (lay : Nat → Nat) (σ : CS) (w0 : Int32)  (h : B_X2_takes_141 x1 x2 x3 σ w0 = some (σ', r)) : JJ p l e (rmk 2 43 0 0) s m args below meth c (MQ below (va_Qi (fun (r0 : Int32) (u : CS) => r0 = r ∧ u = σ') (BC (CH g A)) A) args s 0 0 A) A 4 (CH g A lay σ) 0 0 141 [] [.int w0, .ref (ga g 3)] := by
  unfold B_X2_takes_141 at h
  refine j_iconst 142 C dX2_takes_141 ic_4 rfl ?_
  obtain ⟨σ151, r152, hF, h⟩ := bd_e h
  refine k_Vi 145 C K (c_X2_goesOn K.2.2.2 g A lay  hF) cp_X2_goesOn (rv_R) mw_351 dX2_takes_142 rfl rfl (Nat.le_of_ble_eq_true rfl) ⟨Nat.le_of_ble_eq_true rfl, Nat.le_of_ble_eq_true rfl⟩ ⟨Nat.le_of_ble_eq_true rfl, Nat.le_of_ble_eq_true rfl⟩ rfl (fun lay => ?_)
  obtain ⟨hz153, h⟩ := gd_e h
  cases h
  exact x_z C M dX2_takes_145 hz153
set_option maxHeartbeats 4000000 in
set_option maxRecDepth 100000 in
theorem wn_X2_takes_113 {l : Launch} {p : Program} {e : Env} {s : State} {m : MethodId} {args : Array Value} {below : List Frame} {meth : Method} {c : Code} {g : GG} {A : Nat → Prop} (C : KX p m c cX2_takes 4 s args RX2) (K : KC l g A s) (M : KM meth (some .boolean)) {σ' : CS} {r : Int32} {x1 : Int32} {x2 : Int32} {x3 : Int32}     (lay : Nat → Nat) (σ : CS) (w0 : Int32)  (h : B_X2_takes_113 x1 x2 x3 σ w0 = some (σ', r)) : JJ p l e (rmk 2 43 0 0) s m args below meth c (MQ below (va_Qi (fun (r0 : Int32) (u : CS) => r0 = r ∧ u = σ') (BC (CH g A)) A) args s 0 0 A) A 4 (CH g A lay σ) 0 0 113 [] [.int w0, .ref (ga g 3)] := by
  unfold B_X2_takes_113 at h
  refine j_iconst 114 C dX2_takes_113 ic_3 rfl ?_
  obtain ⟨σ148, r149, hF, h⟩ := bd_e h
  refine k_Vi 117 C K (c_X2_goesOn K.2.2.2 g A lay  hF) cp_X2_goesOn (rv_R) mw_351 dX2_takes_114 rfl rfl (Nat.le_of_ble_eq_true rfl) ⟨Nat.le_of_ble_eq_true rfl, Nat.le_of_ble_eq_true rfl⟩ ⟨Nat.le_of_ble_eq_true rfl, Nat.le_of_ble_eq_true rfl⟩ rfl (fun lay => ?_)
  obtain ⟨hz150, h⟩ := gd_e h
  cases h
  exact x_z C M dX2_takes_117 hz150
set_option maxHeartbeats 4000000 in
set_option maxRecDepth 100000 in
theorem wn_X2_takes_93 {l : Launch} {p : Program} {e : Env} {s : State} {m : MethodId} {args : Array Value} {below : List Frame} {meth : Method} {c : Code} {g : GG} {A : Nat → Prop} (C : KX p m c cX2_takes 4 s args RX2) (K : KC l g A s) (M : KM meth (some .boolean)) {σ' : CS} {r : Int32} {x1 : Int32} {x2 : Int32} {x3 : Int32}     (lay : Nat → Nat) (σ : CS) (w0 : Int32)  (h : B_X2_takes_93 x1 x2 x3 σ w0 = some (σ', r)) : JJ p l e (rmk 2 43 0 0) s m args below meth c (MQ below (va_Qi (fun (r0 : Int32) (u : CS) => r0 = r ∧ u = σ') (BC (CH g A)) A) args s 0 0 A) A 4 (CH g A lay σ) 0 0 93 [(0, .ref (ga g 3))] [.int w0, .ref (ga g 3)] := by
  unfold B_X2_takes_93 at h
  refine j_aload_n 94 C dX2_takes_93 0 rfl rfl ?_
  obtain ⟨σ143, r144, hF, h⟩ := bd_e h
  refine k_Vi 97 C K (c_X2_placeBehindNode K.2.2.2 g A lay  hF) cp_X2_placeBehindNode (rv_R) mw_358 dX2_takes_94 rfl rfl (Nat.le_of_ble_eq_true rfl) ⟨Nat.le_of_ble_eq_true rfl, Nat.le_of_ble_eq_true rfl⟩ ⟨Nat.le_of_ble_eq_true rfl, Nat.le_of_ble_eq_true rfl⟩ rfl (fun lay => ?_)
  obtain ⟨σ145, r146, hF, h⟩ := bd_e h
  refine k_Vi 100 C K (c_X2_goesOn K.2.2.2 g A lay  hF) cp_X2_goesOn (rv_R) mw_351 dX2_takes_97 rfl rfl (Nat.le_of_ble_eq_true rfl) ⟨Nat.le_of_ble_eq_true rfl, Nat.le_of_ble_eq_true rfl⟩ ⟨Nat.le_of_ble_eq_true rfl, Nat.le_of_ble_eq_true rfl⟩ rfl (fun lay => ?_)
  obtain ⟨hz147, h⟩ := gd_e h
  cases h
  exact x_z C M dX2_takes_100 hz147
set_option maxHeartbeats 4000000 in
set_option maxRecDepth 100000 in
theorem c_X2_takes {l : Launch} (hst : l.stackTraces = false) (g : GG) (A : Nat → Prop) (lay : Nat → Nat) {σ : CS} {σ' : CS} {r : Int32} {x1 : Int32} {x2 : Int32} {x3 : Int32}  (h : F_X2_takes σ x1 x2 x3 = some (σ', r)) : MI l yX2_takes cX2_takes 4 .boolean 2 43 0 0 [.ref (ga g 3), .int x1, .int x2, .int x3] (CH g A) g A lay σ σ' r := by
  unfold F_X2_takes at h
  refine e_i (own := RX2) (lo := [(0, .ref (ga g 3)), (1, .int x1), (2, .int x2), (3, .int x3)]) hst (plainFor_of_name (by decide)) rfl rfl (Nat.le_of_ble_eq_true rfl) ?_
  intro p e s m args below meth c C K M
  refine j_aload_n 1 C dX2_takes_0 0 rfl rfl ?_
  refine g_R 4 C K 6 (by decide) mw_171 rfl dX2_takes_1 rfl ?_
  refine j_topi (fun x101 ex101 => ?_)
  replace h := lt_e h x101 ex101
  by_cases hc102 : x101 = 0
  · replace h := it_t hc102 h
    refine j_tin 64 C dX2_takes_4 (off := 60) (by rw [hc102]; decide) (by rw [hc102]; decide) (by rw [hc102]; decide) (by decide) ?_
    refine j_aload_n 65 C dX2_takes_64 0 rfl rfl ?_
    refine j_iload_n 66 C dX2_takes_65 1 rfl rfl ?_
    obtain ⟨σ103, r104, hF, h⟩ := bd_e h
    refine k_Vi 69 C K (c_X2_takesLetter K.2.2.2 g A lay  hF) cp_X2_takesLetter (rv_R) mw_344 dX2_takes_66 rfl rfl (Nat.le_of_ble_eq_true rfl) ⟨Nat.le_of_ble_eq_true rfl, Nat.le_of_ble_eq_true rfl⟩ ⟨Nat.le_of_ble_eq_true rfl, Nat.le_of_ble_eq_true rfl⟩ rfl (fun lay => ?_)
    obtain ⟨hz105, h⟩ := gd_e h
    cases h
    exact x_z C M dX2_takes_69 hz105
  replace h := it_f hc102 h
  by_cases hc106 : x101 = 1
  · replace h := it_t hc106 h
    refine j_tin 70 C dX2_takes_4 (off := 66) (by rw [hc106]; decide) (by rw [hc106]; decide) (by rw [hc106]; decide) (by decide) ?_
    refine j_aload_n 71 C dX2_takes_70 0 rfl rfl ?_
    refine j_iload_n 72 C dX2_takes_71 1 rfl rfl ?_
    refine j_iload_n 73 C dX2_takes_72 2 rfl rfl ?_
    obtain ⟨σ107, r108, hF, h⟩ := bd_e h
    refine k_Si 76 C K (c_X2_digit K.2.2.2 g A lay  hF) cp_X2_digit mw_355 dX2_takes_73 rfl rfl (Nat.le_of_ble_eq_true rfl) ⟨Nat.le_of_ble_eq_true rfl, Nat.le_of_ble_eq_true rfl⟩ ⟨Nat.le_of_ble_eq_true rfl, Nat.le_of_ble_eq_true rfl⟩ rfl (fun lay => ?_)
    refine p_R 79 C K 1 (by decide) mw_161 rfl rfl dX2_takes_76 rfl (fun σ109 eσ109 => ?_)
    replace h := lt_e h σ109 eσ109
    refine j_aload_n 80 C dX2_takes_79 0 rfl rfl ?_
    refine j_aload_n 81 C dX2_takes_80 0 rfl rfl ?_
    refine g_R 84 C K 1 (by decide) mw_161 rfl dX2_takes_81 rfl ?_
    refine j_iconst 85 C dX2_takes_84 ic_m1 rfl ?_
    refine j_icmp_eq 88 92 C dX2_takes_85 (by decide) rfl (fun hc110 => ?_) (fun hc110 => ?_)
    · replace h := it_t hc110 h
      refine j_iconst 93 C dX2_takes_92 ic_0 rfl ?_
      refine j_sub [0] (lo' := [(0, .ref (ga g 3))]) rfl ?_
      exact wn_X2_takes_93 C K M  lay σ109 (0 : Int32) h
    · replace h := it_f hc110 h
      refine j_iconst 89 C dX2_takes_88 ic_1 rfl ?_
      refine j_goto 93 C dX2_takes_89 (by decide) ?_
      refine j_sub [0] (lo' := [(0, .ref (ga g 3))]) rfl ?_
      exact wn_X2_takes_93 C K M  lay σ109 (1 : Int32) h
  replace h := it_f hc106 h
  by_cases hc111 : x101 = 2
  · replace h := it_t hc111 h
    refine j_tin 101 C dX2_takes_4 (off := 97) (by rw [hc111]; decide) (by rw [hc111]; decide) (by rw [hc111]; decide) (by decide) ?_
    refine j_aload_n 102 C dX2_takes_101 0 rfl rfl ?_
    refine j_iload_n 103 C dX2_takes_102 1 rfl rfl ?_
    refine j_bipush 105 C dX2_takes_103 bp_115 rfl ?_
    refine j_icmp_ne 108 112 C dX2_takes_105 (by decide) rfl (fun hc112 => ?_) (fun hc112 => ?_)
    · replace h := it_f hc112 h
      refine j_iconst 113 C dX2_takes_112 ic_0 rfl ?_
      refine j_sub [] (lo' := []) rfl ?_
      exact wn_X2_takes_113 C K M  lay σ (0 : Int32) h
    · replace h := it_t hc112 h
      refine j_iconst 109 C dX2_takes_108 ic_1 rfl ?_
      refine j_goto 113 C dX2_takes_109 (by decide) ?_
      refine j_sub [] (lo' := []) rfl ?_
      exact wn_X2_takes_113 C K M  lay σ (1 : Int32) h
  replace h := it_f hc111 h
  by_cases hc113 : x101 = 3
  · replace h := it_t hc113 h
    refine j_tin 118 C dX2_takes_4 (off := 114) (by rw [hc113]; decide) (by rw [hc113]; decide) (by rw [hc113]; decide) (by decide) ?_
    refine j_aload_n 119 C dX2_takes_118 0 rfl rfl ?_
    refine j_iload_n 120 C dX2_takes_119 1 rfl rfl ?_
    refine j_iload_n 121 C dX2_takes_120 3 rfl rfl ?_
    obtain ⟨σ114, r115, hF, h⟩ := bd_e h
    refine k_Si 124 C K (c_X2_digit K.2.2.2 g A lay  hF) cp_X2_digit mw_355 dX2_takes_121 rfl rfl (Nat.le_of_ble_eq_true rfl) ⟨Nat.le_of_ble_eq_true rfl, Nat.le_of_ble_eq_true rfl⟩ ⟨Nat.le_of_ble_eq_true rfl, Nat.le_of_ble_eq_true rfl⟩ rfl (fun lay => ?_)
    refine p_R 127 C K 2 (by decide) mw_163 rfl rfl dX2_takes_124 rfl (fun σ116 eσ116 => ?_)
    replace h := lt_e h σ116 eσ116
    refine j_aload_n 128 C dX2_takes_127 0 rfl rfl ?_
    refine j_aload_n 129 C dX2_takes_128 0 rfl rfl ?_
    refine g_R 132 C K 2 (by decide) mw_163 rfl dX2_takes_129 rfl ?_
    refine j_iconst 133 C dX2_takes_132 ic_m1 rfl ?_
    refine j_icmp_eq 136 140 C dX2_takes_133 (by decide) rfl (fun hc117 => ?_) (fun hc117 => ?_)
    · replace h := it_t hc117 h
      refine j_iconst 141 C dX2_takes_140 ic_0 rfl ?_
      refine j_sub [] (lo' := []) rfl ?_
      exact wn_X2_takes_141 C K M  lay σ116 (0 : Int32) h
    · replace h := it_f hc117 h
      refine j_iconst 137 C dX2_takes_136 ic_1 rfl ?_
      refine j_goto 141 C dX2_takes_137 (by decide) ?_
      refine j_sub [] (lo' := []) rfl ?_
      exact wn_X2_takes_141 C K M  lay σ116 (1 : Int32) h
  replace h := it_f hc113 h
  by_cases hc118 : x101 = 4
  · replace h := it_t hc118 h
    refine j_tin 146 C dX2_takes_4 (off := 142) (by rw [hc118]; decide) (by rw [hc118]; decide) (by rw [hc118]; decide) (by decide) ?_
    refine j_aload_n 147 C dX2_takes_146 0 rfl rfl ?_
    refine j_iload_n 148 C dX2_takes_147 1 rfl rfl ?_
    refine j_bipush 150 C dX2_takes_148 bp_61 rfl ?_
    refine j_icmp_ne 153 157 C dX2_takes_150 (by decide) rfl (fun hc119 => ?_) (fun hc119 => ?_)
    · replace h := it_f hc119 h
      refine j_iconst 158 C dX2_takes_157 ic_0 rfl ?_
      refine j_sub [] (lo' := []) rfl ?_
      exact wn_X2_takes_158 C K M  lay σ (0 : Int32) h
    · replace h := it_t hc119 h
      refine j_iconst 154 C dX2_takes_153 ic_1 rfl ?_
      refine j_goto 158 C dX2_takes_154 (by decide) ?_
      refine j_sub [] (lo' := []) rfl ?_
      exact wn_X2_takes_158 C K M  lay σ (1 : Int32) h
  replace h := it_f hc118 h
  by_cases hc120 : x101 = 5
  · replace h := it_t hc120 h
    refine j_tin 163 C dX2_takes_4 (off := 159) (by rw [hc120]; decide) (by rw [hc120]; decide) (by rw [hc120]; decide) (by decide) ?_
    refine j_aload_n 164 C dX2_takes_163 0 rfl rfl ?_
    refine j_iload_n 165 C dX2_takes_164 1 rfl rfl ?_
    refine j_bipush 167 C dX2_takes_165 bp_10 rfl ?_
    obtain ⟨σ121, r122, hF, h⟩ := bd_e h
    refine k_Si 170 C K (c_X2_digit K.2.2.2 g A lay  hF) cp_X2_digit mw_355 dX2_takes_167 rfl rfl (Nat.le_of_ble_eq_true rfl) ⟨Nat.le_of_ble_eq_true rfl, Nat.le_of_ble_eq_true rfl⟩ ⟨Nat.le_of_ble_eq_true rfl, Nat.le_of_ble_eq_true rfl⟩ rfl (fun lay => ?_)
    refine p_R 173 C K 3 (by decide) mw_165 rfl rfl dX2_takes_170 rfl (fun σ123 eσ123 => ?_)
    replace h := lt_e h σ123 eσ123
    refine j_aload_n 174 C dX2_takes_173 0 rfl rfl ?_
    refine j_aload_n 175 C dX2_takes_174 0 rfl rfl ?_
    refine g_R 178 C K 3 (by decide) mw_165 rfl dX2_takes_175 rfl ?_
    refine j_iconst 179 C dX2_takes_178 ic_m1 rfl ?_
    refine j_icmp_eq 182 186 C dX2_takes_179 (by decide) rfl (fun hc124 => ?_) (fun hc124 => ?_)
    · replace h := it_t hc124 h
      refine j_iconst 187 C dX2_takes_186 ic_0 rfl ?_
      refine j_sub [] (lo' := []) rfl ?_
      exact wn_X2_takes_187 C K M  lay σ123 (0 : Int32) h
    · replace h := it_f hc124 h
      refine j_iconst 183 C dX2_takes_182 ic_1 rfl ?_
      refine j_goto 187 C dX2_takes_183 (by decide) ?_
      refine j_sub [] (lo' := []) rfl ?_
      exact wn_X2_takes_187 C K M  lay σ123 (1 : Int32) h
  replace h := it_f hc120 h
  by_cases hc125 : x101 = 6
  · replace h := it_t hc125 h
    refine j_tin 193 C dX2_takes_4 (off := 189) (by rw [hc125]; decide) (by rw [hc125]; decide) (by rw [hc125]; decide) (by decide) ?_
    refine j_aload_n 194 C dX2_takes_193 0 rfl rfl ?_
    refine j_iload_n 195 C dX2_takes_194 1 rfl rfl ?_
    refine j_bipush 197 C dX2_takes_195 bp_62 rfl ?_
    refine j_icmp_ne 200 204 C dX2_takes_197 (by decide) rfl (fun hc126 => ?_) (fun hc126 => ?_)
    · replace h := it_f hc126 h
      refine j_iconst 205 C dX2_takes_204 ic_0 rfl ?_
      refine j_sub [] (lo' := []) rfl ?_
      exact wn_X2_takes_205 C K M  lay σ (0 : Int32) h
    · replace h := it_t hc126 h
      refine j_iconst 201 C dX2_takes_200 ic_1 rfl ?_
      refine j_goto 205 C dX2_takes_201 (by decide) ?_
      refine j_sub [] (lo' := []) rfl ?_
      exact wn_X2_takes_205 C K M  lay σ (1 : Int32) h
  replace h := it_f hc125 h
  by_cases hc127 : x101 = 7
  · replace h := it_t hc127 h
    refine j_tin 211 C dX2_takes_4 (off := 207) (by rw [hc127]; decide) (by rw [hc127]; decide) (by rw [hc127]; decide) (by decide) ?_
    refine j_aload_n 212 C dX2_takes_211 0 rfl rfl ?_
    refine j_iload_n 213 C dX2_takes_212 1 rfl rfl ?_
    refine j_iload_n 214 C dX2_takes_213 2 rfl rfl ?_
    obtain ⟨σ128, r129, hF, h⟩ := bd_e h
    refine k_Si 217 C K (c_X2_digit K.2.2.2 g A lay  hF) cp_X2_digit mw_355 dX2_takes_214 rfl rfl (Nat.le_of_ble_eq_true rfl) ⟨Nat.le_of_ble_eq_true rfl, Nat.le_of_ble_eq_true rfl⟩ ⟨Nat.le_of_ble_eq_true rfl, Nat.le_of_ble_eq_true rfl⟩ rfl (fun lay => ?_)
    obtain ⟨σ130, r131, hF, h⟩ := bd_e h
    refine k_Vi 220 C K (c_X2_takesReached K.2.2.2 g A lay  hF) cp_X2_takesReached (rv_R) mw_362 dX2_takes_217 rfl rfl (Nat.le_of_ble_eq_true rfl) ⟨Nat.le_of_ble_eq_true rfl, Nat.le_of_ble_eq_true rfl⟩ ⟨Nat.le_of_ble_eq_true rfl, Nat.le_of_ble_eq_true rfl⟩ rfl (fun lay => ?_)
    obtain ⟨hz132, h⟩ := gd_e h
    cases h
    exact x_z C M dX2_takes_220 hz132
  replace h := it_f hc127 h
  by_cases hc133 : x101 = 8
  · replace h := it_t hc133 h
    refine j_tin 221 C dX2_takes_4 (off := 217) (by rw [hc133]; decide) (by rw [hc133]; decide) (by rw [hc133]; decide) (by decide) ?_
    refine j_aload_n 222 C dX2_takes_221 0 rfl rfl ?_
    refine j_iload_n 223 C dX2_takes_222 1 rfl rfl ?_
    refine j_bipush 225 C dX2_takes_223 bp_59 rfl ?_
    refine j_icmp_ne 228 232 C dX2_takes_225 (by decide) rfl (fun hc134 => ?_) (fun hc134 => ?_)
    · replace h := it_f hc134 h
      refine j_iconst 233 C dX2_takes_232 ic_0 rfl ?_
      refine j_sub [0, 1, 2] (lo' := [(0, .ref (ga g 3)), (1, .int x1), (2, .int x2)]) rfl ?_
      exact wn_X2_takes_233 C K M  lay σ (0 : Int32) h
    · replace h := it_t hc134 h
      refine j_iconst 229 C dX2_takes_228 ic_1 rfl ?_
      refine j_goto 233 C dX2_takes_229 (by decide) ?_
      refine j_sub [0, 1, 2] (lo' := [(0, .ref (ga g 3)), (1, .int x1), (2, .int x2)]) rfl ?_
      exact wn_X2_takes_233 C K M  lay σ (1 : Int32) h
  replace h := it_f hc133 h
  by_cases hc135 : x101 = 9
  · replace h := it_t hc135 h
    refine j_tin 258 C dX2_takes_4 (off := 254) (by rw [hc135]; decide) (by rw [hc135]; decide) (by rw [hc135]; decide) (by decide) ?_
    refine j_aload_n 259 C dX2_takes_258 0 rfl rfl ?_
    refine j_iload_n 260 C dX2_takes_259 1 rfl rfl ?_
    refine j_bipush 262 C dX2_takes_260 bp_45 rfl ?_
    refine j_icmp_ne 265 269 C dX2_takes_262 (by decide) rfl (fun hc136 => ?_) (fun hc136 => ?_)
    · replace h := it_f hc136 h
      refine j_iconst 270 C dX2_takes_269 ic_0 rfl ?_
      refine j_sub [] (lo' := []) rfl ?_
      exact wn_X2_takes_270 C K M  lay σ (0 : Int32) h
    · replace h := it_t hc136 h
      refine j_iconst 266 C dX2_takes_265 ic_1 rfl ?_
      refine j_goto 270 C dX2_takes_266 (by decide) ?_
      refine j_sub [] (lo' := []) rfl ?_
      exact wn_X2_takes_270 C K M  lay σ (1 : Int32) h
  replace h := it_f hc135 h
  by_cases hc137 : x101 = 10
  · replace h := it_t hc137 h
    refine j_tin 276 C dX2_takes_4 (off := 272) (by rw [hc137]; decide) (by rw [hc137]; decide) (by rw [hc137]; decide) (by decide) ?_
    refine j_aload_n 277 C dX2_takes_276 0 rfl rfl ?_
    refine j_iload_n 278 C dX2_takes_277 1 rfl rfl ?_
    refine j_bipush 280 C dX2_takes_278 bp_10 rfl ?_
    obtain ⟨σ138, r139, hF, h⟩ := bd_e h
    refine k_Si 283 C K (c_X2_digit K.2.2.2 g A lay  hF) cp_X2_digit mw_355 dX2_takes_280 rfl rfl (Nat.le_of_ble_eq_true rfl) ⟨Nat.le_of_ble_eq_true rfl, Nat.le_of_ble_eq_true rfl⟩ ⟨Nat.le_of_ble_eq_true rfl, Nat.le_of_ble_eq_true rfl⟩ rfl (fun lay => ?_)
    refine p_R 286 C K 5 (by decide) mw_169 rfl rfl dX2_takes_283 rfl (fun σ140 eσ140 => ?_)
    replace h := lt_e h σ140 eσ140
    refine j_aload_n 287 C dX2_takes_286 0 rfl rfl ?_
    refine j_aload_n 288 C dX2_takes_287 0 rfl rfl ?_
    refine g_R 291 C K 5 (by decide) mw_169 rfl dX2_takes_288 rfl ?_
    refine j_iconst 292 C dX2_takes_291 ic_m1 rfl ?_
    refine j_icmp_eq 295 299 C dX2_takes_292 (by decide) rfl (fun hc141 => ?_) (fun hc141 => ?_)
    · replace h := it_t hc141 h
      refine j_iconst 300 C dX2_takes_299 ic_0 rfl ?_
      refine j_sub [] (lo' := []) rfl ?_
      exact wn_X2_takes_300 C K M  lay σ140 (0 : Int32) h
    · replace h := it_f hc141 h
      refine j_iconst 296 C dX2_takes_295 ic_1 rfl ?_
      refine j_goto 300 C dX2_takes_296 (by decide) ?_
      refine j_sub [] (lo' := []) rfl ?_
      exact wn_X2_takes_300 C K M  lay σ140 (1 : Int32) h
  replace h := it_f hc137 h
  refine j_tout 306 C dX2_takes_4 (by have := lv_neT hc102 (a := 0) (by decide); have := lv_neT hc106 (a := 1) (by decide); have := lv_neT hc111 (a := 2) (by decide); have := lv_neT hc113 (a := 3) (by decide); have := lv_neT hc118 (a := 4) (by decide); have := lv_neT hc120 (a := 5) (by decide); have := lv_neT hc125 (a := 6) (by decide); have := lv_neT hc127 (a := 7) (by decide); have := lv_neT hc133 (a := 8) (by decide); have := lv_neT hc135 (a := 9) (by decide); have := lv_neT hc137 (a := 10) (by decide); omega) (by decide) ?_
  refine j_aload_n 307 C dX2_takes_306 0 rfl rfl ?_
  refine j_iload_n 308 C dX2_takes_307 1 rfl rfl ?_
  refine j_bipush 310 C dX2_takes_308 bp_59 rfl ?_
  refine j_icmp_ne 313 317 C dX2_takes_310 (by decide) rfl (fun hc142 => ?_) (fun hc142 => ?_)
  · replace h := it_f hc142 h
    refine j_iconst 318 C dX2_takes_317 ic_0 rfl ?_
    refine j_sub [] (lo' := []) rfl ?_
    exact wn_X2_takes_318 C K M  lay σ (0 : Int32) h
  · replace h := it_t hc142 h
    refine j_iconst 314 C dX2_takes_313 ic_1 rfl ?_
    refine j_goto 318 C dX2_takes_314 (by decide) ?_
    refine j_sub [] (lo' := []) rfl ?_
    exact wn_X2_takes_318 C K M  lay σ (1 : Int32) h
theorem cp_X3_reset : CPv yX3_reset cX3_reset 1 none RX3 0 := ⟨mw_657, mw_658, mw_102, mw_659, rfl, by decide, by decide, by decide +kernel⟩
set_option maxHeartbeats 4000000 in
set_option maxRecDepth 100000 in
theorem c_X3_reset {l : Launch} (hst : l.stackTraces = false) (g : GG) (A : Nat → Prop) (lay : Nat → Nat) {σ : CS} {σ' : CS} {r : Unit} {o0 : Nat} (ho0 : o0 < 7) (h : F_X3_reset σ o0 = some (σ', r)) : MV l yX3_reset cX3_reset 1 2 43 0 0 [.ref (ga g (5 + o0))] (CH g A) g A lay σ σ' := by
  unfold F_X3_reset at h
  refine e_v (own := RX3) (lo := [(0, .ref (ga g (5 + o0)))]) hst (plainFor_of_name (by decide)) rfl rfl (Nat.le_of_ble_eq_true rfl) ?_
  intro p e s m args below meth c C K M
  refine j_aload_n 1 C dX3_reset_0 0 rfl rfl ?_
  refine g_N 4 C K ho0 1 (by decide) mw_219 rfl dX3_reset_1 rfl ?_
  obtain ⟨σ101, u102, hF, h⟩ := bd_e h
  refine k_Vv 7 C K (c_X1_reset K.2.2.2 g A lay (by omega) hF) cp_X1_reset (rv_D (by omega)) mw_660 dX3_reset_4 rfl rfl (Nat.le_of_ble_eq_true rfl) ⟨Nat.le_of_ble_eq_true rfl, Nat.le_of_ble_eq_true rfl⟩ ⟨Nat.le_of_ble_eq_true rfl, Nat.le_of_ble_eq_true rfl⟩ rfl (fun lay => ?_)
  refine j_aload_n 8 C dX3_reset_7 0 rfl rfl ?_
  refine g_N 11 C K ho0 2 (by decide) mw_221 rfl dX3_reset_8 rfl ?_
  obtain ⟨σ103, u104, hF, h⟩ := bd_e h
  refine k_Vv 14 C K (c_X1_reset K.2.2.2 g A lay (by omega) hF) cp_X1_reset (rv_D (by omega)) mw_660 dX3_reset_11 rfl rfl (Nat.le_of_ble_eq_true rfl) ⟨Nat.le_of_ble_eq_true rfl, Nat.le_of_ble_eq_true rfl⟩ ⟨Nat.le_of_ble_eq_true rfl, Nat.le_of_ble_eq_true rfl⟩ rfl (fun lay => ?_)
  refine j_aload_n 15 C dX3_reset_14 0 rfl rfl ?_
  refine g_N 18 C K ho0 3 (by decide) mw_223 rfl dX3_reset_15 rfl ?_
  refine j_iconst 19 C dX3_reset_18 ic_0 rfl ?_
  refine p_W 22 C K ho0 3 (by decide) mw_207 rfl rfl dX3_reset_19 rfl (fun σ105 eσ105 => ?_)
  replace h := lt_e h σ105 eσ105
  refine j_aload_n 23 C dX3_reset_22 0 rfl rfl ?_
  refine j_iconst 24 C dX3_reset_23 ic_1 rfl ?_
  refine p_N 27 C K ho0 5 (by decide) mw_227 rfl rfl dX3_reset_24 rfl (fun σ106 eσ106 => ?_)
  replace h := lt_e h σ106 eσ106
  refine j_aload_n 28 C dX3_reset_27 0 rfl rfl ?_
  refine j_iconst 29 C dX3_reset_28 ic_1 rfl ?_
  refine p_N 32 C K ho0 6 (by decide) mw_229 rfl rfl dX3_reset_29 rfl (fun σ107 eσ107 => ?_)
  replace h := lt_e h σ107 eσ107
  refine j_aload_n 33 C dX3_reset_32 0 rfl rfl ?_
  refine j_iconst 34 C dX3_reset_33 ic_0 rfl ?_
  refine p_N 37 C K ho0 7 (by decide) mw_231 rfl rfl dX3_reset_34 rfl (fun σ108 eσ108 => ?_)
  replace h := lt_e h σ108 eσ108
  refine j_aload_n 38 C dX3_reset_37 0 rfl rfl ?_
  refine j_iconst 39 C dX3_reset_38 ic_0 rfl ?_
  refine p_N 42 C K ho0 8 (by decide) mw_233 rfl rfl dX3_reset_39 rfl (fun σ109 eσ109 => ?_)
  replace h := lt_e h σ109 eσ109
  refine j_aload_n 43 C dX3_reset_42 0 rfl rfl ?_
  refine j_iconst 44 C dX3_reset_43 ic_m1 rfl ?_
  refine p_N 47 C K ho0 9 (by decide) mw_235 rfl rfl dX3_reset_44 rfl (fun σ110 eσ110 => ?_)
  replace h := lt_e h σ110 eσ110
  cases h
  exact x_v C M dX3_reset_47
theorem cp_X3_takesPart : CPv yX3_takesPart cX3_takesPart 1 (some .boolean) RX3 0 := ⟨mw_683, mw_684, mw_102, mw_685, rfl, by decide, by decide, by decide +kernel⟩
set_option maxHeartbeats 4000000 in
set_option maxRecDepth 100000 in
theorem wn_X3_takesPart_18 {l : Launch} {p : Program} {e : Env} {s : State} {m : MethodId} {args : Array Value} {below : List Frame} {meth : Method} {c : Code} {g : GG} {A : Nat → Prop} (C : KX p m c cX3_takesPart 1 s args RX3) (K : KC l g A s) (M : KM meth (some .boolean)) {σ' : CS} {r : Int32} {o0 : Nat} (ho0 : o0 < 7)    (lay : Nat → Nat) (σ : CS)   (h : B_X3_takesPart_18 o0 σ  = some (σ', r)) : JJ p l e (rmk 0 0 0 0) s m args below meth c (MQ below (va_Qi (fun (r0 : Int32) (u : CS) => r0 = r ∧ u = σ') (BC (CH g A)) A) args s 0 0 A) A 1 (CH g A lay σ) 0 0 18 [] [] := by
  unfold B_X3_takesPart_18 at h
  refine j_iconst 19 C dX3_takesPart_18 ic_0 rfl ?_
  cases h
  exact x_z C M dX3_takesPart_19 (by decide)
set_option maxHeartbeats 4000000 in
set_option maxRecDepth 100000 in
theorem c_X3_takesPart {l : Launch} (hst : l.stackTraces = false) (g : GG) (A : Nat → Prop) (lay : Nat → Nat) {σ : CS} {σ' : CS} {r : Int32} {o0 : Nat} (ho0 : o0 < 7) (h : F_X3_takesPart σ o0 = some (σ', r)) : MI l yX3_takesPart cX3_takesPart 1 .boolean 0 0 0 0 [.ref (ga g (5 + o0))] (CH g A) g A lay σ σ' r := by
  unfold F_X3_takesPart at h
  refine e_i (own := RX3) (lo := [(0, .ref (ga g (5 + o0)))]) hst (plainFor_of_name (by decide)) rfl rfl (Nat.le_of_ble_eq_true rfl) ?_
  intro p e s m args below meth c C K M
  refine j_aload_n 1 C dX3_takesPart_0 0 rfl rfl ?_
  refine g_N 4 C K ho0 5 (by decide) mw_227 rfl dX3_takesPart_1 rfl ?_
  refine j_if_eq 7 18 C dX3_takesPart_4 (by decide) rfl (fun hc101 => ?_) (fun hc101 => ?_)
  · replace h := it_t hc101 h
    refine j_sub [] (lo' := []) rfl ?_
    exact wn_X3_takesPart_18 C K M ho0 lay σ  h
  · replace h := it_f hc101 h
    refine j_aload_n 8 C dX3_takesPart_7 0 rfl rfl ?_
    refine g_N 11 C K ho0 6 (by decide) mw_229 rfl dX3_takesPart_8 rfl ?_
    refine j_if_eq 14 18 C dX3_takesPart_11 (by decide) rfl (fun hc102 => ?_) (fun hc102 => ?_)
    · replace h := it_t hc102 h
      refine j_sub [] (lo' := []) rfl ?_
      exact wn_X3_takesPart_18 C K M ho0 lay σ  h
    · replace h := it_f hc102 h
      refine j_iconst 15 C dX3_takesPart_14 ic_1 rfl ?_
      refine j_goto 19 C dX3_takesPart_15 (by decide) ?_
      cases h
      exact x_z C M dX3_takesPart_19 (by decide)
theorem cp_X3_canRejoin : CPv yX3_canRejoin cX3_canRejoin 1 (some .boolean) RX3 0 := ⟨mw_843, mw_844, mw_102, mw_845, rfl, by decide, by decide, by decide +kernel⟩
set_option maxHeartbeats 4000000 in
set_option maxRecDepth 100000 in
theorem wn_X3_canRejoin_18 {l : Launch} {p : Program} {e : Env} {s : State} {m : MethodId} {args : Array Value} {below : List Frame} {meth : Method} {c : Code} {g : GG} {A : Nat → Prop} (C : KX p m c cX3_canRejoin 1 s args RX3) (K : KC l g A s) (M : KM meth (some .boolean)) {σ' : CS} {r : Int32} {o0 : Nat} (ho0 : o0 < 7)    (lay : Nat → Nat) (σ : CS)   (h : B_X3_canRejoin_18 o0 σ  = some (σ', r)) : JJ p l e (rmk 0 0 0 0) s m args below meth c (MQ below (va_Qi (fun (r0 : Int32) (u : CS) => r0 = r ∧ u = σ') (BC (CH g A)) A) args s 0 0 A) A 1 (CH g A lay σ) 0 0 18 [] [] := by
  unfold B_X3_canRejoin_18 at h
  refine j_iconst 19 C dX3_canRejoin_18 ic_0 rfl ?_
  cases h
  exact x_z C M dX3_canRejoin_19 (by decide)
set_option maxHeartbeats 4000000 in
set_option maxRecDepth 100000 in
theorem c_X3_canRejoin {l : Launch} (hst : l.stackTraces = false) (g : GG) (A : Nat → Prop) (lay : Nat → Nat) {σ : CS} {σ' : CS} {r : Int32} {o0 : Nat} (ho0 : o0 < 7) (h : F_X3_canRejoin σ o0 = some (σ', r)) : MI l yX3_canRejoin cX3_canRejoin 1 .boolean 0 0 0 0 [.ref (ga g (5 + o0))] (CH g A) g A lay σ σ' r := by
  unfold F_X3_canRejoin at h
  refine e_i (own := RX3) (lo := [(0, .ref (ga g (5 + o0)))]) hst (plainFor_of_name (by decide)) rfl rfl (Nat.le_of_ble_eq_true rfl) ?_
  intro p e s m args below meth c C K M
  refine j_aload_n 1 C dX3_canRejoin_0 0 rfl rfl ?_
  refine g_N 4 C K ho0 5 (by decide) mw_227 rfl dX3_canRejoin_1 rfl ?_
  refine j_if_eq 7 18 C dX3_canRejoin_4 (by decide) rfl (fun hc101 => ?_) (fun hc101 => ?_)
  · replace h := it_t hc101 h
    refine j_sub [] (lo' := []) rfl ?_
    exact wn_X3_canRejoin_18 C K M ho0 lay σ  h
  · replace h := it_f hc101 h
    refine j_aload_n 8 C dX3_canRejoin_7 0 rfl rfl ?_
    refine g_N 11 C K ho0 6 (by decide) mw_229 rfl dX3_canRejoin_8 rfl ?_
    refine j_if_ne 14 18 C dX3_canRejoin_11 (by decide) rfl (fun hc102 => ?_) (fun hc102 => ?_)
    · replace h := it_f hc102 h
      refine j_sub [] (lo' := []) rfl ?_
      exact wn_X3_canRejoin_18 C K M ho0 lay σ  h
    · replace h := it_t hc102 h
      refine j_iconst 15 C dX3_canRejoin_14 ic_1 rfl ?_
      refine j_goto 19 C dX3_canRejoin_15 (by decide) ?_
      cases h
      exact x_z C M dX3_canRejoin_19 (by decide)
theorem cp_X3_hasRound : CPv yX3_hasRound cX3_hasRound 1 (some .boolean) RX3 0 := ⟨mw_598, mw_599, mw_102, mw_600, rfl, by decide, by decide, by decide +kernel⟩
set_option maxHeartbeats 4000000 in
set_option maxRecDepth 100000 in
theorem c_X3_hasRound {l : Launch} (hst : l.stackTraces = false) (g : GG) (A : Nat → Prop) (lay : Nat → Nat) {σ : CS} {σ' : CS} {r : Int32} {o0 : Nat} (ho0 : o0 < 7) (h : F_X3_hasRound σ o0 = some (σ', r)) : MI l yX3_hasRound cX3_hasRound 1 .boolean 0 0 0 0 [.ref (ga g (5 + o0))] (CH g A) g A lay σ σ' r := by
  unfold F_X3_hasRound at h
  refine e_i (own := RX3) (lo := [(0, .ref (ga g (5 + o0)))]) hst (plainFor_of_name (by decide)) rfl rfl (Nat.le_of_ble_eq_true rfl) ?_
  intro p e s m args below meth c C K M
  refine j_aload_n 1 C dX3_hasRound_0 0 rfl rfl ?_
  refine g_N 4 C K ho0 9 (by decide) mw_235 rfl dX3_hasRound_1 rfl ?_
  refine j_iconst 5 C dX3_hasRound_4 ic_m1 rfl ?_
  refine j_icmp_eq 8 12 C dX3_hasRound_5 (by decide) rfl (fun hc101 => ?_) (fun hc101 => ?_)
  · replace h := it_t hc101 h
    refine j_iconst 13 C dX3_hasRound_12 ic_0 rfl ?_
    cases h
    exact x_z C M dX3_hasRound_13 (by decide)
  · replace h := it_f hc101 h
    refine j_iconst 9 C dX3_hasRound_8 ic_1 rfl ?_
    refine j_goto 13 C dX3_hasRound_9 (by decide) ?_
    cases h
    exact x_z C M dX3_hasRound_13 (by decide)
theorem cp_J9_floorDiv_7cf53 : CPs yJ9_floorDiv_7cf53 cJ9_floorDiv_7cf53 3 (some .int) 2 := ⟨mw_540, mw_112, mw_541, by decide, by decide, by decide +kernel⟩
set_option maxHeartbeats 4000000 in
set_option maxRecDepth 100000 in
theorem wn_J9_floorDiv_7cf53_21 {l : Launch} {p : Program} {e : Env} {s : State} {m : MethodId} {args : Array Value} {below : List Frame} {meth : Method} {c : Code} {g : GG} {A : Nat → Prop} (C : KX p m c cJ9_floorDiv_7cf53 3 s args RJ9) (K : KC l g A s) (M : KM meth (some .int)) {σ' : CS} {r : Int32} {x0 : Int32} {x1 : Int32}     (lay : Nat → Nat) (σ : CS) (v2 : Int32)  (h : B_J9_floorDiv_7cf53_21 x0 x1 σ v2 = some (σ', r)) : JJ p l e (rmk 0 0 0 0) s m args below meth c (MQ below (va_Qi (fun (r0 : Int32) (u : CS) => r0 = r ∧ u = σ') (BC (CH g A)) A) args s 0 0 A) A 3 (CH g A lay σ) 0 0 21 [(2, .int v2)] [] := by
  unfold B_J9_floorDiv_7cf53_21 at h
  refine j_iload_n 22 C dJ9_floorDiv_7cf53_21 0 rfl rfl ?_
  cases h
  exact x_i C M dJ9_floorDiv_7cf53_22
set_option maxHeartbeats 4000000 in
set_option maxRecDepth 100000 in
theorem c_J9_floorDiv_7cf53 {l : Launch} (hst : l.stackTraces = false) (g : GG) (A : Nat → Prop) (lay : Nat → Nat) {σ : CS} {σ' : CS} {r : Int32} {x0 : Int32} {x1 : Int32}  (h : F_J9_floorDiv_7cf53 σ x0 x1 = some (σ', r)) : MI l yJ9_floorDiv_7cf53 cJ9_floorDiv_7cf53 3 .int 0 0 0 0 [.int x0, .int x1] (CH g A) g A lay σ σ' r := by
  unfold F_J9_floorDiv_7cf53 at h
  refine e_i (own := RJ9) (lo := [(0, .int x0), (1, .int x1)]) hst (by decide +kernel) rfl rfl (Nat.le_of_ble_eq_true rfl) ?_
  intro p e s m args below meth c C K M
  refine j_iload_n 1 C dJ9_floorDiv_7cf53_0 0 rfl rfl ?_
  refine j_iload_n 2 C dJ9_floorDiv_7cf53_1 1 rfl rfl ?_
  obtain ⟨hz101, h⟩ := gd_e h
  refine j_idiv 3 C dJ9_floorDiv_7cf53_2 (nz_e hz101) rfl ?_
  refine j_topi (fun x102 ex102 => ?_)
  replace h := lt_e h x102 ex102
  refine j_istore_n 4 C dJ9_floorDiv_7cf53_3 (lo' := [(2, .int x102), (0, .int x0), (1, .int x1)]) (by decide) rfl rfl ?_
  refine j_iload_n 5 C dJ9_floorDiv_7cf53_4 1 rfl rfl ?_
  refine j_iload_n 6 C dJ9_floorDiv_7cf53_5 2 rfl rfl ?_
  refine j_ixor 7 C dJ9_floorDiv_7cf53_6 rfl ?_
  refine j_if_ge 10 21 C dJ9_floorDiv_7cf53_7 (by decide) rfl (fun hc103 => ?_) (fun hc103 => ?_)
  · replace h := it_t hc103 h
    refine j_sub [0] (lo' := [(2, .int x102)]) rfl ?_
    exact wn_J9_floorDiv_7cf53_21 C K M  lay σ x102 h
  · replace h := it_f hc103 h
    refine j_iload_n 11 C dJ9_floorDiv_7cf53_10 0 rfl rfl ?_
    refine j_iload_n 12 C dJ9_floorDiv_7cf53_11 2 rfl rfl ?_
    refine j_imul 13 C dJ9_floorDiv_7cf53_12 rfl ?_
    refine j_iload_n 14 C dJ9_floorDiv_7cf53_13 1 rfl rfl ?_
    refine j_icmp_eq 17 21 C dJ9_floorDiv_7cf53_14 (by decide) rfl (fun hc104 => ?_) (fun hc104 => ?_)
    · replace h := it_t hc104 h
      refine j_sub [0] (lo' := [(2, .int x102)]) rfl ?_
      exact wn_J9_floorDiv_7cf53_21 C K M  lay σ x102 h
    · replace h := it_f hc104 h
      refine j_iload_n 18 C dJ9_floorDiv_7cf53_17 0 rfl rfl ?_
      refine j_iconst 19 C dJ9_floorDiv_7cf53_18 ic_1 rfl ?_
      refine j_isub 20 C dJ9_floorDiv_7cf53_19 rfl ?_
      cases h
      exact x_i C M dJ9_floorDiv_7cf53_20
theorem cp_X3_nextBallot : CPv yX3_nextBallot cX3_nextBallot 3 (some .int) RX3 0 := ⟨mw_533, mw_534, mw_102, mw_535, rfl, by decide, by decide, by decide +kernel⟩
set_option maxHeartbeats 4000000 in
set_option maxRecDepth 100000 in
theorem c_X3_nextBallot {l : Launch} (hst : l.stackTraces = false) (g : GG) (A : Nat → Prop) (lay : Nat → Nat) {σ : CS} {σ' : CS} {r : Int32} {o0 : Nat} (ho0 : o0 < 7) (h : F_X3_nextBallot σ o0 = some (σ', r)) : MI l yX3_nextBallot cX3_nextBallot 3 .int 1 30 0 0 [.ref (ga g (5 + o0))] (CH g A) g A lay σ σ' r := by
  unfold F_X3_nextBallot at h
  refine e_i (own := RX3) (lo := [(0, .ref (ga g (5 + o0)))]) hst (plainFor_of_name (by decide)) rfl rfl (Nat.le_of_ble_eq_true rfl) ?_
  intro p e s m args below meth c C K M
  refine j_aload_n 1 C dX3_nextBallot_0 0 rfl rfl ?_
  refine g_N 4 C K ho0 8 (by decide) mw_233 rfl dX3_nextBallot_1 rfl ?_
  refine j_aload_n 5 C dX3_nextBallot_4 0 rfl rfl ?_
  refine g_N 8 C K ho0 2 (by decide) mw_221 rfl dX3_nextBallot_5 rfl ?_
  refine g_D 11 C K (by omega) 0 (by decide) mw_139 rfl dX3_nextBallot_8 rfl ?_
  refine j_mmax 14 C mw_536 dX3_nextBallot_11 (Nat.le_of_ble_eq_true rfl) (Nat.le_of_ble_eq_true rfl) (Nat.le_of_ble_eq_true rfl) (Nat.le_of_ble_eq_true rfl) rfl ?_
  refine j_topi (fun x101 ex101 => ?_)
  replace h := lt_e h x101 ex101
  refine j_istore_n 15 C dX3_nextBallot_14 (lo' := [(1, .int x101), (0, .ref (ga g (5 + o0)))]) (by decide) rfl rfl ?_
  refine j_iload_n 16 C dX3_nextBallot_15 0 rfl rfl ?_
  refine j_aload_n 17 C dX3_nextBallot_16 1 rfl rfl ?_
  refine g_N 20 C K ho0 0 (by decide) mw_218 rfl dX3_nextBallot_17 rfl ?_
  refine j_isub 21 C dX3_nextBallot_20 rfl ?_
  refine j_bipush 23 C dX3_nextBallot_21 bp_8 rfl ?_
  obtain ⟨σ102, r103, hF, h⟩ := bd_e h
  refine k_Si 26 C K (c_J9_floorDiv_7cf53 K.2.2.2 g A lay  hF) cp_J9_floorDiv_7cf53 mw_539 dX3_nextBallot_23 rfl rfl (Nat.le_of_ble_eq_true rfl) ⟨Nat.le_of_ble_eq_true rfl, Nat.le_of_ble_eq_true rfl⟩ ⟨Nat.le_of_ble_eq_true rfl, Nat.le_of_ble_eq_true rfl⟩ rfl (fun lay => ?_)
  refine j_iconst 27 C dX3_nextBallot_26 ic_1 rfl ?_
  refine j_iadd 28 C dX3_nextBallot_27 rfl ?_
  refine j_topi (fun x104 ex104 => ?_)
  replace h := lt_e h x104 ex104
  refine j_istore_n 29 C dX3_nextBallot_28 (lo' := [(2, .int x104), (1, .int x101), (0, .ref (ga g (5 + o0)))]) (by decide) rfl rfl ?_
  refine j_bipush 31 C dX3_nextBallot_29 bp_8 rfl ?_
  refine j_iload_n 32 C dX3_nextBallot_31 0 rfl rfl ?_
  refine j_iconst 33 C dX3_nextBallot_32 ic_1 rfl ?_
  refine j_mmax 36 C mw_536 dX3_nextBallot_33 (Nat.le_of_ble_eq_true rfl) (Nat.le_of_ble_eq_true rfl) (Nat.le_of_ble_eq_true rfl) (Nat.le_of_ble_eq_true rfl) rfl ?_
  refine j_imul 37 C dX3_nextBallot_36 rfl ?_
  refine j_aload_n 38 C dX3_nextBallot_37 2 rfl rfl ?_
  refine g_N 41 C K ho0 0 (by decide) mw_218 rfl dX3_nextBallot_38 rfl ?_
  refine j_iadd 42 C dX3_nextBallot_41 rfl ?_
  cases h
  exact x_i C M dX3_nextBallot_42
theorem cp_X3_tell : CPv yX3_tell cX3_tell 2 none RX3 1 := ⟨mw_692, mw_693, mw_102, mw_694, rfl, by decide, by decide, by decide +kernel⟩
set_option maxHeartbeats 4000000 in
set_option maxRecDepth 100000 in
theorem c_X3_tell {l : Launch} (hst : l.stackTraces = false) (g : GG) (A : Nat → Prop) (lay : Nat → Nat) {σ : CS} {σ' : CS} {r : Unit} {o0 : Nat} {x1 : Int32} (ho0 : o0 < 7) (h : F_X3_tell σ o0 x1 = some (σ', r)) : MV l yX3_tell cX3_tell 2 1 30 0 0 [.ref (ga g (5 + o0)), .int x1] (CH g A) g A lay σ σ' := by
  unfold F_X3_tell at h
  refine e_v (own := RX3) (lo := [(0, .ref (ga g (5 + o0))), (1, .int x1)]) hst (plainFor_of_name (by decide)) rfl rfl (Nat.le_of_ble_eq_true rfl) ?_
  intro p e s m args below meth c C K M
  refine j_aload_n 1 C dX3_tell_0 0 rfl rfl ?_
  refine j_aload_n 2 C dX3_tell_1 0 rfl rfl ?_
  refine g_N 5 C K ho0 8 (by decide) mw_233 rfl dX3_tell_2 rfl ?_
  refine j_iload_n 6 C dX3_tell_5 1 rfl rfl ?_
  refine j_mmax 9 C mw_536 dX3_tell_6 (Nat.le_of_ble_eq_true rfl) (Nat.le_of_ble_eq_true rfl) (Nat.le_of_ble_eq_true rfl) (Nat.le_of_ble_eq_true rfl) rfl ?_
  refine p_N 12 C K ho0 8 (by decide) mw_233 rfl rfl dX3_tell_9 rfl (fun σ101 eσ101 => ?_)
  replace h := lt_e h σ101 eσ101
  cases h
  exact x_v C M dX3_tell_12
theorem cp_X3_openRound : CPv yX3_openRound cX3_openRound 3 none RX3 2 := ⟨mw_745, mw_746, mw_102, mw_747, rfl, by decide, by decide, by decide +kernel⟩
set_option maxHeartbeats 4000000 in
set_option maxRecDepth 100000 in
theorem c_X3_openRound {l : Launch} (hst : l.stackTraces = false) (g : GG) (A : Nat → Prop) (lay : Nat → Nat) {σ : CS} {σ' : CS} {r : Unit} {o0 : Nat} {x1 : Int32} {o2 : Nat} (ho0 : o0 < 7) (ho2 : o2 < 15) (h : F_X3_openRound σ o0 x1 o2 = some (σ', r)) : MV l yX3_openRound cX3_openRound 3 1 30 0 0 [.ref (ga g (5 + o0)), .int x1, .ref (ga g (56 + o2))] (CH g A) g A lay σ σ' := by
  unfold F_X3_openRound at h
  refine e_v (own := RX3) (lo := [(0, .ref (ga g (5 + o0))), (1, .int x1), (2, .ref (ga g (56 + o2)))]) hst (plainFor_of_name (by decide)) rfl rfl (Nat.le_of_ble_eq_true rfl) ?_
  intro p e s m args below meth c C K M
  refine j_aload_n 1 C dX3_openRound_0 0 rfl rfl ?_
  refine j_iload_n 2 C dX3_openRound_1 1 rfl rfl ?_
  refine p_N 5 C K ho0 9 (by decide) mw_235 rfl rfl dX3_openRound_2 rfl (fun σ101 eσ101 => ?_)
  replace h := lt_e h σ101 eσ101
  refine j_aload_n 6 C dX3_openRound_5 2 rfl rfl ?_
  refine j_iconst 7 C dX3_openRound_6 ic_0 rfl ?_
  refine j_aload_n 8 C dX3_openRound_7 0 rfl rfl ?_
  refine g_N 11 C K ho0 4 (by decide) mw_225 rfl dX3_openRound_8 rfl ?_
  refine j_iconst 12 C dX3_openRound_11 ic_0 rfl ?_
  refine j_iconst 13 C dX3_openRound_12 ic_4 rfl ?_
  refine r_copy 16 C K (ar_U _ ho2) (ca_U _ _ ho2) (ar_V _ ho0) (ca_V _ _ ho0) mw_748 dX3_openRound_13 (Nat.le_of_ble_eq_true rfl) (Nat.le_of_ble_eq_true rfl) rfl (fun σ102 eσ102 => ?_)
  replace h := lt_e h σ102 eσ102
  cases h
  exact x_v C M dX3_openRound_16
