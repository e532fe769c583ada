theorem cp_X6_thrown : CPv yX6_thrown cX6_thrown 1 (some .int) RX6 0 := ⟨mw_1071, mw_1072, mw_105, mw_1073, rfl, by decide, by decide, by decide +kernel⟩
set_option maxHeartbeats 4000000 in
set_option maxRecDepth 100000 in
theorem c_X6_thrown {l : Launch} (hst : l.stackTraces = false) (g : GG) (A : Nat → Prop) (lay : Nat → Nat) {σ : RS} {σ' : RS} {r : Int32}   (h : F_X6_thrown σ  = some (σ', r)) : MI l yX6_thrown cX6_thrown 1 .int 0 0 0 0 [.ref (gm g 0)] (RH g A) g A lay σ σ' r := by
  unfold F_X6_thrown at h
  refine e_i (own := RX6) (lo := [(0, .ref (gm g 0))]) hst (plainFor_of_name (by decide)) rfl rfl (Nat.le_of_ble_eq_true rfl) ?_
  intro p e s m args below meth c C K M
  refine j_aload_n 1 C dX6_thrown_0 0 rfl rfl ?_
  refine g_M 4 C K 0 (by decide) mw_963 rfl dX6_thrown_1 rfl ?_
  cases h
  exact x_i C M dX6_thrown_4
theorem cp_X6_within : CPs yX6_within cX6_within 3 (some .boolean) 3 := ⟨mw_1079, mw_105, mw_1080, by decide, by decide, by decide +kernel⟩
set_option maxHeartbeats 4000000 in
set_option maxRecDepth 100000 in
theorem wn_X6_within_14 {l : Launch} {p : Program} {e : Env} {s : State} {m : MethodId} {args : Array Value} {below : List Frame} {meth : Method} {c : Code} {g : GG} {A : Nat → Prop} (C : KX p m c cX6_within 3 s args RX6) (K : KC l g A s) (M : KM meth (some .boolean)) {σ' : RS} {r : Int32} {x0 : Int32} {x1 : Int32} {x2 : Int32}     (lay : Nat → Nat) (σ : RS)   (h : B_X6_within_14 x0 x1 x2 σ  = some (σ', r)) : JJ p l e (rmk 0 0 0 0) s m args below meth c (MQ below (va_Qi (fun (r0 : Int32) (u : RS) => r0 = r ∧ u = σ') (BC (RH g A)) A) args s 0 0 A) A 3 (RH g A lay σ) 0 0 14 [] [] := by
  unfold B_X6_within_14 at h
  refine j_iconst 15 C dX6_within_14 ic_0 rfl ?_
  cases h
  exact x_z C M dX6_within_15 (by decide)
set_option maxHeartbeats 4000000 in
set_option maxRecDepth 100000 in
theorem c_X6_within {l : Launch} (hst : l.stackTraces = false) (g : GG) (A : Nat → Prop) (lay : Nat → Nat) {σ : RS} {σ' : RS} {r : Int32} {x0 : Int32} {x1 : Int32} {x2 : Int32}  (h : F_X6_within σ x0 x1 x2 = some (σ', r)) : MI l yX6_within cX6_within 3 .boolean 0 0 0 0 [.int x0, .int x1, .int x2] (RH g A) g A lay σ σ' r := by
  unfold F_X6_within at h
  refine e_i (own := RX6) (lo := [(0, .int x0), (1, .int x1), (2, .int x2)]) hst (plainFor_of_name (by decide)) rfl rfl (Nat.le_of_ble_eq_true rfl) ?_
  intro p e s m args below meth c C K M
  refine j_iload_n 1 C dX6_within_0 0 rfl rfl ?_
  refine j_iload_n 2 C dX6_within_1 1 rfl rfl ?_
  refine j_icmp_lt 5 14 C dX6_within_2 (by decide) rfl (fun hc101 => ?_) (fun hc101 => ?_)
  · replace h := it_t hc101 h
    refine j_sub [] (lo' := []) rfl ?_
    exact wn_X6_within_14 C K M  lay σ  h
  · replace h := it_f hc101 h
    refine j_iload_n 6 C dX6_within_5 0 rfl rfl ?_
    refine j_iload_n 7 C dX6_within_6 2 rfl rfl ?_
    refine j_icmp_gt 10 14 C dX6_within_7 (by decide) rfl (fun hc102 => ?_) (fun hc102 => ?_)
    · replace h := it_t hc102 h
      refine j_sub [] (lo' := []) rfl ?_
      exact wn_X6_within_14 C K M  lay σ  h
    · replace h := it_f hc102 h
      refine j_iconst 11 C dX6_within_10 ic_1 rfl ?_
      refine j_goto 15 C dX6_within_11 (by decide) ?_
      cases h
      exact x_z C M dX6_within_15 (by decide)
theorem cp_X6_isNode : CPv yX6_isNode cX6_isNode 2 (some .boolean) RX6 1 := ⟨mw_1095, mw_46, mw_105, mw_1096, rfl, by decide, by decide, by decide +kernel⟩
set_option maxHeartbeats 4000000 in
set_option maxRecDepth 100000 in
theorem c_X6_isNode {l : Launch} (hst : l.stackTraces = false) (g : GG) (A : Nat → Prop) (lay : Nat → Nat) {σ : RS} {σ' : RS} {r : Int32} {x1 : Int32}  (h : F_X6_isNode σ x1 = some (σ', r)) : MI l yX6_isNode cX6_isNode 2 .boolean 1 22 0 0 [.ref (gm g 0), .int x1] (RH g A) g A lay σ σ' r := by
  unfold F_X6_isNode at h
  refine e_i (own := RX6) (lo := [(0, .ref (gm g 0)), (1, .int x1)]) hst (plainFor_of_name (by decide)) rfl rfl (Nat.le_of_ble_eq_true rfl) ?_
  intro p e s m args below meth c C K M
  refine j_iload_n 1 C dX6_isNode_0 1 rfl rfl ?_
  refine j_iconst 2 C dX6_isNode_1 ic_0 rfl ?_
  refine j_aload_n 3 C dX6_isNode_2 0 rfl rfl ?_
  refine g_M 6 C K 1 (by decide) mw_964 rfl dX6_isNode_3 rfl ?_
  refine j_iconst 7 C dX6_isNode_6 ic_1 rfl ?_
  refine j_isub 8 C dX6_isNode_7 rfl ?_
  obtain ⟨σ101, r102, hF, h⟩ := bd_e h
  refine k_Si 11 C K (c_X6_within K.2.2.2 g A lay  hF) cp_X6_within mw_1078 dX6_isNode_8 rfl rfl (Nat.le_of_ble_eq_true rfl) ⟨Nat.le_of_ble_eq_true rfl, Nat.le_of_ble_eq_true rfl⟩ ⟨Nat.le_of_ble_eq_true rfl, Nat.le_of_ble_eq_true rfl⟩ rfl (fun lay => ?_)
  obtain ⟨hz103, h⟩ := gd_e h
  cases h
  exact x_z C M dX6_isNode_11 hz103
theorem cp_X6_isSlot : CPv yX6_isSlot cX6_isSlot 2 (some .boolean) RX6 1 := ⟨mw_1143, mw_57, mw_105, mw_1144, rfl, by decide, by decide, by decide +kernel⟩
set_option maxHeartbeats 4000000 in
set_option maxRecDepth 100000 in
theorem c_X6_isSlot {l : Launch} (hst : l.stackTraces = false) (g : GG) (A : Nat → Prop) (lay : Nat → Nat) {σ : RS} {σ' : RS} {r : Int32} {x1 : Int32}  (h : F_X6_isSlot σ x1 = some (σ', r)) : MI l yX6_isSlot cX6_isSlot 2 .boolean 1 22 0 0 [.ref (gm g 0), .int x1] (RH g A) g A lay σ σ' r := by
  unfold F_X6_isSlot at h
  refine e_i (own := RX6) (lo := [(0, .ref (gm g 0)), (1, .int x1)]) hst (plainFor_of_name (by decide)) rfl rfl (Nat.le_of_ble_eq_true rfl) ?_
  intro p e s m args below meth c C K M
  refine j_iload_n 1 C dX6_isSlot_0 1 rfl rfl ?_
  refine j_iconst 2 C dX6_isSlot_1 ic_0 rfl ?_
  refine j_aload_n 3 C dX6_isSlot_2 0 rfl rfl ?_
  refine g_M 6 C K 2 (by decide) mw_965 rfl dX6_isSlot_3 rfl ?_
  refine j_iconst 7 C dX6_isSlot_6 ic_1 rfl ?_
  refine j_isub 8 C dX6_isSlot_7 rfl ?_
  obtain ⟨σ101, r102, hF, h⟩ := bd_e h
  refine k_Si 11 C K (c_X6_within K.2.2.2 g A lay  hF) cp_X6_within mw_1078 dX6_isSlot_8 rfl rfl (Nat.le_of_ble_eq_true rfl) ⟨Nat.le_of_ble_eq_true rfl, Nat.le_of_ble_eq_true rfl⟩ ⟨Nat.le_of_ble_eq_true rfl, Nat.le_of_ble_eq_true rfl⟩ rfl (fun lay => ?_)
  obtain ⟨hz103, h⟩ := gd_e h
  cases h
  exact x_z C M dX6_isSlot_11 hz103
theorem cp_X6_q : CPv yX6_q cX6_q 1 (some .int) RX6 0 := ⟨mw_1131, mw_55, mw_105, mw_1132, rfl, by decide, by decide, by decide +kernel⟩
set_option maxHeartbeats 4000000 in
set_option maxRecDepth 100000 in
theorem c_X6_q {l : Launch} (hst : l.stackTraces = false) (g : GG) (A : Nat → Prop) (lay : Nat → Nat) {σ : RS} {σ' : RS} {r : Int32}   (h : F_X6_q σ  = some (σ', r)) : MI l yX6_q cX6_q 1 .int 0 0 0 0 [.ref (gm g 0)] (RH g A) g A lay σ σ' r := by
  unfold F_X6_q at h
  refine e_i (own := RX6) (lo := [(0, .ref (gm g 0))]) hst (plainFor_of_name (by decide)) rfl rfl (Nat.le_of_ble_eq_true rfl) ?_
  intro p e s m args below meth c C K M
  refine j_aload_n 1 C dX6_q_0 0 rfl rfl ?_
  refine g_M 4 C K 1 (by decide) mw_964 rfl dX6_q_1 rfl ?_
  refine j_iconst 5 C dX6_q_4 ic_2 rfl ?_
  refine j_idiv 6 C dX6_q_5 (by decide) rfl ?_
  refine j_iconst 7 C dX6_q_6 ic_1 rfl ?_
  refine j_iadd 8 C dX6_q_7 rfl ?_
  cases h
  exact x_i C M dX6_q_8
theorem cp_X6_isSet : CPv yX6_isSet cX6_isSet 2 (some .boolean) RX6 1 := ⟨mw_1099, mw_47, mw_105, mw_1100, rfl, by decide, by decide, by decide +kernel⟩
set_option maxHeartbeats 4000000 in
set_option maxRecDepth 100000 in
theorem c_X6_isSet {l : Launch} (hst : l.stackTraces = false) (g : GG) (A : Nat → Prop) (lay : Nat → Nat) {σ : RS} {σ' : RS} {r : Int32} {x1 : Int32}  (h : F_X6_isSet σ x1 = some (σ', r)) : MI l yX6_isSet cX6_isSet 2 .boolean 1 22 0 0 [.ref (gm g 0), .int x1] (RH g A) g A lay σ σ' r := by
  unfold F_X6_isSet at h
  refine e_i (own := RX6) (lo := [(0, .ref (gm g 0)), (1, .int x1)]) hst (plainFor_of_name (by decide)) rfl rfl (Nat.le_of_ble_eq_true rfl) ?_
  intro p e s m args below meth c C K M
  refine j_iload_n 1 C dX6_isSet_0 1 rfl rfl ?_
  refine j_iconst 2 C dX6_isSet_1 ic_1 rfl ?_
  refine j_iconst 3 C dX6_isSet_2 ic_1 rfl ?_
  refine j_aload_n 4 C dX6_isSet_3 0 rfl rfl ?_
  refine g_M 7 C K 1 (by decide) mw_964 rfl dX6_isSet_4 rfl ?_
  refine j_ishl 8 C dX6_isSet_7 rfl ?_
  refine j_iconst 9 C dX6_isSet_8 ic_1 rfl ?_
  refine j_isub 10 C dX6_isSet_9 rfl ?_
  obtain ⟨σ101, r102, hF, h⟩ := bd_e h
  refine k_Si 13 C K (c_X6_within K.2.2.2 g A lay  hF) cp_X6_within mw_1078 dX6_isSet_10 rfl rfl (Nat.le_of_ble_eq_true rfl) ⟨Nat.le_of_ble_eq_true rfl, Nat.le_of_ble_eq_true rfl⟩ ⟨Nat.le_of_ble_eq_true rfl, Nat.le_of_ble_eq_true rfl⟩ rfl (fun lay => ?_)
  obtain ⟨hz103, h⟩ := gd_e h
  cases h
  exact x_z C M dX6_isSet_13 hz103
theorem cp_X6_at : CPs yX6_at cX6_at 2 (some .int) 2 := ⟨mw_957, mw_105, mw_958, by decide, by decide, by decide +kernel⟩
set_option maxHeartbeats 4000000 in
set_option maxRecDepth 100000 in
theorem c_X6_at {l : Launch} (hst : l.stackTraces = false) (g : GG) (A : Nat → Prop) (lay : Nat → Nat) {σ : RS} {σ' : RS} {r : Int32} {x0 : Int32} {x1 : Int32}  (h : F_X6_at σ x0 x1 = some (σ', r)) : MI l yX6_at cX6_at 2 .int 0 0 0 0 [.int x0, .int x1] (RH g A) g A lay σ σ' r := by
  unfold F_X6_at at h
  refine e_i (own := RX6) (lo := [(0, .int x0), (1, .int x1)]) hst (plainFor_of_name (by decide)) rfl rfl (Nat.le_of_ble_eq_true rfl) ?_
  intro p e s m args below meth c C K M
  refine j_iconst 1 C dX6_at_0 ic_4 rfl ?_
  refine j_iload_n 2 C dX6_at_1 0 rfl rfl ?_
  refine j_imul 3 C dX6_at_2 rfl ?_
  refine j_iload_n 4 C dX6_at_3 1 rfl rfl ?_
  refine j_iadd 5 C dX6_at_4 rfl ?_
  cases h
  exact x_i C M dX6_at_5
theorem cp_X6_showDisk : CPv yX6_showDisk cX6_showDisk 3 none RX6 1 := ⟨mw_961, mw_44, mw_105, mw_962, rfl, by decide, by decide, by decide +kernel⟩
set_option maxHeartbeats 4000000 in
set_option maxRecDepth 100000 in
theorem wn_X6_showDisk_14 {l : Launch} {p : Program} {e : Env} {s : State} {m : MethodId} {args : Array Value} {below : List Frame} {meth : Method} {c : Code} {g : GG} {A : Nat → Prop} (C : KX p m c cX6_showDisk 3 s args RX6) (K : KC l g A s) (M : KM meth none) {σ' : RS} {r : Unit} {x1 : Int32}     : ∀ (fu : Nat) (lay : Nat → Nat) (σ : RS) (v2 : Int32), B_X6_showDisk_14 x1 fu σ v2 = some (σ', r) → JJ p l e (rmk 1 21 0 0) s m args below meth c (MQ below (va_Qv (fun u : RS => u = σ') (BC (RH g A)) A) args s 0 0 A) A 3 (RH g A lay σ) 0 0 14 [(0, .ref (gm g 0)), (1, .int x1), (2, .int v2)] [] := by
  intro fu
  induction fu with
  | zero =>
    intro lay σ v2 h
    exact nomatch (show (none : Option _) = some _ from h)
  | succ fu ih14 =>
    intro lay σ v2 h
    unfold B_X6_showDisk_14 at h
    rw [lo2_s] at h
    refine j_iload_n 15 C dX6_showDisk_14 2 rfl rfl ?_
    refine j_iconst 16 C dX6_showDisk_15 ic_4 rfl ?_
    refine j_icmp_ge 19 65 C dX6_showDisk_16 (by decide) rfl (fun hc104 => ?_) (fun hc104 => ?_)
    · replace h := it_t hc104 h
      cases h
      exact x_v C M dX6_showDisk_65
    · replace h := it_f hc104 h
      refine j_aload_n 20 C dX6_showDisk_19 0 rfl rfl ?_
      refine g_M 23 C K 12 (by decide) mw_975 rfl dX6_showDisk_20 rfl ?_
      refine j_iload_n 24 C dX6_showDisk_23 1 rfl rfl ?_
      refine j_iload_n 25 C dX6_showDisk_24 2 rfl rfl ?_
      obtain ⟨σ105, r106, hF, h⟩ := bd_e h
      refine k_Si 28 C K (c_X6_at K.2.2.2 g A lay  hF) cp_X6_at mw_956 dX6_showDisk_25 rfl rfl (Nat.le_of_ble_eq_true rfl) ⟨Nat.le_of_ble_eq_true rfl, Nat.le_of_ble_eq_true rfl⟩ ⟨Nat.le_of_ble_eq_true rfl, Nat.le_of_ble_eq_true rfl⟩ rfl (fun lay => ?_)
      refine j_aload_n 29 C dX6_showDisk_28 0 rfl rfl ?_
      refine g_M 32 C K 9 (by decide) mw_972 rfl dX6_showDisk_29 rfl ?_
      refine j_iload_n 33 C dX6_showDisk_32 1 rfl rfl ?_
      refine j_iload_n 34 C dX6_showDisk_33 2 rfl rfl ?_
      obtain ⟨σ107, r108, hF, h⟩ := bd_e h
      refine k_Si 37 C K (c_X6_at K.2.2.2 g A lay  hF) cp_X6_at mw_956 dX6_showDisk_34 rfl rfl (Nat.le_of_ble_eq_true rfl) ⟨Nat.le_of_ble_eq_true rfl, Nat.le_of_ble_eq_true rfl⟩ ⟨Nat.le_of_ble_eq_true rfl, Nat.le_of_ble_eq_true rfl⟩ rfl (fun lay => ?_)
      obtain ⟨hz109, h⟩ := gd_e h
      refine m_ild 38 C K ra_9 hz109 dX6_showDisk_37 rfl ?_
      obtain ⟨hz110, h⟩ := gd_e h
      refine m_ist 39 C K ra_12 hz110 dX6_showDisk_38 rfl (fun σ111 eσ111 => ?_)
      replace h := lt_e h σ111 eσ111
      refine j_aload_n 40 C dX6_showDisk_39 0 rfl rfl ?_
      refine g_M 43 C K 13 (by decide) mw_976 rfl dX6_showDisk_40 rfl ?_
      refine j_iload_n 44 C dX6_showDisk_43 1 rfl rfl ?_
      refine j_iload_n 45 C dX6_showDisk_44 2 rfl rfl ?_
      obtain ⟨σ112, r113, hF, h⟩ := bd_e h
      refine k_Si 48 C K (c_X6_at K.2.2.2 g A lay  hF) cp_X6_at mw_956 dX6_showDisk_45 rfl rfl (Nat.le_of_ble_eq_true rfl) ⟨Nat.le_of_ble_eq_true rfl, Nat.le_of_ble_eq_true rfl⟩ ⟨Nat.le_of_ble_eq_true rfl, Nat.le_of_ble_eq_true rfl⟩ rfl (fun lay => ?_)
      refine j_aload_n 49 C dX6_showDisk_48 0 rfl rfl ?_
      refine g_M 52 C K 10 (by decide) mw_973 rfl dX6_showDisk_49 rfl ?_
      refine j_iload_n 53 C dX6_showDisk_52 1 rfl rfl ?_
      refine j_iload_n 54 C dX6_showDisk_53 2 rfl rfl ?_
      obtain ⟨σ114, r115, hF, h⟩ := bd_e h
      refine k_Si 57 C K (c_X6_at K.2.2.2 g A lay  hF) cp_X6_at mw_956 dX6_showDisk_54 rfl rfl (Nat.le_of_ble_eq_true rfl) ⟨Nat.le_of_ble_eq_true rfl, Nat.le_of_ble_eq_true rfl⟩ ⟨Nat.le_of_ble_eq_true rfl, Nat.le_of_ble_eq_true rfl⟩ rfl (fun lay => ?_)
      obtain ⟨hz116, h⟩ := gd_e h
      refine m_ild 58 C K ra_10 hz116 dX6_showDisk_57 rfl ?_
      obtain ⟨hz117, h⟩ := gd_e h
      refine m_ist 59 C K ra_13 hz117 dX6_showDisk_58 rfl (fun σ118 eσ118 => ?_)
      replace h := lt_e h σ118 eσ118
      obtain ⟨x119, ex119⟩ : ∃ z : Int32, z = v2 + 1 := ⟨_, rfl⟩
      replace h := lt_e h x119 ex119
      refine j_iinc 62 C dX6_showDisk_59 2 rfl (v := x119) ((ii_1 _).trans ex119.symm) (lo' := [(2, .int x119), (0, .ref (gm g 0)), (1, .int x1)]) (by decide) rfl rfl ?_
      refine j_goto 14 C dX6_showDisk_62 (by decide) ?_
      refine j_sub [1, 2, 0] (lo' := [(0, .ref (gm g 0)), (1, .int x1), (2, .int x119)]) rfl ?_
      exact ih14 lay σ118 x119 h
set_option maxHeartbeats 4000000 in
set_option maxRecDepth 100000 in
theorem c_X6_showDisk {l : Launch} (hst : l.stackTraces = false) (g : GG) (A : Nat → Prop) (lay : Nat → Nat) {σ : RS} {σ' : RS} {r : Unit} {x1 : Int32}  (h : F_X6_showDisk σ x1 = some (σ', r)) : MV l yX6_showDisk cX6_showDisk 3 1 21 0 0 [.ref (gm g 0), .int x1] (RH g A) g A lay σ σ' := by
  unfold F_X6_showDisk at h
  refine e_v (own := RX6) (lo := [(0, .ref (gm g 0)), (1, .int x1)]) hst (plainFor_of_name (by decide)) rfl rfl (Nat.le_of_ble_eq_true rfl) ?_
  intro p e s m args below meth c C K M
  refine j_aload_n 1 C dX6_showDisk_0 0 rfl rfl ?_
  refine g_M 4 C K 11 (by decide) mw_974 rfl dX6_showDisk_1 rfl ?_
  refine j_iload_n 5 C dX6_showDisk_4 1 rfl rfl ?_
  refine j_aload_n 6 C dX6_showDisk_5 0 rfl rfl ?_
  refine g_M 9 C K 8 (by decide) mw_971 rfl dX6_showDisk_6 rfl ?_
  refine j_iload_n 10 C dX6_showDisk_9 1 rfl rfl ?_
  obtain ⟨hz101, h⟩ := gd_e h
  refine m_ild 11 C K ra_8 hz101 dX6_showDisk_10 rfl ?_
  obtain ⟨hz102, h⟩ := gd_e h
  refine m_ist 12 C K ra_11 hz102 dX6_showDisk_11 rfl (fun σ103 eσ103 => ?_)
  replace h := lt_e h σ103 eσ103
  refine j_iconst 13 C dX6_showDisk_12 ic_0 rfl ?_
  refine j_istore_n 14 C dX6_showDisk_13 (lo' := [(2, .int (0 : Int32)), (0, .ref (gm g 0)), (1, .int x1)]) (by decide) rfl rfl ?_
  refine j_sub [1, 2, 0] (lo' := [(0, .ref (gm g 0)), (1, .int x1), (2, .int (0 : Int32))]) rfl ?_
  exact wn_X6_showDisk_14 C K M  4096 lay σ103 (0 : Int32) h
theorem cp_X6_wipeDisk : CPv yX6_wipeDisk cX6_wipeDisk 3 none RX6 1 := ⟨mw_954, mw_43, mw_105, mw_955, rfl, by decide, by decide, by decide +kernel⟩
set_option maxHeartbeats 4000000 in
set_option maxRecDepth 100000 in
theorem wn_X6_wipeDisk_9 {l : Launch} {p : Program} {e : Env} {s : State} {m : MethodId} {args : Array Value} {below : List Frame} {meth : Method} {c : Code} {g : GG} {A : Nat → Prop} (C : KX p m c cX6_wipeDisk 3 s args RX6) (K : KC l g A s) (M : KM meth none) {σ' : RS} {r : Unit} {x1 : Int32}     : ∀ (fu : Nat) (lay : Nat → Nat) (σ : RS) (v2 : Int32), B_X6_wipeDisk_9 x1 fu σ v2 = some (σ', r) → JJ p l e (rmk 2 43 0 0) s m args below meth c (MQ below (va_Qv (fun u : RS => u = σ') (BC (RH g A)) A) args s 0 0 A) A 3 (RH g A lay σ) 0 0 9 [(0, .ref (gm g 0)), (1, .int x1), (2, .int v2)] [] := by
  intro fu
  induction fu with
  | zero =>
    intro lay σ v2 h
    exact nomatch (show (none : Option _) = some _ from h)
  | succ fu ih9 =>
    intro lay σ v2 h
    unfold B_X6_wipeDisk_9 at h
    rw [lo2_s] at h
    refine j_iload_n 10 C dX6_wipeDisk_9 2 rfl rfl ?_
    refine j_iconst 11 C dX6_wipeDisk_10 ic_4 rfl ?_
    refine j_icmp_ge 14 42 C dX6_wipeDisk_11 (by decide) rfl (fun hc103 => ?_) (fun hc103 => ?_)
    · replace h := it_t hc103 h
      refine j_aload_n 43 C dX6_wipeDisk_42 0 rfl rfl ?_
      refine j_iload_n 44 C dX6_wipeDisk_43 1 rfl rfl ?_
      obtain ⟨σ104, u105, hF, h⟩ := bd_e h
      refine k_Vv 47 C K (c_X6_showDisk K.2.2.2 g A lay  hF) cp_X6_showDisk (rv_M) mw_959 dX6_wipeDisk_44 rfl rfl (Nat.le_of_ble_eq_true rfl) ⟨Nat.le_of_ble_eq_true rfl, Nat.le_of_ble_eq_true rfl⟩ ⟨Nat.le_of_ble_eq_true rfl, Nat.le_of_ble_eq_true rfl⟩ rfl (fun lay => ?_)
      cases h
      exact x_v C M dX6_wipeDisk_47
    · replace h := it_f hc103 h
      refine j_aload_n 15 C dX6_wipeDisk_14 0 rfl rfl ?_
      refine g_M 18 C K 9 (by decide) mw_972 rfl dX6_wipeDisk_15 rfl ?_
      refine j_iload_n 19 C dX6_wipeDisk_18 1 rfl rfl ?_
      refine j_iload_n 20 C dX6_wipeDisk_19 2 rfl rfl ?_
      obtain ⟨σ106, r107, hF, h⟩ := bd_e h
      refine k_Si 23 C K (c_X6_at K.2.2.2 g A lay  hF) cp_X6_at mw_956 dX6_wipeDisk_20 rfl rfl (Nat.le_of_ble_eq_true rfl) ⟨Nat.le_of_ble_eq_true rfl, Nat.le_of_ble_eq_true rfl⟩ ⟨Nat.le_of_ble_eq_true rfl, Nat.le_of_ble_eq_true rfl⟩ rfl (fun lay => ?_)
      refine j_iconst 24 C dX6_wipeDisk_23 ic_0 rfl ?_
      obtain ⟨hz108, h⟩ := gd_e h
      refine m_ist 25 C K ra_9 hz108 dX6_wipeDisk_24 rfl (fun σ109 eσ109 => ?_)
      replace h := lt_e h σ109 eσ109
      refine j_aload_n 26 C dX6_wipeDisk_25 0 rfl rfl ?_
      refine g_M 29 C K 10 (by decide) mw_973 rfl dX6_wipeDisk_26 rfl ?_
      refine j_iload_n 30 C dX6_wipeDisk_29 1 rfl rfl ?_
      refine j_iload_n 31 C dX6_wipeDisk_30 2 rfl rfl ?_
      obtain ⟨σ110, r111, hF, h⟩ := bd_e h
      refine k_Si 34 C K (c_X6_at K.2.2.2 g A lay  hF) cp_X6_at mw_956 dX6_wipeDisk_31 rfl rfl (Nat.le_of_ble_eq_true rfl) ⟨Nat.le_of_ble_eq_true rfl, Nat.le_of_ble_eq_true rfl⟩ ⟨Nat.le_of_ble_eq_true rfl, Nat.le_of_ble_eq_true rfl⟩ rfl (fun lay => ?_)
      refine j_iconst 35 C dX6_wipeDisk_34 ic_m1 rfl ?_
      obtain ⟨hz112, h⟩ := gd_e h
      refine m_ist 36 C K ra_10 hz112 dX6_wipeDisk_35 rfl (fun σ113 eσ113 => ?_)
      replace h := lt_e h σ113 eσ113
      obtain ⟨x114, ex114⟩ : ∃ z : Int32, z = v2 + 1 := ⟨_, rfl⟩
      replace h := lt_e h x114 ex114
      refine j_iinc 39 C dX6_wipeDisk_36 2 rfl (v := x114) ((ii_1 _).trans ex114.symm) (lo' := [(2, .int x114), (0, .ref (gm g 0)), (1, .int x1)]) (by decide) rfl rfl ?_
      refine j_goto 9 C dX6_wipeDisk_39 (by decide) ?_
      refine j_sub [1, 2, 0] (lo' := [(0, .ref (gm g 0)), (1, .int x1), (2, .int x114)]) rfl ?_
      exact ih9 lay σ113 x114 h
set_option maxHeartbeats 4000000 in
set_option maxRecDepth 100000 in
theorem c_X6_wipeDisk {l : Launch} (hst : l.stackTraces = false) (g : GG) (A : Nat → Prop) (lay : Nat → Nat) {σ : RS} {σ' : RS} {r : Unit} {x1 : Int32}  (h : F_X6_wipeDisk σ x1 = some (σ', r)) : MV l yX6_wipeDisk cX6_wipeDisk 3 2 43 0 0 [.ref (gm g 0), .int x1] (RH g A) g A lay σ σ' := by
  unfold F_X6_wipeDisk at h
  refine e_v (own := RX6) (lo := [(0, .ref (gm g 0)), (1, .int x1)]) hst (plainFor_of_name (by decide)) rfl rfl (Nat.le_of_ble_eq_true rfl) ?_
  intro p e s m args below meth c C K M
  refine j_aload_n 1 C dX6_wipeDisk_0 0 rfl rfl ?_
  refine g_M 4 C K 8 (by decide) mw_971 rfl dX6_wipeDisk_1 rfl ?_
  refine j_iload_n 5 C dX6_wipeDisk_4 1 rfl rfl ?_
  refine j_iconst 6 C dX6_wipeDisk_5 ic_0 rfl ?_
  obtain ⟨hz101, h⟩ := gd_e h
  refine m_ist 7 C K ra_8 hz101 dX6_wipeDisk_6 rfl (fun σ102 eσ102 => ?_)
  replace h := lt_e h σ102 eσ102
  refine j_iconst 8 C dX6_wipeDisk_7 ic_0 rfl ?_
  refine j_istore_n 9 C dX6_wipeDisk_8 (lo' := [(2, .int (0 : Int32)), (0, .ref (gm g 0)), (1, .int x1)]) (by decide) rfl rfl ?_
  refine j_sub [1, 2, 0] (lo' := [(0, .ref (gm g 0)), (1, .int x1), (2, .int (0 : Int32))]) rfl ?_
  exact wn_X6_wipeDisk_9 C K M  4096 lay σ102 (0 : Int32) h
theorem cp_X6_fresh : CPv yX6_fresh cX6_fresh 4 none RX6 2 := ⟨mw_950, mw_42, mw_105, mw_951, rfl, by decide, by decide, by decide +kernel⟩
set_option maxHeartbeats 4000000 in
set_option maxRecDepth 100000 in
theorem wn_X6_fresh_73 {l : Launch} {p : Program} {e : Env} {s : State} {m : MethodId} {args : Array Value} {below : List Frame} {meth : Method} {c : Code} {g : GG} {A : Nat → Prop} (C : KX p m c cX6_fresh 4 s args RX6) (K : KC l g A s) (M : KM meth none) {σ' : RS} {r : Unit} {x1 : Int32} {x2 : Int32}     : ∀ (fu : Nat) (lay : Nat → Nat) (σ : RS) (v3 : Int32), B_X6_fresh_73 x1 x2 fu σ v3 = some (σ', r) → JJ p l e (rmk 3 65 0 0) s m args below meth c (MQ below (va_Qv (fun u : RS => u = σ') (BC (RH g A)) A) args s 0 0 A) A 4 (RH g A lay σ) 0 0 73 [(0, .ref (gm g 0)), (3, .int v3)] [] := by
  intro fu
  induction fu with
  | zero =>
    intro lay σ v3 h
    exact nomatch (show (none : Option _) = some _ from h)
  | succ fu ih73 =>
    intro lay σ v3 h
    unfold B_X6_fresh_73 at h
    rw [lo2_s] at h
    refine j_iload_n 74 C dX6_fresh_73 1 rfl rfl ?_
    refine j_iconst 75 C dX6_fresh_74 ic_4 rfl ?_
    refine j_icmp_ge 78 112 C dX6_fresh_75 (by decide) rfl (fun hc119 => ?_) (fun hc119 => ?_)
    · replace h := it_t hc119 h
      refine j_aload_n 113 C dX6_fresh_112 0 rfl rfl ?_
      refine j_iconst 114 C dX6_fresh_113 ic_0 rfl ?_
      refine p_M 117 C K 24 (by decide) rs_24 rfl mw_987 rfl rfl dX6_fresh_114 rfl (fun σ120 eσ120 => ?_)
      replace h := lt_e h σ120 eσ120
      refine j_aload_n 118 C dX6_fresh_117 0 rfl rfl ?_
      refine j_iconst 119 C dX6_fresh_118 ic_0 rfl ?_
      refine p_M 122 C K 25 (by decide) rs_25 rfl mw_988 rfl rfl dX6_fresh_119 rfl (fun σ121 eσ121 => ?_)
      replace h := lt_e h σ121 eσ121
      refine j_aload_n 123 C dX6_fresh_122 0 rfl rfl ?_
      refine j_iconst 124 C dX6_fresh_123 ic_0 rfl ?_
      refine p_M 127 C K 26 (by decide) rs_26 rfl mw_989 rfl rfl dX6_fresh_124 rfl (fun σ122 eσ122 => ?_)
      replace h := lt_e h σ122 eσ122
      cases h
      exact x_v C M dX6_fresh_127
    · replace h := it_f hc119 h
      refine j_aload_n 79 C dX6_fresh_78 0 rfl rfl ?_
      refine g_M 82 C K 20 (by decide) mw_983 rfl dX6_fresh_79 rfl ?_
      refine j_iload_n 83 C dX6_fresh_82 1 rfl rfl ?_
      refine j_iconst 84 C dX6_fresh_83 ic_0 rfl ?_
      obtain ⟨hz123, h⟩ := gd_e h
      refine m_ist 85 C K ra_20 hz123 dX6_fresh_84 rfl (fun σ124 eσ124 => ?_)
      replace h := lt_e h σ124 eσ124
      refine j_aload_n 86 C dX6_fresh_85 0 rfl rfl ?_
      refine g_M 89 C K 21 (by decide) mw_984 rfl dX6_fresh_86 rfl ?_
      refine j_iload_n 90 C dX6_fresh_89 1 rfl rfl ?_
      refine j_iconst 91 C dX6_fresh_90 ic_m1 rfl ?_
      obtain ⟨hz125, h⟩ := gd_e h
      refine m_ist 92 C K ra_21 hz125 dX6_fresh_91 rfl (fun σ126 eσ126 => ?_)
      replace h := lt_e h σ126 eσ126
      refine j_aload_n 93 C dX6_fresh_92 0 rfl rfl ?_
      refine g_M 96 C K 22 (by decide) mw_985 rfl dX6_fresh_93 rfl ?_
      refine j_iload_n 97 C dX6_fresh_96 1 rfl rfl ?_
      refine j_iconst 98 C dX6_fresh_97 ic_m1 rfl ?_
      obtain ⟨hz127, h⟩ := gd_e h
      refine m_ist 99 C K ra_22 hz127 dX6_fresh_98 rfl (fun σ128 eσ128 => ?_)
      replace h := lt_e h σ128 eσ128
      refine j_aload_n 100 C dX6_fresh_99 0 rfl rfl ?_
      refine g_M 103 C K 23 (by decide) mw_986 rfl dX6_fresh_100 rfl ?_
      refine j_iload_n 104 C dX6_fresh_103 1 rfl rfl ?_
      refine j_iconst 105 C dX6_fresh_104 ic_0 rfl ?_
      obtain ⟨hz129, h⟩ := gd_e h
      refine m_zst 106 C K ra_23 hz129 (by decide) dX6_fresh_105 rfl (fun σ130 eσ130 => ?_)
      replace h := lt_e h σ130 eσ130
      obtain ⟨x131, ex131⟩ : ∃ z : Int32, z = v3 + 1 := ⟨_, rfl⟩
      replace h := lt_e h x131 ex131
      refine j_iinc 109 C dX6_fresh_106 1 rfl (v := x131) ((ii_1 _).trans ex131.symm) (lo' := [(3, .int x131), (0, .ref (gm g 0))]) (by decide) rfl rfl ?_
      refine j_goto 73 C dX6_fresh_109 (by decide) ?_
      refine j_sub [1, 0] (lo' := [(0, .ref (gm g 0)), (3, .int x131)]) rfl ?_
      exact ih73 lay σ130 x131 h
set_option maxHeartbeats 4000000 in
set_option maxRecDepth 100000 in
theorem wn_X6_fresh_12 {l : Launch} {p : Program} {e : Env} {s : State} {m : MethodId} {args : Array Value} {below : List Frame} {meth : Method} {c : Code} {g : GG} {A : Nat → Prop} (C : KX p m c cX6_fresh 4 s args RX6) (K : KC l g A s) (M : KM meth none) {σ' : RS} {r : Unit} {x1 : Int32} {x2 : Int32}     : ∀ (fu : Nat) (lay : Nat → Nat) (σ : RS) (v3 : Int32), B_X6_fresh_12 x1 x2 fu σ v3 = some (σ', r) → JJ p l e (rmk 3 65 0 0) s m args below meth c (MQ below (va_Qv (fun u : RS => u = σ') (BC (RH g A)) A) args s 0 0 A) A 4 (RH g A lay σ) 0 0 12 [(0, .ref (gm g 0)), (3, .int v3)] [] := by
  intro fu
  induction fu with
  | zero =>
    intro lay σ v3 h
    exact nomatch (show (none : Option _) = some _ from h)
  | succ fu ih12 =>
    intro lay σ v3 h
    unfold B_X6_fresh_12 at h
    rw [lo2_s] at h
    refine j_iload_n 13 C dX6_fresh_12 1 rfl rfl ?_
    refine j_bipush 15 C dX6_fresh_13 bp_7 rfl ?_
    refine j_icmp_ge 18 71 C dX6_fresh_15 (by decide) rfl (fun hc103 => ?_) (fun hc103 => ?_)
    · replace h := it_t hc103 h
      refine j_iconst 72 C dX6_fresh_71 ic_0 rfl ?_
      refine j_istore_n 73 C dX6_fresh_72 (lo' := [(3, .int (0 : Int32)), (0, .ref (gm g 0))]) (by decide) rfl rfl ?_
      refine j_sub [1, 0] (lo' := [(0, .ref (gm g 0)), (3, .int (0 : Int32))]) rfl ?_
      exact wn_X6_fresh_73 C K M  4096 lay σ (0 : Int32) h
    · replace h := it_f hc103 h
      refine j_aload_n 19 C dX6_fresh_18 0 rfl rfl ?_
      refine g_M 22 C K 4 (by decide) mw_967 rfl dX6_fresh_19 rfl ?_
      refine j_iload_n 23 C dX6_fresh_22 1 rfl rfl ?_
      refine j_iconst 24 C dX6_fresh_23 ic_1 rfl ?_
      obtain ⟨hz104, h⟩ := gd_e h
      refine m_zst 25 C K ra_4 hz104 (by decide) dX6_fresh_24 rfl (fun σ105 eσ105 => ?_)
      replace h := lt_e h σ105 eσ105
      refine j_aload_n 26 C dX6_fresh_25 0 rfl rfl ?_
      refine g_M 29 C K 5 (by decide) mw_968 rfl dX6_fresh_26 rfl ?_
      refine j_iload_n 30 C dX6_fresh_29 1 rfl rfl ?_
      refine j_iconst 31 C dX6_fresh_30 ic_1 rfl ?_
      obtain ⟨hz106, h⟩ := gd_e h
      refine m_zst 32 C K ra_5 hz106 (by decide) dX6_fresh_31 rfl (fun σ107 eσ107 => ?_)
      replace h := lt_e h σ107 eσ107
      refine j_aload_n 33 C dX6_fresh_32 0 rfl rfl ?_
      refine g_M 36 C K 6 (by decide) mw_969 rfl dX6_fresh_33 rfl ?_
      refine j_iload_n 37 C dX6_fresh_36 1 rfl rfl ?_
      refine j_iconst 38 C dX6_fresh_37 ic_0 rfl ?_
      obtain ⟨hz108, h⟩ := gd_e h
      refine m_ist 39 C K ra_6 hz108 dX6_fresh_38 rfl (fun σ109 eσ109 => ?_)
      replace h := lt_e h σ109 eσ109
      refine j_aload_n 40 C dX6_fresh_39 0 rfl rfl ?_
      refine g_M 43 C K 7 (by decide) mw_970 rfl dX6_fresh_40 rfl ?_
      refine j_iload_n 44 C dX6_fresh_43 1 rfl rfl ?_
      refine j_iconst 45 C dX6_fresh_44 ic_0 rfl ?_
      obtain ⟨hz110, h⟩ := gd_e h
      refine m_ist 46 C K ra_7 hz110 dX6_fresh_45 rfl (fun σ111 eσ111 => ?_)
      replace h := lt_e h σ111 eσ111
      refine j_aload_n 47 C dX6_fresh_46 0 rfl rfl ?_
      refine g_M 50 C K 14 (by decide) mw_977 rfl dX6_fresh_47 rfl ?_
      refine j_iload_n 51 C dX6_fresh_50 1 rfl rfl ?_
      refine j_iconst 52 C dX6_fresh_51 ic_0 rfl ?_
      obtain ⟨hz112, h⟩ := gd_e h
      refine m_ist 53 C K ra_14 hz112 dX6_fresh_52 rfl (fun σ113 eσ113 => ?_)
      replace h := lt_e h σ113 eσ113
      refine j_aload_n 54 C dX6_fresh_53 0 rfl rfl ?_
      refine g_M 57 C K 18 (by decide) mw_981 rfl dX6_fresh_54 rfl ?_
      refine j_iload_n 58 C dX6_fresh_57 1 rfl rfl ?_
      refine j_iconst 59 C dX6_fresh_58 ic_m1 rfl ?_
      obtain ⟨hz114, h⟩ := gd_e h
      refine m_ist 60 C K ra_18 hz114 dX6_fresh_59 rfl (fun σ115 eσ115 => ?_)
      replace h := lt_e h σ115 eσ115
      refine j_aload_n 61 C dX6_fresh_60 0 rfl rfl ?_
      refine j_iload_n 62 C dX6_fresh_61 1 rfl rfl ?_
      obtain ⟨σ116, u117, hF, h⟩ := bd_e h
      refine k_Vv 65 C K (c_X6_wipeDisk K.2.2.2 g A lay  hF) cp_X6_wipeDisk (rv_M) mw_952 dX6_fresh_62 rfl rfl (Nat.le_of_ble_eq_true rfl) ⟨Nat.le_of_ble_eq_true rfl, Nat.le_of_ble_eq_true rfl⟩ ⟨Nat.le_of_ble_eq_true rfl, Nat.le_of_ble_eq_true rfl⟩ rfl (fun lay => ?_)
      obtain ⟨x118, ex118⟩ : ∃ z : Int32, z = v3 + 1 := ⟨_, rfl⟩
      replace h := lt_e h x118 ex118
      refine j_iinc 68 C dX6_fresh_65 1 rfl (v := x118) ((ii_1 _).trans ex118.symm) (lo' := [(3, .int x118), (0, .ref (gm g 0))]) (by decide) rfl rfl ?_
      refine j_goto 12 C dX6_fresh_68 (by decide) ?_
      refine j_sub [1, 0] (lo' := [(0, .ref (gm g 0)), (3, .int x118)]) rfl ?_
      exact ih12 lay σ116 x118 h
set_option maxHeartbeats 4000000 in
set_option maxRecDepth 100000 in
theorem c_X6_fresh {l : Launch} (hst : l.stackTraces = false) (g : GG) (A : Nat → Prop) (lay : Nat → Nat) {σ : RS} {σ' : RS} {r : Unit} {x1 : Int32} {x2 : Int32}  (h : F_X6_fresh σ x1 x2 = some (σ', r)) : MV l yX6_fresh cX6_fresh 4 3 65 0 0 [.ref (gm g 0), .int x1, .int x2] (RH g A) g A lay σ σ' := by
  unfold F_X6_fresh at h
  refine e_v (own := RX6) (lo := [(0, .ref (gm g 0)), (1, .int x1), (2, .int x2)]) hst (plainFor_of_name (by decide)) rfl rfl (Nat.le_of_ble_eq_true rfl) ?_
  intro p e s m args below meth c C K M
  refine j_aload_n 1 C dX6_fresh_0 0 rfl rfl ?_
  refine j_iload_n 2 C dX6_fresh_1 1 rfl rfl ?_
  refine p_M 5 C K 1 (by decide) rs_1 rfl mw_964 rfl rfl dX6_fresh_2 rfl (fun σ101 eσ101 => ?_)
  replace h := lt_e h σ101 eσ101
  refine j_aload_n 6 C dX6_fresh_5 0 rfl rfl ?_
  refine j_iload_n 7 C dX6_fresh_6 2 rfl rfl ?_
  refine p_M 10 C K 2 (by decide) rs_2 rfl mw_965 rfl rfl dX6_fresh_7 rfl (fun σ102 eσ102 => ?_)
  replace h := lt_e h σ102 eσ102
  refine j_iconst 11 C dX6_fresh_10 ic_0 rfl ?_
  refine j_istore_n 12 C dX6_fresh_11 (lo' := [(3, .int (0 : Int32)), (0, .ref (gm g 0)), (1, .int x1), (2, .int x2)]) (by decide) rfl rfl ?_
  refine j_sub [1, 0] (lo' := [(0, .ref (gm g 0)), (3, .int (0 : Int32))]) rfl ?_
  exact wn_X6_fresh_12 C K M  4096 lay σ102 (0 : Int32) h
theorem cp_X6_write : CPv yX6_write cX6_write 6 none RX6 4 := ⟨mw_1119, mw_52, mw_105, mw_1120, rfl, by decide, by decide, by decide +kernel⟩
set_option maxHeartbeats 4000000 in
set_option maxRecDepth 100000 in
theorem c_X6_write {l : Launch} (hst : l.stackTraces = false) (g : GG) (A : Nat → Prop) (lay : Nat → Nat) {σ : RS} {σ' : RS} {r : Unit} {x1 : Int32} {x2 : Int32} {x3 : Int32} {x4 : Int32}  (h : F_X6_write σ x1 x2 x3 x4 = some (σ', r)) : MV l yX6_write cX6_write 6 1 21 0 0 [.ref (gm g 0), .int x1, .int x2, .int x3, .int x4] (RH g A) g A lay σ σ' := by
  unfold F_X6_write at h
  refine e_v (own := RX6) (lo := [(0, .ref (gm g 0)), (1, .int x1), (2, .int x2), (3, .int x3), (4, .int x4)]) hst (plainFor_of_name (by decide)) rfl rfl (Nat.le_of_ble_eq_true rfl) ?_
  intro p e s m args below meth c C K M
  refine j_sipush 3 C dX6_write_0 sp_2048 rfl ?_
  refine j_iload_n 4 C dX6_write_3 1 rfl rfl ?_
  refine j_imul 5 C dX6_write_4 rfl ?_
  refine j_aload_n 6 C dX6_write_5 0 rfl rfl ?_
  refine g_M 9 C K 14 (by decide) mw_977 rfl dX6_write_6 rfl ?_
  refine j_iload_n 10 C dX6_write_9 1 rfl rfl ?_
  obtain ⟨hz101, h⟩ := gd_e h
  refine m_ild 11 C K ra_14 hz101 dX6_write_10 rfl ?_
  refine j_iadd 12 C dX6_write_11 rfl ?_
  refine j_topi (fun x102 ex102 => ?_)
  replace h := lt_e h x102 ex102
  refine j_istore 14 C dX6_write_12 (lo' := [(5, .int x102), (0, .ref (gm g 0)), (1, .int x1), (2, .int x2), (3, .int x3), (4, .int x4)]) (by decide) rfl rfl ?_
  refine j_aload_n 15 C dX6_write_14 1 rfl rfl ?_
  refine g_M 18 C K 15 (by decide) mw_978 rfl dX6_write_15 rfl ?_
  refine j_iload 20 C dX6_write_18 0 rfl rfl ?_
  refine j_iload_n 21 C dX6_write_20 3 rfl rfl ?_
  obtain ⟨hz103, h⟩ := gd_e h
  refine m_ist 22 C K ra_15 hz103 dX6_write_21 rfl (fun σ104 eσ104 => ?_)
  replace h := lt_e h σ104 eσ104
  refine j_aload_n 23 C dX6_write_22 1 rfl rfl ?_
  refine g_M 26 C K 16 (by decide) mw_979 rfl dX6_write_23 rfl ?_
  refine j_iload 28 C dX6_write_26 0 rfl rfl ?_
  refine j_iload_n 29 C dX6_write_28 4 rfl rfl ?_
  obtain ⟨hz105, h⟩ := gd_e h
  refine m_ist 30 C K ra_16 hz105 dX6_write_29 rfl (fun σ106 eσ106 => ?_)
  replace h := lt_e h σ106 eσ106
  refine j_aload_n 31 C dX6_write_30 1 rfl rfl ?_
  refine g_M 34 C K 17 (by decide) mw_980 rfl dX6_write_31 rfl ?_
  refine j_iload 36 C dX6_write_34 0 rfl rfl ?_
  refine j_iload 38 C dX6_write_36 5 rfl rfl ?_
  obtain ⟨hz107, h⟩ := gd_e h
  refine m_ist 39 C K ra_17 hz107 dX6_write_38 rfl (fun σ108 eσ108 => ?_)
  replace h := lt_e h σ108 eσ108
  refine j_aload_n 40 C dX6_write_39 1 rfl rfl ?_
  refine g_M 43 C K 14 (by decide) mw_977 rfl dX6_write_40 rfl ?_
  refine j_iload_n 44 C dX6_write_43 2 rfl rfl ?_
  refine j_dup2 45 C dX6_write_44 rfl rfl rfl ?_
  obtain ⟨hz109, h⟩ := gd_e h
  refine m_ild 46 C K ra_14 hz109 dX6_write_45 rfl ?_
  refine j_iconst 47 C dX6_write_46 ic_1 rfl ?_
  refine j_iadd 48 C dX6_write_47 rfl ?_
  obtain ⟨hz110, h⟩ := gd_e h
  refine m_ist 49 C K ra_14 hz110 dX6_write_48 rfl (fun σ111 eσ111 => ?_)
  replace h := lt_e h σ111 eσ111
  refine j_aload_n 50 C dX6_write_49 1 rfl rfl ?_
  refine g_M 53 C K 11 (by decide) mw_974 rfl dX6_write_50 rfl ?_
  refine j_iload_n 54 C dX6_write_53 2 rfl rfl ?_
  refine j_iload_n 55 C dX6_write_54 4 rfl rfl ?_
  obtain ⟨hz112, h⟩ := gd_e h
  refine m_ist 56 C K ra_11 hz112 dX6_write_55 rfl (fun σ113 eσ113 => ?_)
  replace h := lt_e h σ113 eσ113
  refine j_iload_n 57 C dX6_write_56 3 rfl rfl ?_
  refine j_iconst 58 C dX6_write_57 ic_m1 rfl ?_
  refine j_icmp_eq 61 84 C dX6_write_58 (by decide) rfl (fun hc114 => ?_) (fun hc114 => ?_)
  · replace h := it_t hc114 h
    cases h
    exact x_v C M dX6_write_84
  · replace h := it_f hc114 h
    refine j_aload_n 62 C dX6_write_61 1 rfl rfl ?_
    refine g_M 65 C K 12 (by decide) mw_975 rfl dX6_write_62 rfl ?_
    refine j_iload_n 66 C dX6_write_65 2 rfl rfl ?_
    refine j_iload_n 67 C dX6_write_66 3 rfl rfl ?_
    obtain ⟨σ115, r116, hF, h⟩ := bd_e h
    refine k_Si 70 C K (c_X6_at K.2.2.2 g A lay  hF) cp_X6_at mw_956 dX6_write_67 rfl rfl (Nat.le_of_ble_eq_true rfl) ⟨Nat.le_of_ble_eq_true rfl, Nat.le_of_ble_eq_true rfl⟩ ⟨Nat.le_of_ble_eq_true rfl, Nat.le_of_ble_eq_true rfl⟩ rfl (fun lay => ?_)
    refine j_iload_n 71 C dX6_write_70 4 rfl rfl ?_
    obtain ⟨hz117, h⟩ := gd_e h
    refine m_ist 72 C K ra_12 hz117 dX6_write_71 rfl (fun σ118 eσ118 => ?_)
    replace h := lt_e h σ118 eσ118
    refine j_aload_n 73 C dX6_write_72 1 rfl rfl ?_
    refine g_M 76 C K 13 (by decide) mw_976 rfl dX6_write_73 rfl ?_
    refine j_iload_n 77 C dX6_write_76 2 rfl rfl ?_
    refine j_iload_n 78 C dX6_write_77 3 rfl rfl ?_
    obtain ⟨σ119, r120, hF, h⟩ := bd_e h
    refine k_Si 81 C K (c_X6_at K.2.2.2 g A lay  hF) cp_X6_at mw_956 dX6_write_78 rfl rfl (Nat.le_of_ble_eq_true rfl) ⟨Nat.le_of_ble_eq_true rfl, Nat.le_of_ble_eq_true rfl⟩ ⟨Nat.le_of_ble_eq_true rfl, Nat.le_of_ble_eq_true rfl⟩ rfl (fun lay => ?_)
    refine j_iload 83 C dX6_write_81 5 rfl rfl ?_
    obtain ⟨hz121, h⟩ := gd_e h
    refine m_ist 84 C K ra_13 hz121 dX6_write_83 rfl (fun σ122 eσ122 => ?_)
    replace h := lt_e h σ122 eσ122
    cases h
    exact x_v C M dX6_write_84
theorem cp_X6_flush : CPv yX6_flush cX6_flush 3 none RX6 1 := ⟨mw_1127, mw_54, mw_105, mw_1128, rfl, by decide, by decide, by decide +kernel⟩
set_option maxHeartbeats 4000000 in
set_option maxRecDepth 100000 in
theorem wn_X6_flush_86 {l : Launch} {p : Program} {e : Env} {s : State} {m : MethodId} {args : Array Value} {below : List Frame} {meth : Method} {c : Code} {g : GG} {A : Nat → Prop} (C : KX p m c cX6_flush 3 s args RX6) (K : KC l g A s) (M : KM meth none) {σ' : RS} {r : Unit} {x1 : Int32}   {self6 : RS → Int32 → Option (RS × Unit)} (ih6 : ∀ (lay : Nat → Nat) (σ : RS) (v2 : Int32), self6 σ v2 = some (σ', r) → JJ p l e (rmk 1 21 0 0) s m args below meth c (MQ below (va_Qv (fun u : RS => u = σ') (BC (RH g A)) A) args s 0 0 A) A 3 (RH g A lay σ) 0 0 6 [(0, .ref (gm g 0)), (1, .int x1), (2, .int v2)] []) (lay : Nat → Nat) (σ : RS) (v2 : Int32)  (h : B_X6_flush_86 x1 self6 σ v2 = some (σ', r)) : JJ p l e (rmk 1 21 0 0) s m args below meth c (MQ below (va_Qv (fun u : RS => u = σ') (BC (RH g A)) A) args s 0 0 A) A 3 (RH g A lay σ) 0 0 86 [(0, .ref (gm g 0)), (1, .int x1), (2, .int v2)] [] := by
  unfold B_X6_flush_86 at h
  obtain ⟨x123, ex123⟩ : ∃ z : Int32, z = v2 + 1 := ⟨_, rfl⟩
  replace h := lt_e h x123 ex123
  refine j_iinc 89 C dX6_flush_86 2 rfl (v := x123) ((ii_1 _).trans ex123.symm) (lo' := [(2, .int x123), (0, .ref (gm g 0)), (1, .int x1)]) (by decide) rfl rfl ?_
  refine j_goto 6 C dX6_flush_89 (by decide) ?_
  refine j_sub [1, 2, 0] (lo' := [(0, .ref (gm g 0)), (1, .int x1), (2, .int x123)]) rfl ?_
  exact ih6 lay σ x123 h
set_option maxHeartbeats 4000000 in
set_option maxRecDepth 100000 in
theorem wn_X6_flush_6 {l : Launch} {p : Program} {e : Env} {s : State} {m : MethodId} {args : Array Value} {below : List Frame} {meth : Method} {c : Code} {g : GG} {A : Nat → Prop} (C : KX p m c cX6_flush 3 s args RX6) (K : KC l g A s) (M : KM meth none) {σ' : RS} {r : Unit} {x1 : Int32}     : ∀ (fu : Nat) (lay : Nat → Nat) (σ : RS) (v2 : Int32), B_X6_flush_6 x1 fu σ v2 = some (σ', r) → JJ p l e (rmk 1 21 0 0) s m args below meth c (MQ below (va_Qv (fun u : RS => u = σ') (BC (RH g A)) A) args s 0 0 A) A 3 (RH g A lay σ) 0 0 6 [(0, .ref (gm g 0)), (1, .int x1), (2, .int v2)] [] := by
  intro fu
  induction fu with
  | zero =>
    intro lay σ v2 h
    exact nomatch (show (none : Option _) = some _ from h)
  | succ fu ih6 =>
    intro lay σ v2 h
    unfold B_X6_flush_6 at h
    rw [lo2_s] at h
    refine j_iload_n 7 C dX6_flush_6 2 rfl rfl ?_
    refine j_sipush 10 C dX6_flush_7 sp_2048 rfl ?_
    refine j_iload_n 11 C dX6_flush_10 1 rfl rfl ?_
    refine j_imul 12 C dX6_flush_11 rfl ?_
    refine j_aload_n 13 C dX6_flush_12 0 rfl rfl ?_
    refine g_M 16 C K 14 (by decide) mw_977 rfl dX6_flush_13 rfl ?_
    refine j_iload_n 17 C dX6_flush_16 1 rfl rfl ?_
    obtain ⟨hz102, h⟩ := gd_e h
    refine m_ild 18 C K ra_14 hz102 dX6_flush_17 rfl ?_
    refine j_iadd 19 C dX6_flush_18 rfl ?_
    refine j_icmp_ge 22 92 C dX6_flush_19 (by decide) rfl (fun hc103 => ?_) (fun hc103 => ?_)
    · replace h := it_t hc103 h
      refine j_aload_n 93 C dX6_flush_92 0 rfl rfl ?_
      refine g_M 96 C K 14 (by decide) mw_977 rfl dX6_flush_93 rfl ?_
      refine j_iload_n 97 C dX6_flush_96 1 rfl rfl ?_
      refine j_iconst 98 C dX6_flush_97 ic_0 rfl ?_
      obtain ⟨hz104, h⟩ := gd_e h
      refine m_ist 99 C K ra_14 hz104 dX6_flush_98 rfl (fun σ105 eσ105 => ?_)
      replace h := lt_e h σ105 eσ105
      cases h
      exact x_v C M dX6_flush_99
    · replace h := it_f hc103 h
      refine j_aload_n 23 C dX6_flush_22 0 rfl rfl ?_
      refine g_M 26 C K 8 (by decide) mw_971 rfl dX6_flush_23 rfl ?_
      refine j_iload_n 27 C dX6_flush_26 1 rfl rfl ?_
      refine j_aload_n 28 C dX6_flush_27 0 rfl rfl ?_
      refine g_M 31 C K 16 (by decide) mw_979 rfl dX6_flush_28 rfl ?_
      refine j_iload_n 32 C dX6_flush_31 2 rfl rfl ?_
      obtain ⟨hz106, h⟩ := gd_e h
      refine m_ild 33 C K ra_16 hz106 dX6_flush_32 rfl ?_
      obtain ⟨hz107, h⟩ := gd_e h
      refine m_ist 34 C K ra_8 hz107 dX6_flush_33 rfl (fun σ108 eσ108 => ?_)
      replace h := lt_e h σ108 eσ108
      refine j_aload_n 35 C dX6_flush_34 0 rfl rfl ?_
      refine g_M 38 C K 15 (by decide) mw_978 rfl dX6_flush_35 rfl ?_
      refine j_iload_n 39 C dX6_flush_38 2 rfl rfl ?_
      obtain ⟨hz109, h⟩ := gd_e h
      refine m_ild 40 C K ra_15 hz109 dX6_flush_39 rfl ?_
      refine j_iconst 41 C dX6_flush_40 ic_m1 rfl ?_
      refine j_icmp_eq 44 86 C dX6_flush_41 (by decide) rfl (fun hc110 => ?_) (fun hc110 => ?_)
      · replace h := it_t hc110 h
        exact wn_X6_flush_86 C K M ih6 lay σ108 v2 h
      · replace h := it_f hc110 h
        refine j_aload_n 45 C dX6_flush_44 0 rfl rfl ?_
        refine g_M 48 C K 9 (by decide) mw_972 rfl dX6_flush_45 rfl ?_
        refine j_iload_n 49 C dX6_flush_48 1 rfl rfl ?_
        refine j_aload_n 50 C dX6_flush_49 0 rfl rfl ?_
        refine g_M 53 C K 15 (by decide) mw_978 rfl dX6_flush_50 rfl ?_
        refine j_iload_n 54 C dX6_flush_53 2 rfl rfl ?_
        obtain ⟨hz111, h⟩ := gd_e h
        refine m_ild 55 C K ra_15 hz111 dX6_flush_54 rfl ?_
        obtain ⟨σ112, r113, hF, h⟩ := bd_e h
        refine k_Si 58 C K (c_X6_at K.2.2.2 g A lay  hF) cp_X6_at mw_956 dX6_flush_55 rfl rfl (Nat.le_of_ble_eq_true rfl) ⟨Nat.le_of_ble_eq_true rfl, Nat.le_of_ble_eq_true rfl⟩ ⟨Nat.le_of_ble_eq_true rfl, Nat.le_of_ble_eq_true rfl⟩ rfl (fun lay => ?_)
        refine j_aload_n 59 C dX6_flush_58 0 rfl rfl ?_
        refine g_M 62 C K 16 (by decide) mw_979 rfl dX6_flush_59 rfl ?_
        refine j_iload_n 63 C dX6_flush_62 2 rfl rfl ?_
        obtain ⟨hz114, h⟩ := gd_e h
        refine m_ild 64 C K ra_16 hz114 dX6_flush_63 rfl ?_
        obtain ⟨hz115, h⟩ := gd_e h
        refine m_ist 65 C K ra_9 hz115 dX6_flush_64 rfl (fun σ116 eσ116 => ?_)
        replace h := lt_e h σ116 eσ116
        refine j_aload_n 66 C dX6_flush_65 0 rfl rfl ?_
        refine g_M 69 C K 10 (by decide) mw_973 rfl dX6_flush_66 rfl ?_
        refine j_iload_n 70 C dX6_flush_69 1 rfl rfl ?_
        refine j_aload_n 71 C dX6_flush_70 0 rfl rfl ?_
        refine g_M 74 C K 15 (by decide) mw_978 rfl dX6_flush_71 rfl ?_
        refine j_iload_n 75 C dX6_flush_74 2 rfl rfl ?_
        obtain ⟨hz117, h⟩ := gd_e h
        refine m_ild 76 C K ra_15 hz117 dX6_flush_75 rfl ?_
        obtain ⟨σ118, r119, hF, h⟩ := bd_e h
        refine k_Si 79 C K (c_X6_at K.2.2.2 g A lay  hF) cp_X6_at mw_956 dX6_flush_76 rfl rfl (Nat.le_of_ble_eq_true rfl) ⟨Nat.le_of_ble_eq_true rfl, Nat.le_of_ble_eq_true rfl⟩ ⟨Nat.le_of_ble_eq_true rfl, Nat.le_of_ble_eq_true rfl⟩ rfl (fun lay => ?_)
        refine j_aload_n 80 C dX6_flush_79 0 rfl rfl ?_
        refine g_M 83 C K 17 (by decide) mw_980 rfl dX6_flush_80 rfl ?_
        refine j_iload_n 84 C dX6_flush_83 2 rfl rfl ?_
        obtain ⟨hz120, h⟩ := gd_e h
        refine m_ild 85 C K ra_17 hz120 dX6_flush_84 rfl ?_
        obtain ⟨hz121, h⟩ := gd_e h
        refine m_ist 86 C K ra_10 hz121 dX6_flush_85 rfl (fun σ122 eσ122 => ?_)
        replace h := lt_e h σ122 eσ122
        exact wn_X6_flush_86 C K M ih6 lay σ122 v2 h
set_option maxHeartbeats 4000000 in
set_option maxRecDepth 100000 in
theorem c_X6_flush {l : Launch} (hst : l.stackTraces = false) (g : GG) (A : Nat → Prop) (lay : Nat → Nat) {σ : RS} {σ' : RS} {r : Unit} {x1 : Int32}  (h : F_X6_flush σ x1 = some (σ', r)) : MV l yX6_flush cX6_flush 3 1 21 0 0 [.ref (gm g 0), .int x1] (RH g A) g A lay σ σ' := by
  unfold F_X6_flush at h
  refine e_v (own := RX6) (lo := [(0, .ref (gm g 0)), (1, .int x1)]) hst (plainFor_of_name (by decide)) rfl rfl (Nat.le_of_ble_eq_true rfl) ?_
  intro p e s m args below meth c C K M
  refine j_sipush 3 C dX6_flush_0 sp_2048 rfl ?_
  refine j_iload_n 4 C dX6_flush_3 1 rfl rfl ?_
  refine j_imul 5 C dX6_flush_4 rfl ?_
  refine j_topi (fun x101 ex101 => ?_)
  replace h := lt_e h x101 ex101
  refine j_istore_n 6 C dX6_flush_5 (lo' := [(2, .int x101), (0, .ref (gm g 0)), (1, .int x1)]) (by decide) rfl rfl ?_
  refine j_sub [1, 2, 0] (lo' := [(0, .ref (gm g 0)), (1, .int x1), (2, .int x101)]) rfl ?_
  exact wn_X6_flush_6 C K M  4096 lay σ x101 h
theorem cp_X6_tell : CPv yX6_tell cX6_tell 3 none RX6 2 := ⟨mw_1111, mw_50, mw_105, mw_1112, rfl, by decide, by decide, by decide +kernel⟩
set_option maxHeartbeats 4000000 in
set_option maxRecDepth 100000 in
theorem wn_X6_tell_25 {l : Launch} {p : Program} {e : Env} {s : State} {m : MethodId} {args : Array Value} {below : List Frame} {meth : Method} {c : Code} {g : GG} {A : Nat → Prop} (C : KX p m c cX6_tell 3 s args RX6) (K : KC l g A s) (M : KM meth none) {σ' : RS} {r : Unit} {x1 : Int32} {x2 : Int32}     (lay : Nat → Nat) (σ : RS) (w0 : Int32) (w1 : Int32)  (h : B_X6_tell_25 x1 x2 σ w0 w1 = some (σ', r)) : JJ p l e (rmk 0 0 0 0) s m args below meth c (MQ below (va_Qv (fun u : RS => u = σ') (BC (RH g A)) A) args s 0 0 A) A 3 (RH g A lay σ) 0 0 25 [] [.int w0, .int w1, .ref (gm g 4)] := by
  unfold B_X6_tell_25 at h
  obtain ⟨hz104, h⟩ := gd_e h
  refine m_ist 26 C K ra_7 hz104 dX6_tell_25 rfl (fun σ105 eσ105 => ?_)
  replace h := lt_e h σ105 eσ105
  cases h
  exact x_v C M dX6_tell_26
set_option maxHeartbeats 4000000 in
set_option maxRecDepth 100000 in
theorem c_X6_tell {l : Launch} (hst : l.stackTraces = false) (g : GG) (A : Nat → Prop) (lay : Nat → Nat) {σ : RS} {σ' : RS} {r : Unit} {x1 : Int32} {x2 : Int32}  (h : F_X6_tell σ x1 x2 = some (σ', r)) : MV l yX6_tell cX6_tell 3 0 0 0 0 [.ref (gm g 0), .int x1, .int x2] (RH g A) g A lay σ σ' := by
  unfold F_X6_tell at h
  refine e_v (own := RX6) (lo := [(0, .ref (gm g 0)), (1, .int x1), (2, .int x2)]) hst (plainFor_of_name (by decide)) rfl rfl (Nat.le_of_ble_eq_true rfl) ?_
  intro p e s m args below meth c C K M
  refine j_aload_n 1 C dX6_tell_0 0 rfl rfl ?_
  refine g_M 4 C K 7 (by decide) mw_970 rfl dX6_tell_1 rfl ?_
  refine j_iload_n 5 C dX6_tell_4 1 rfl rfl ?_
  refine j_iload_n 6 C dX6_tell_5 2 rfl rfl ?_
  refine j_aload_n 7 C dX6_tell_6 0 rfl rfl ?_
  refine g_M 10 C K 7 (by decide) mw_970 rfl dX6_tell_7 rfl ?_
  refine j_iload_n 11 C dX6_tell_10 1 rfl rfl ?_
  obtain ⟨hz101, h⟩ := gd_e h
  refine m_ild 12 C K ra_7 hz101 dX6_tell_11 rfl ?_
  refine j_icmp_le 15 19 C dX6_tell_12 (by decide) rfl (fun hc102 => ?_) (fun hc102 => ?_)
  · replace h := it_t hc102 h
    refine j_aload_n 20 C dX6_tell_19 0 rfl rfl ?_
    refine g_M 23 C K 7 (by decide) mw_970 rfl dX6_tell_20 rfl ?_
    refine j_iload_n 24 C dX6_tell_23 1 rfl rfl ?_
    obtain ⟨hz103, h⟩ := gd_e h
    refine m_ild 25 C K ra_7 hz103 dX6_tell_24 rfl ?_
    refine j_sub [] (lo' := []) rfl ?_
    exact wn_X6_tell_25 C K M  lay σ (σ.1 7 (tn x1)) x1 h
  · replace h := it_f hc102 h
    refine j_iload_n 16 C dX6_tell_15 2 rfl rfl ?_
    refine j_goto 25 C dX6_tell_16 (by decide) ?_
    refine j_sub [] (lo' := []) rfl ?_
    exact wn_X6_tell_25 C K M  lay σ x2 x1 h
theorem cp_X6_nextBallot : CPv yX6_nextBallot cX6_nextBallot 4 (some .int) RX6 1 := ⟨mw_1107, mw_49, mw_105, mw_1108, rfl, by decide, by decide, by decide +kernel⟩
set_option maxHeartbeats 4000000 in
set_option maxRecDepth 100000 in
theorem wn_X6_nextBallot_65 {l : Launch} {p : Program} {e : Env} {s : State} {m : MethodId} {args : Array Value} {below : List Frame} {meth : Method} {c : Code} {g : GG} {A : Nat → Prop} (C : KX p m c cX6_nextBallot 4 s args RX6) (K : KC l g A s) (M : KM meth (some .int)) {σ' : RS} {r : Int32} {x1 : Int32}     (lay : Nat → Nat) (σ : RS) (v3 : Int32)  (h : B_X6_nextBallot_65 x1 σ v3 = some (σ', r)) : JJ p l e (rmk 0 0 0 0) s m args below meth c (MQ below (va_Qi (fun (r0 : Int32) (u : RS) => r0 = r ∧ u = σ') (BC (RH g A)) A) args s 0 0 A) A 4 (RH g A lay σ) 0 0 65 [(3, .int v3)] [] := by
  unfold B_X6_nextBallot_65 at h
  refine j_iload_n 66 C dX6_nextBallot_65 0 rfl rfl ?_
  cases h
  exact x_i C M dX6_nextBallot_66
set_option maxHeartbeats 4000000 in
set_option maxRecDepth 100000 in
theorem wn_X6_nextBallot_63 {l : Launch} {p : Program} {e : Env} {s : State} {m : MethodId} {args : Array Value} {below : List Frame} {meth : Method} {c : Code} {g : GG} {A : Nat → Prop} (C : KX p m c cX6_nextBallot 4 s args RX6) (K : KC l g A s) (M : KM meth (some .int)) {σ' : RS} {r : Int32} {x1 : Int32}     (lay : Nat → Nat) (σ : RS) (w0 : Int32) (w1 : Int32)  (h : B_X6_nextBallot_63 x1 σ w0 w1 = some (σ', r)) : JJ p l e (rmk 0 0 0 0) s m args below meth c (MQ below (va_Qi (fun (r0 : Int32) (u : RS) => r0 = r ∧ u = σ') (BC (RH g A)) A) args s 0 0 A) A 4 (RH g A lay σ) 0 0 63 [] [.int w0, .int w1] := by
  unfold B_X6_nextBallot_63 at h
  refine j_iadd 64 C dX6_nextBallot_63 rfl ?_
  refine j_topi (fun x110 ex110 => ?_)
  replace h := lt_e h x110 ex110
  refine j_istore_n 65 C dX6_nextBallot_64 (lo' := [(3, .int x110)]) (by decide) rfl rfl ?_
  exact wn_X6_nextBallot_65 C K M  lay σ x110 h
set_option maxHeartbeats 4000000 in
set_option maxRecDepth 100000 in
theorem wn_X6_nextBallot_30 {l : Launch} {p : Program} {e : Env} {s : State} {m : MethodId} {args : Array Value} {below : List Frame} {meth : Method} {c : Code} {g : GG} {A : Nat → Prop} (C : KX p m c cX6_nextBallot 4 s args RX6) (K : KC l g A s) (M : KM meth (some .int)) {σ' : RS} {r : Int32} {x1 : Int32}     (lay : Nat → Nat) (σ : RS) (w0 : Int32)  (h : B_X6_nextBallot_30 x1 σ w0 = some (σ', r)) : JJ p l e (rmk 0 0 0 0) s m args below meth c (MQ below (va_Qi (fun (r0 : Int32) (u : RS) => r0 = r ∧ u = σ') (BC (RH g A)) A) args s 0 0 A) A 4 (RH g A lay σ) 0 0 30 [(1, .int x1)] [.int w0] := by
  unfold B_X6_nextBallot_30 at h
  refine j_istore_n 31 C dX6_nextBallot_30 (lo' := [(2, .int w0), (1, .int x1)]) (by decide) rfl rfl ?_
  refine j_bipush 33 C dX6_nextBallot_31 bp_8 rfl ?_
  refine j_iload_n 34 C dX6_nextBallot_33 1 rfl rfl ?_
  refine j_iadd 35 C dX6_nextBallot_34 rfl ?_
  refine j_topi (fun x106 ex106 => ?_)
  replace h := lt_e h x106 ex106
  refine j_istore_n 36 C dX6_nextBallot_35 (lo' := [(3, .int x106), (2, .int w0), (1, .int x1)]) (by decide) rfl rfl ?_
  refine j_iload_n 37 C dX6_nextBallot_36 0 rfl rfl ?_
  refine j_iload_n 38 C dX6_nextBallot_37 1 rfl rfl ?_
  refine j_icmp_gt 41 65 C dX6_nextBallot_38 (by decide) rfl (fun hc107 => ?_) (fun hc107 => ?_)
  · replace h := it_t hc107 h
    refine j_sub [0] (lo' := [(3, .int x106)]) rfl ?_
    exact wn_X6_nextBallot_65 C K M  lay σ x106 h
  · replace h := it_f hc107 h
    refine j_iload_n 42 C dX6_nextBallot_41 1 rfl rfl ?_
    refine j_bipush 44 C dX6_nextBallot_42 bp_8 rfl ?_
    refine j_idiv 45 C dX6_nextBallot_44 (by decide) rfl ?_
    refine j_bipush 47 C dX6_nextBallot_45 bp_8 rfl ?_
    refine j_imul 48 C dX6_nextBallot_47 rfl ?_
    refine j_iload_n 49 C dX6_nextBallot_48 2 rfl rfl ?_
    refine j_iadd 50 C dX6_nextBallot_49 rfl ?_
    refine j_topi (fun x108 ex108 => ?_)
    replace h := lt_e h x108 ex108
    refine j_istore_n 51 C dX6_nextBallot_50 (lo' := [(3, .int x108), (2, .int w0), (1, .int x1)]) (by decide) rfl rfl ?_
    refine j_iload_n 52 C dX6_nextBallot_51 0 rfl rfl ?_
    refine j_iload_n 53 C dX6_nextBallot_52 0 rfl rfl ?_
    refine j_iload_n 54 C dX6_nextBallot_53 1 rfl rfl ?_
    refine j_icmp_gt 57 62 C dX6_nextBallot_54 (by decide) rfl (fun hc109 => ?_) (fun hc109 => ?_)
    · replace h := it_t hc109 h
      refine j_iconst 63 C dX6_nextBallot_62 ic_0 rfl ?_
      refine j_sub [] (lo' := []) rfl ?_
      exact wn_X6_nextBallot_63 C K M  lay σ (0 : Int32) x108 h
    · replace h := it_f hc109 h
      refine j_bipush 59 C dX6_nextBallot_57 bp_8 rfl ?_
      refine j_goto 63 C dX6_nextBallot_59 (by decide) ?_
      refine j_sub [] (lo' := []) rfl ?_
      exact wn_X6_nextBallot_63 C K M  lay σ (8 : Int32) x108 h
set_option maxHeartbeats 4000000 in
set_option maxRecDepth 100000 in
theorem c_X6_nextBallot {l : Launch} (hst : l.stackTraces = false) (g : GG) (A : Nat → Prop) (lay : Nat → Nat) {σ : RS} {σ' : RS} {r : Int32} {x1 : Int32}  (h : F_X6_nextBallot σ x1 = some (σ', r)) : MI l yX6_nextBallot cX6_nextBallot 4 .int 0 0 0 0 [.ref (gm g 0), .int x1] (RH g A) g A lay σ σ' r := by
  unfold F_X6_nextBallot at h
  refine e_i (own := RX6) (lo := [(0, .ref (gm g 0)), (1, .int x1)]) hst (plainFor_of_name (by decide)) rfl rfl (Nat.le_of_ble_eq_true rfl) ?_
  intro p e s m args below meth c C K M
  refine j_aload_n 1 C dX6_nextBallot_0 0 rfl rfl ?_
  refine g_M 4 C K 7 (by decide) mw_970 rfl dX6_nextBallot_1 rfl ?_
  refine j_iload_n 5 C dX6_nextBallot_4 1 rfl rfl ?_
  obtain ⟨hz101, h⟩ := gd_e h
  refine m_ild 6 C K ra_7 hz101 dX6_nextBallot_5 rfl ?_
  refine j_aload_n 7 C dX6_nextBallot_6 0 rfl rfl ?_
  refine g_M 10 C K 11 (by decide) mw_974 rfl dX6_nextBallot_7 rfl ?_
  refine j_iload_n 11 C dX6_nextBallot_10 1 rfl rfl ?_
  obtain ⟨hz102, h⟩ := gd_e h
  refine m_ild 12 C K ra_11 hz102 dX6_nextBallot_11 rfl ?_
  refine j_icmp_le 15 24 C dX6_nextBallot_12 (by decide) rfl (fun hc103 => ?_) (fun hc103 => ?_)
  · replace h := it_t hc103 h
    refine j_aload_n 25 C dX6_nextBallot_24 0 rfl rfl ?_
    refine g_M 28 C K 11 (by decide) mw_974 rfl dX6_nextBallot_25 rfl ?_
    refine j_iload_n 29 C dX6_nextBallot_28 1 rfl rfl ?_
    obtain ⟨hz104, h⟩ := gd_e h
    refine m_ild 30 C K ra_11 hz104 dX6_nextBallot_29 rfl ?_
    refine j_sub [1] (lo' := [(1, .int x1)]) rfl ?_
    exact wn_X6_nextBallot_30 C K M  lay σ (σ.1 11 (tn x1)) h
  · replace h := it_f hc103 h
    refine j_aload_n 16 C dX6_nextBallot_15 0 rfl rfl ?_
    refine g_M 19 C K 7 (by decide) mw_970 rfl dX6_nextBallot_16 rfl ?_
    refine j_iload_n 20 C dX6_nextBallot_19 1 rfl rfl ?_
    obtain ⟨hz105, h⟩ := gd_e h
    refine m_ild 21 C K ra_7 hz105 dX6_nextBallot_20 rfl ?_
    refine j_goto 30 C dX6_nextBallot_21 (by decide) ?_
    refine j_sub [1] (lo' := [(1, .int x1)]) rfl ?_
    exact wn_X6_nextBallot_30 C K M  lay σ (σ.1 7 (tn x1)) h
theorem cp_X6_gets : CPv yX6_gets cX6_gets 3 (some .boolean) RX6 2 := ⟨mw_1115, mw_51, mw_105, mw_1116, rfl, by decide, by decide, by decide +kernel⟩
set_option maxHeartbeats 4000000 in
set_option maxRecDepth 100000 in
theorem wn_X6_gets_31 {l : Launch} {p : Program} {e : Env} {s : State} {m : MethodId} {args : Array Value} {below : List Frame} {meth : Method} {c : Code} {g : GG} {A : Nat → Prop} (C : KX p m c cX6_gets 3 s args RX6) (K : KC l g A s) (M : KM meth (some .boolean)) {σ' : RS} {r : Int32} {x1 : Int32} {x2 : Int32}     (lay : Nat → Nat) (σ : RS)   (h : B_X6_gets_31 x1 x2 σ  = some (σ', r)) : JJ p l e (rmk 0 0 0 0) s m args below meth c (MQ below (va_Qi (fun (r0 : Int32) (u : RS) => r0 = r ∧ u = σ') (BC (RH g A)) A) args s 0 0 A) A 3 (RH g A lay σ) 0 0 31 [] [] := by
  unfold B_X6_gets_31 at h
  refine j_iconst 32 C dX6_gets_31 ic_0 rfl ?_
  cases h
  exact x_z C M dX6_gets_32 (by decide)
set_option maxHeartbeats 4000000 in
set_option maxRecDepth 100000 in
theorem c_X6_gets {l : Launch} (hst : l.stackTraces = false) (g : GG) (A : Nat → Prop) (lay : Nat → Nat) {σ : RS} {σ' : RS} {r : Int32} {x1 : Int32} {x2 : Int32}  (h : F_X6_gets σ x1 x2 = some (σ', r)) : MI l yX6_gets cX6_gets 3 .boolean 0 0 0 0 [.ref (gm g 0), .int x1, .int x2] (RH g A) g A lay σ σ' r := by
  unfold F_X6_gets at h
  refine e_i (own := RX6) (lo := [(0, .ref (gm g 0)), (1, .int x1), (2, .int x2)]) hst (plainFor_of_name (by decide)) rfl rfl (Nat.le_of_ble_eq_true rfl) ?_
  intro p e s m args below meth c C K M
  refine j_iload_n 1 C dX6_gets_0 2 rfl rfl ?_
  refine j_iload_n 2 C dX6_gets_1 1 rfl rfl ?_
  refine j_ishr 3 C dX6_gets_2 rfl ?_
  refine j_iconst 4 C dX6_gets_3 ic_1 rfl ?_
  refine j_iand 5 C dX6_gets_4 rfl ?_
  refine j_iconst 6 C dX6_gets_5 ic_1 rfl ?_
  refine j_icmp_ne 9 31 C dX6_gets_6 (by decide) rfl (fun hc101 => ?_) (fun hc101 => ?_)
  · replace h := it_f hc101 h
    refine j_sub [] (lo' := []) rfl ?_
    exact wn_X6_gets_31 C K M  lay σ  h
  · replace h := it_t hc101 h
    refine j_aload_n 10 C dX6_gets_9 0 rfl rfl ?_
    refine g_M 13 C K 4 (by decide) mw_967 rfl dX6_gets_10 rfl ?_
    refine j_iload_n 14 C dX6_gets_13 1 rfl rfl ?_
    obtain ⟨hz102, h⟩ := gd_e h
    refine m_zld 15 C K ra_4 hz102 dX6_gets_14 rfl ?_
    refine j_if_eq 18 31 C dX6_gets_15 (by decide) rfl (fun hc103 => ?_) (fun hc103 => ?_)
    · replace h := it_t hc103 h
      refine j_sub [] (lo' := []) rfl ?_
      exact wn_X6_gets_31 C K M  lay σ  h
    · replace h := it_f hc103 h
      refine j_aload_n 19 C dX6_gets_18 0 rfl rfl ?_
      refine g_M 22 C K 5 (by decide) mw_968 rfl dX6_gets_19 rfl ?_
      refine j_iload_n 23 C dX6_gets_22 1 rfl rfl ?_
      obtain ⟨hz104, h⟩ := gd_e h
      refine m_zld 24 C K ra_5 hz104 dX6_gets_23 rfl ?_
      refine j_if_eq 27 31 C dX6_gets_24 (by decide) rfl (fun hc105 => ?_) (fun hc105 => ?_)
      · replace h := it_t hc105 h
        refine j_sub [] (lo' := []) rfl ?_
        exact wn_X6_gets_31 C K M  lay σ  h
      · replace h := it_f hc105 h
        refine j_iconst 28 C dX6_gets_27 ic_1 rfl ?_
        refine j_goto 32 C dX6_gets_28 (by decide) ?_
        cases h
        exact x_z C M dX6_gets_32 (by decide)
theorem cp_X6_begin : CPv yX6_begin cX6_begin 4 (some .int) RX6 2 := ⟨mw_1075, mw_1076, mw_105, mw_1077, rfl, by decide, by decide, by decide +kernel⟩
set_option maxHeartbeats 4000000 in
set_option maxRecDepth 100000 in
theorem wn_X6_begin_25 {l : Launch} {p : Program} {e : Env} {s : State} {m : MethodId} {args : Array Value} {below : List Frame} {meth : Method} {c : Code} {g : GG} {A : Nat → Prop} (C : KX p m c cX6_begin 4 s args RX6) (K : KC l g A s) (M : KM meth (some .int)) {σ' : RS} {r : Int32} {x1 : Int32} {x2 : Int32}     (lay : Nat → Nat) (σ : RS) (w0 : Int32)  (h : B_X6_begin_25 x1 x2 σ w0 = some (σ', r)) : JJ p l e (rmk 4 88 0 0) s m args below meth c (MQ below (va_Qi (fun (r0 : Int32) (u : RS) => r0 = r ∧ u = σ') (BC (RH g A)) A) args s 0 0 A) A 4 (RH g A lay σ) 0 0 25 [(0, .ref (gm g 0)), (1, .int x1), (2, .int x2)] [.int w0, .ref (gm g 0)] := by
  unfold B_X6_begin_25 at h
  refine p_M 28 C K 0 (by decide) rs_0 rfl mw_963 rfl rfl dX6_begin_25 rfl (fun σ107 eσ107 => ?_)
  replace h := lt_e h σ107 eσ107
  refine j_aload_n 29 C dX6_begin_28 0 rfl rfl ?_
  refine g_M 32 C K 0 (by decide) mw_963 rfl dX6_begin_29 rfl ?_
  refine j_if_le 35 37 C dX6_begin_32 (by decide) rfl (fun hc108 => ?_) (fun hc108 => ?_)
  · replace h := it_t hc108 h
    refine j_aload_n 38 C dX6_begin_37 0 rfl rfl ?_
    refine g_M 41 C K 1 (by decide) mw_964 rfl dX6_begin_38 rfl ?_
    refine j_topi (fun x109 ex109 => ?_)
    replace h := lt_e h x109 ex109
    refine j_istore_n 42 C dX6_begin_41 (lo' := [(3, .int x109), (0, .ref (gm g 0)), (1, .int x1), (2, .int x2)]) (by decide) rfl rfl ?_
    refine j_aload_n 43 C dX6_begin_42 1 rfl rfl ?_
    refine j_iload_n 44 C dX6_begin_43 2 rfl rfl ?_
    refine j_iload_n 45 C dX6_begin_44 3 rfl rfl ?_
    obtain ⟨σ110, u111, hF, h⟩ := bd_e h
    refine k_Vv 48 C K (c_X6_fresh K.2.2.2 g A lay  hF) cp_X6_fresh (rv_M) mw_948 dX6_begin_45 rfl rfl (Nat.le_of_ble_eq_true rfl) ⟨Nat.le_of_ble_eq_true rfl, Nat.le_of_ble_eq_true rfl⟩ ⟨Nat.le_of_ble_eq_true rfl, Nat.le_of_ble_eq_true rfl⟩ rfl (fun lay => ?_)
    refine j_iload_n 49 C dX6_begin_48 0 rfl rfl ?_
    cases h
    exact x_i C M dX6_begin_49
  · replace h := it_f hc108 h
    refine j_iconst 36 C dX6_begin_35 ic_0 rfl ?_
    cases h
    exact x_i C M dX6_begin_36
set_option maxHeartbeats 4000000 in
set_option maxRecDepth 100000 in
theorem wn_X6_begin_24 {l : Launch} {p : Program} {e : Env} {s : State} {m : MethodId} {args : Array Value} {below : List Frame} {meth : Method} {c : Code} {g : GG} {A : Nat → Prop} (C : KX p m c cX6_begin 4 s args RX6) (K : KC l g A s) (M : KM meth (some .int)) {σ' : RS} {r : Int32} {x1 : Int32} {x2 : Int32}     (lay : Nat → Nat) (σ : RS)   (h : B_X6_begin_24 x1 x2 σ  = some (σ', r)) : JJ p l e (rmk 4 88 0 0) s m args below meth c (MQ below (va_Qi (fun (r0 : Int32) (u : RS) => r0 = r ∧ u = σ') (BC (RH g A)) A) args s 0 0 A) A 4 (RH g A lay σ) 0 0 24 [(0, .ref (gm g 0)), (1, .int x1), (2, .int x2)] [.ref (gm g 0)] := by
  unfold B_X6_begin_24 at h
  refine j_iconst 25 C dX6_begin_24 ic_1 rfl ?_
  exact wn_X6_begin_25 C K M  lay σ (1 : Int32) h
set_option maxHeartbeats 4000000 in
set_option maxRecDepth 100000 in
theorem c_X6_begin {l : Launch} (hst : l.stackTraces = false) (g : GG) (A : Nat → Prop) (lay : Nat → Nat) {σ : RS} {σ' : RS} {r : Int32} {x1 : Int32} {x2 : Int32}  (h : F_X6_begin σ x1 x2 = some (σ', r)) : MI l yX6_begin cX6_begin 4 .int 4 88 0 0 [.ref (gm g 0), .int x1, .int x2] (RH g A) g A lay σ σ' r := by
  unfold F_X6_begin at h
  refine e_i (own := RX6) (lo := [(0, .ref (gm g 0)), (1, .int x1), (2, .int x2)]) hst (plainFor_of_name (by decide)) rfl rfl (Nat.le_of_ble_eq_true rfl) ?_
  intro p e s m args below meth c C K M
  refine j_aload_n 1 C dX6_begin_0 0 rfl rfl ?_
  refine j_iload_n 2 C dX6_begin_1 1 rfl rfl ?_
  refine j_iconst 3 C dX6_begin_2 ic_3 rfl ?_
  refine j_bipush 5 C dX6_begin_3 bp_7 rfl ?_
  obtain ⟨σ101, r102, hF, h⟩ := bd_e h
  refine k_Si 8 C K (c_X6_within K.2.2.2 g A lay  hF) cp_X6_within mw_1078 dX6_begin_5 rfl rfl (Nat.le_of_ble_eq_true rfl) ⟨Nat.le_of_ble_eq_true rfl, Nat.le_of_ble_eq_true rfl⟩ ⟨Nat.le_of_ble_eq_true rfl, Nat.le_of_ble_eq_true rfl⟩ rfl (fun lay => ?_)
  refine j_if_eq 11 24 C dX6_begin_8 (by decide) rfl (fun hc103 => ?_) (fun hc103 => ?_)
  · replace h := it_t hc103 h
    exact wn_X6_begin_24 C K M  lay σ101  h
  · replace h := it_f hc103 h
    refine j_iload_n 12 C dX6_begin_11 2 rfl rfl ?_
    refine j_iconst 13 C dX6_begin_12 ic_1 rfl ?_
    refine j_iconst 14 C dX6_begin_13 ic_4 rfl ?_
    obtain ⟨σ104, r105, hF, h⟩ := bd_e h
    refine k_Si 17 C K (c_X6_within K.2.2.2 g A lay  hF) cp_X6_within mw_1078 dX6_begin_14 rfl rfl (Nat.le_of_ble_eq_true rfl) ⟨Nat.le_of_ble_eq_true rfl, Nat.le_of_ble_eq_true rfl⟩ ⟨Nat.le_of_ble_eq_true rfl, Nat.le_of_ble_eq_true rfl⟩ rfl (fun lay => ?_)
    refine j_if_eq 20 24 C dX6_begin_17 (by decide) rfl (fun hc106 => ?_) (fun hc106 => ?_)
    · replace h := it_t hc106 h
      exact wn_X6_begin_24 C K M  lay σ104  h
    · replace h := it_f hc106 h
      refine j_iconst 21 C dX6_begin_20 ic_0 rfl ?_
      refine j_goto 25 C dX6_begin_21 (by decide) ?_
      exact wn_X6_begin_25 C K M  lay σ104 (0 : Int32) h
theorem cp_X6_setBarriers : CPv yX6_setBarriers cX6_setBarriers 3 (some .int) RX6 1 := ⟨mw_1082, mw_1083, mw_105, mw_1084, rfl, by decide, by decide, by decide +kernel⟩
set_option maxHeartbeats 4000000 in
set_option maxRecDepth 100000 in
theorem wn_X6_setBarriers_17 {l : Launch} {p : Program} {e : Env} {s : State} {m : MethodId} {args : Array Value} {below : List Frame} {meth : Method} {c : Code} {g : GG} {A : Nat → Prop} (C : KX p m c cX6_setBarriers 3 s args RX6) (K : KC l g A s) (M : KM meth (some .int)) {σ' : RS} {r : Int32} {x1 : Int32}     (lay : Nat → Nat) (σ : RS) (w0 : Int32)  (h : B_X6_setBarriers_17 x1 σ w0 = some (σ', r)) : JJ p l e (rmk 0 0 0 0) s m args below meth c (MQ below (va_Qi (fun (r0 : Int32) (u : RS) => r0 = r ∧ u = σ') (BC (RH g A)) A) args s 0 0 A) A 3 (RH g A lay σ) 0 0 17 [(0, .ref (gm g 0)), (1, .int x1)] [.int w0] := by
  unfold B_X6_setBarriers_17 at h
  refine j_istore_n 18 C dX6_setBarriers_17 (lo' := [(2, .int w0), (0, .ref (gm g 0)), (1, .int x1)]) (by decide) rfl rfl ?_
  refine j_aload_n 19 C dX6_setBarriers_18 1 rfl rfl ?_
  refine j_iload_n 20 C dX6_setBarriers_19 2 rfl rfl ?_
  obtain ⟨hz104, h⟩ := gd_e h
  refine p_M 23 C K 3 (by decide) rs_3 rfl mw_966 (isb_n hz104) (isb_f hz104) dX6_setBarriers_20 rfl (fun σ103 eσ103 => ?_)
  replace h := lt_e h σ103 eσ103
  refine j_iload_n 24 C dX6_setBarriers_23 0 rfl rfl ?_
  cases h
  exact x_i C M dX6_setBarriers_24
set_option maxHeartbeats 4000000 in
set_option maxRecDepth 100000 in
theorem c_X6_setBarriers {l : Launch} (hst : l.stackTraces = false) (g : GG) (A : Nat → Prop) (lay : Nat → Nat) {σ : RS} {σ' : RS} {r : Int32} {x1 : Int32}  (h : F_X6_setBarriers σ x1 = some (σ', r)) : MI l yX6_setBarriers cX6_setBarriers 3 .int 0 0 0 0 [.ref (gm g 0), .int x1] (RH g A) g A lay σ σ' r := by
  unfold F_X6_setBarriers at h
  refine e_i (own := RX6) (lo := [(0, .ref (gm g 0)), (1, .int x1)]) hst (plainFor_of_name (by decide)) rfl rfl (Nat.le_of_ble_eq_true rfl) ?_
  intro p e s m args below meth c C K M
  refine j_aload_n 1 C dX6_setBarriers_0 0 rfl rfl ?_
  refine j_iconst 2 C dX6_setBarriers_1 ic_0 rfl ?_
  refine p_M 5 C K 0 (by decide) rs_0 rfl mw_963 rfl rfl dX6_setBarriers_2 rfl (fun σ101 eσ101 => ?_)
  replace h := lt_e h σ101 eσ101
  refine j_aload_n 6 C dX6_setBarriers_5 0 rfl rfl ?_
  refine g_M 9 C K 3 (by decide) mw_966 rfl dX6_setBarriers_6 rfl ?_
  refine j_if_eq 12 16 C dX6_setBarriers_9 (by decide) rfl (fun hc102 => ?_) (fun hc102 => ?_)
  · replace h := it_t hc102 h
    refine j_iconst 17 C dX6_setBarriers_16 ic_0 rfl ?_
    exact wn_X6_setBarriers_17 C K M  lay σ101 (0 : Int32) h
  · replace h := it_f hc102 h
    refine j_iconst 13 C dX6_setBarriers_12 ic_1 rfl ?_
    refine j_goto 17 C dX6_setBarriers_13 (by decide) ?_
    exact wn_X6_setBarriers_17 C K M  lay σ101 (1 : Int32) h
theorem cp_X6_hear : CPv yX6_hear cX6_hear 4 none RX6 2 := ⟨mw_1123, mw_53, mw_105, mw_1124, rfl, by decide, by decide, by decide +kernel⟩
set_option maxHeartbeats 4000000 in
set_option maxRecDepth 100000 in
theorem wn_X6_hear_65 {l : Launch} {p : Program} {e : Env} {s : State} {m : MethodId} {args : Array Value} {below : List Frame} {meth : Method} {c : Code} {g : GG} {A : Nat → Prop} (C : KX p m c cX6_hear 4 s args RX6) (K : KC l g A s) (M : KM meth none) {σ' : RS} {r : Unit} {x1 : Int32} {x2 : Int32}   {self2 : RS → Int32 → Option (RS × Unit)} (ih2 : ∀ (lay : Nat → Nat) (σ : RS) (v3 : Int32), self2 σ v3 = some (σ', r) → JJ p l e (rmk 1 21 0 0) s m args below meth c (MQ below (va_Qv (fun u : RS => u = σ') (BC (RH g A)) A) args s 0 0 A) A 4 (RH g A lay σ) 0 0 2 [(0, .ref (gm g 0)), (1, .int x1), (2, .int x2), (3, .int v3)] []) (lay : Nat → Nat) (σ : RS) (v3 : Int32)  (h : B_X6_hear_65 x1 x2 self2 σ v3 = some (σ', r)) : JJ p l e (rmk 1 21 0 0) s m args below meth c (MQ below (va_Qv (fun u : RS => u = σ') (BC (RH g A)) A) args s 0 0 A) A 4 (RH g A lay σ) 0 0 65 [(0, .ref (gm g 0)), (1, .int x1), (2, .int x2), (3, .int v3)] [] := by
  unfold B_X6_hear_65 at h
  obtain ⟨x119, ex119⟩ : ∃ z : Int32, z = v3 + 1 := ⟨_, rfl⟩
  replace h := lt_e h x119 ex119
  refine j_iinc 68 C dX6_hear_65 3 rfl (v := x119) ((ii_1 _).trans ex119.symm) (lo' := [(3, .int x119), (0, .ref (gm g 0)), (1, .int x1), (2, .int x2)]) (by decide) rfl rfl ?_
  refine j_goto 2 C dX6_hear_68 (by decide) ?_
  refine j_sub [1, 2, 3, 0] (lo' := [(0, .ref (gm g 0)), (1, .int x1), (2, .int x2), (3, .int x119)]) rfl ?_
  exact ih2 lay σ x119 h
set_option maxHeartbeats 4000000 in
set_option maxRecDepth 100000 in
theorem wn_X6_hear_2 {l : Launch} {p : Program} {e : Env} {s : State} {m : MethodId} {args : Array Value} {below : List Frame} {meth : Method} {c : Code} {g : GG} {A : Nat → Prop} (C : KX p m c cX6_hear 4 s args RX6) (K : KC l g A s) (M : KM meth none) {σ' : RS} {r : Unit} {x1 : Int32} {x2 : Int32}     : ∀ (fu : Nat) (lay : Nat → Nat) (σ : RS) (v3 : Int32), B_X6_hear_2 x1 x2 fu σ v3 = some (σ', r) → JJ p l e (rmk 1 21 0 0) s m args below meth c (MQ below (va_Qv (fun u : RS => u = σ') (BC (RH g A)) A) args s 0 0 A) A 4 (RH g A lay σ) 0 0 2 [(0, .ref (gm g 0)), (1, .int x1), (2, .int x2), (3, .int v3)] [] := by
  intro fu
  induction fu with
  | zero =>
    intro lay σ v3 h
    exact nomatch (show (none : Option _) = some _ from h)
  | succ fu ih2 =>
    intro lay σ v3 h
    unfold B_X6_hear_2 at h
    rw [lo2_s] at h
    refine j_iload_n 3 C dX6_hear_2 3 rfl rfl ?_
    refine j_aload_n 4 C dX6_hear_3 0 rfl rfl ?_
    refine g_M 7 C K 2 (by decide) mw_965 rfl dX6_hear_4 rfl ?_
    refine j_icmp_ge 10 71 C dX6_hear_7 (by decide) rfl (fun hc101 => ?_) (fun hc101 => ?_)
    · replace h := it_t hc101 h
      cases h
      exact x_v C M dX6_hear_71
    · replace h := it_f hc101 h
      refine j_aload_n 11 C dX6_hear_10 0 rfl rfl ?_
      refine g_M 14 C K 12 (by decide) mw_975 rfl dX6_hear_11 rfl ?_
      refine j_iload_n 15 C dX6_hear_14 2 rfl rfl ?_
      refine j_iload_n 16 C dX6_hear_15 3 rfl rfl ?_
      obtain ⟨σ102, r103, hF, h⟩ := bd_e h
      refine k_Si 19 C K (c_X6_at K.2.2.2 g A lay  hF) cp_X6_at mw_956 dX6_hear_16 rfl rfl (Nat.le_of_ble_eq_true rfl) ⟨Nat.le_of_ble_eq_true rfl, Nat.le_of_ble_eq_true rfl⟩ ⟨Nat.le_of_ble_eq_true rfl, Nat.le_of_ble_eq_true rfl⟩ rfl (fun lay => ?_)
      obtain ⟨hz104, h⟩ := gd_e h
      refine m_ild 20 C K ra_12 hz104 dX6_hear_19 rfl ?_
      refine j_aload_n 21 C dX6_hear_20 0 rfl rfl ?_
      refine g_M 24 C K 29 (by decide) mw_992 rfl dX6_hear_21 rfl ?_
      refine j_iload_n 25 C dX6_hear_24 3 rfl rfl ?_
      obtain ⟨hz105, h⟩ := gd_e h
      refine m_ild 26 C K ra_29 hz105 dX6_hear_25 rfl ?_
      refine j_icmp_le 29 65 C dX6_hear_26 (by decide) rfl (fun hc106 => ?_) (fun hc106 => ?_)
      · replace h := it_t hc106 h
        exact wn_X6_hear_65 C K M ih2 lay σ102 v3 h
      · replace h := it_f hc106 h
        refine j_aload_n 30 C dX6_hear_29 0 rfl rfl ?_
        refine g_M 33 C K 29 (by decide) mw_992 rfl dX6_hear_30 rfl ?_
        refine j_iload_n 34 C dX6_hear_33 3 rfl rfl ?_
        refine j_aload_n 35 C dX6_hear_34 0 rfl rfl ?_
        refine g_M 38 C K 12 (by decide) mw_975 rfl dX6_hear_35 rfl ?_
        refine j_iload_n 39 C dX6_hear_38 2 rfl rfl ?_
        refine j_iload_n 40 C dX6_hear_39 3 rfl rfl ?_
        obtain ⟨σ107, r108, hF, h⟩ := bd_e h
        refine k_Si 43 C K (c_X6_at K.2.2.2 g A lay  hF) cp_X6_at mw_956 dX6_hear_40 rfl rfl (Nat.le_of_ble_eq_true rfl) ⟨Nat.le_of_ble_eq_true rfl, Nat.le_of_ble_eq_true rfl⟩ ⟨Nat.le_of_ble_eq_true rfl, Nat.le_of_ble_eq_true rfl⟩ rfl (fun lay => ?_)
        obtain ⟨hz109, h⟩ := gd_e h
        refine m_ild 44 C K ra_12 hz109 dX6_hear_43 rfl ?_
        obtain ⟨hz110, h⟩ := gd_e h
        refine m_ist 45 C K ra_29 hz110 dX6_hear_44 rfl (fun σ111 eσ111 => ?_)
        replace h := lt_e h σ111 eσ111
        refine j_aload_n 46 C dX6_hear_45 0 rfl rfl ?_
        refine g_M 49 C K 19 (by decide) mw_982 rfl dX6_hear_46 rfl ?_
        refine j_iload_n 50 C dX6_hear_49 1 rfl rfl ?_
        refine j_iload_n 51 C dX6_hear_50 3 rfl rfl ?_
        obtain ⟨σ112, r113, hF, h⟩ := bd_e h
        refine k_Si 54 C K (c_X6_at K.2.2.2 g A lay  hF) cp_X6_at mw_956 dX6_hear_51 rfl rfl (Nat.le_of_ble_eq_true rfl) ⟨Nat.le_of_ble_eq_true rfl, Nat.le_of_ble_eq_true rfl⟩ ⟨Nat.le_of_ble_eq_true rfl, Nat.le_of_ble_eq_true rfl⟩ rfl (fun lay => ?_)
        refine j_aload_n 55 C dX6_hear_54 0 rfl rfl ?_
        refine g_M 58 C K 13 (by decide) mw_976 rfl dX6_hear_55 rfl ?_
        refine j_iload_n 59 C dX6_hear_58 2 rfl rfl ?_
        refine j_iload_n 60 C dX6_hear_59 3 rfl rfl ?_
        obtain ⟨σ114, r115, hF, h⟩ := bd_e h
        refine k_Si 63 C K (c_X6_at K.2.2.2 g A lay  hF) cp_X6_at mw_956 dX6_hear_60 rfl rfl (Nat.le_of_ble_eq_true rfl) ⟨Nat.le_of_ble_eq_true rfl, Nat.le_of_ble_eq_true rfl⟩ ⟨Nat.le_of_ble_eq_true rfl, Nat.le_of_ble_eq_true rfl⟩ rfl (fun lay => ?_)
        obtain ⟨hz116, h⟩ := gd_e h
        refine m_ild 64 C K ra_13 hz116 dX6_hear_63 rfl ?_
        obtain ⟨hz117, h⟩ := gd_e h
        refine m_ist 65 C K ra_19 hz117 dX6_hear_64 rfl (fun σ118 eσ118 => ?_)
        replace h := lt_e h σ118 eσ118
        exact wn_X6_hear_65 C K M ih2 lay σ118 v3 h
set_option maxHeartbeats 4000000 in
set_option maxRecDepth 100000 in
theorem c_X6_hear {l : Launch} (hst : l.stackTraces = false) (g : GG) (A : Nat → Prop) (lay : Nat → Nat) {σ : RS} {σ' : RS} {r : Unit} {x1 : Int32} {x2 : Int32}  (h : F_X6_hear σ x1 x2 = some (σ', r)) : MV l yX6_hear cX6_hear 4 1 21 0 0 [.ref (gm g 0), .int x1, .int x2] (RH g A) g A lay σ σ' := by
  unfold F_X6_hear at h
  refine e_v (own := RX6) (lo := [(0, .ref (gm g 0)), (1, .int x1), (2, .int x2)]) hst (plainFor_of_name (by decide)) rfl rfl (Nat.le_of_ble_eq_true rfl) ?_
  intro p e s m args below meth c C K M
  refine j_iconst 1 C dX6_hear_0 ic_0 rfl ?_
  refine j_istore_n 2 C dX6_hear_1 (lo' := [(3, .int (0 : Int32)), (0, .ref (gm g 0)), (1, .int x1), (2, .int x2)]) (by decide) rfl rfl ?_
  refine j_sub [1, 2, 3, 0] (lo' := [(0, .ref (gm g 0)), (1, .int x1), (2, .int x2), (3, .int (0 : Int32))]) rfl ?_
  exact wn_X6_hear_2 C K M  4096 lay σ (0 : Int32) h
theorem cp_X6_doPrepare : CPv yX6_doPrepare cX6_doPrepare 7 (some .int) RX6 2 := ⟨mw_1103, mw_48, mw_105, mw_1104, rfl, by decide, by decide, by decide +kernel⟩
set_option maxHeartbeats 4000000 in
set_option maxRecDepth 100000 in
theorem wn_X6_doPrepare_194 {l : Launch} {p : Program} {e : Env} {s : State} {m : MethodId} {args : Array Value} {below : List Frame} {meth : Method} {c : Code} {g : GG} {A : Nat → Prop} (C : KX p m c cX6_doPrepare 7 s args RX6) (K : KC l g A s) (M : KM meth (some .int)) {σ' : RS} {r : Int32} {x1 : Int32} {x2 : Int32}     (lay : Nat → Nat) (σ : RS) (v4 : Int32) (w0 : Int32) (w1 : Int32)  (h : B_X6_doPrepare_194 x1 x2 σ v4 w0 w1 = some (σ', r)) : JJ p l e (rmk 2 46 0 0) s m args below meth c (MQ below (va_Qi (fun (r0 : Int32) (u : RS) => r0 = r ∧ u = σ') (BC (RH g A)) A) args s 0 0 A) A 7 (RH g A lay σ) 0 0 194 [(4, .int v4)] [.int w0, .int w1, .ref (gm g 15)] := by
  unfold B_X6_doPrepare_194 at h
  obtain ⟨hz124, h⟩ := gd_e h
  refine m_ist 195 C K ra_18 hz124 dX6_doPrepare_194 rfl (fun σ125 eσ125 => ?_)
  replace h := lt_e h σ125 eσ125
  refine j_iload 197 C dX6_doPrepare_195 0 rfl rfl ?_
  cases h
  exact x_i C M dX6_doPrepare_197
set_option maxHeartbeats 4000000 in
set_option maxRecDepth 100000 in
theorem wn_X6_doPrepare_169 {l : Launch} {p : Program} {e : Env} {s : State} {m : MethodId} {args : Array Value} {below : List Frame} {meth : Method} {c : Code} {g : GG} {A : Nat → Prop} (C : KX p m c cX6_doPrepare 7 s args RX6) (K : KC l g A s) (M : KM meth (some .int)) {σ' : RS} {r : Int32} {x1 : Int32} {x2 : Int32}   {self60 : RS → Int32 → Int32 → Int32 → Option (RS × Int32)} (ih60 : ∀ (lay : Nat → Nat) (σ : RS) (v3 : Int32) (v4 : Int32) (v5 : Int32), self60 σ v3 v4 v5 = some (σ', r) → JJ p l e (rmk 2 46 0 0) s m args below meth c (MQ below (va_Qi (fun (r0 : Int32) (u : RS) => r0 = r ∧ u = σ') (BC (RH g A)) A) args s 0 0 A) A 7 (RH g A lay σ) 0 0 60 [(0, .ref (gm g 0)), (1, .int x1), (2, .int x2), (3, .int v3), (4, .int v4), (5, .int v5)] []) (lay : Nat → Nat) (σ : RS) (v3 : Int32) (v4 : Int32) (v5 : Int32)  (h : B_X6_doPrepare_169 x1 x2 self60 σ v3 v4 v5 = some (σ', r)) : JJ p l e (rmk 2 46 0 0) s m args below meth c (MQ below (va_Qi (fun (r0 : Int32) (u : RS) => r0 = r ∧ u = σ') (BC (RH g A)) A) args s 0 0 A) A 7 (RH g A lay σ) 0 0 169 [(0, .ref (gm g 0)), (1, .int x1), (2, .int x2), (3, .int v3), (4, .int v4), (5, .int v5)] [] := by
  unfold B_X6_doPrepare_169 at h
  obtain ⟨x126, ex126⟩ : ∃ z : Int32, z = v5 + 1 := ⟨_, rfl⟩
  replace h := lt_e h x126 ex126
  refine j_iinc 172 C dX6_doPrepare_169 5 rfl (v := x126) ((ii_1 _).trans ex126.symm) (lo' := [(5, .int x126), (0, .ref (gm g 0)), (1, .int x1), (2, .int x2), (3, .int v3), (4, .int v4)]) (by decide) rfl rfl ?_
  refine j_goto 60 C dX6_doPrepare_172 (by decide) ?_
  refine j_sub [1, 2, 3, 4, 5, 0] (lo' := [(0, .ref (gm g 0)), (1, .int x1), (2, .int x2), (3, .int v3), (4, .int v4), (5, .int x126)]) rfl ?_
  exact ih60 lay σ v3 v4 x126 h
set_option maxHeartbeats 4000000 in
set_option maxRecDepth 100000 in
theorem wn_X6_doPrepare_156 {l : Launch} {p : Program} {e : Env} {s : State} {m : MethodId} {args : Array Value} {below : List Frame} {meth : Method} {c : Code} {g : GG} {A : Nat → Prop} (C : KX p m c cX6_doPrepare 7 s args RX6) (K : KC l g A s) (M : KM meth (some .int)) {σ' : RS} {r : Int32} {x1 : Int32} {x2 : Int32}   {self60 : RS → Int32 → Int32 → Int32 → Option (RS × Int32)} (ih60 : ∀ (lay : Nat → Nat) (σ : RS) (v3 : Int32) (v4 : Int32) (v5 : Int32), self60 σ v3 v4 v5 = some (σ', r) → JJ p l e (rmk 2 46 0 0) s m args below meth c (MQ below (va_Qi (fun (r0 : Int32) (u : RS) => r0 = r ∧ u = σ') (BC (RH g A)) A) args s 0 0 A) A 7 (RH g A lay σ) 0 0 60 [(0, .ref (gm g 0)), (1, .int x1), (2, .int x2), (3, .int v3), (4, .int v4), (5, .int v5)] []) (lay : Nat → Nat) (σ : RS) (v3 : Int32) (v4 : Int32) (v5 : Int32)  (h : B_X6_doPrepare_156 x1 x2 self60 σ v3 v4 v5 = some (σ', r)) : JJ p l e (rmk 2 46 0 0) s m args below meth c (MQ below (va_Qi (fun (r0 : Int32) (u : RS) => r0 = r ∧ u = σ') (BC (RH g A)) A) args s 0 0 A) A 7 (RH g A lay σ) 0 0 156 [(0, .ref (gm g 0)), (1, .int x1), (2, .int x2), (3, .int v3), (4, .int v4), (5, .int v5)] [] := by
  unfold B_X6_doPrepare_156 at h
  refine j_aload_n 157 C dX6_doPrepare_156 0 rfl rfl ?_
  refine g_M 160 C K 3 (by decide) mw_966 rfl dX6_doPrepare_157 rfl ?_
  refine j_if_eq 163 169 C dX6_doPrepare_160 (by decide) rfl (fun hc138 => ?_) (fun hc138 => ?_)
  · replace h := it_t hc138 h
    exact wn_X6_doPrepare_169 C K M ih60 lay σ v3 v4 v5 h
  · replace h := it_f hc138 h
    refine j_aload_n 164 C dX6_doPrepare_163 0 rfl rfl ?_
    refine j_iload 166 C dX6_doPrepare_164 5 rfl rfl ?_
    obtain ⟨σ139, u140, hF, h⟩ := bd_e h
    refine k_Vv 169 C K (c_X6_flush K.2.2.2 g A lay  hF) cp_X6_flush (rv_M) mw_1125 dX6_doPrepare_166 rfl rfl (Nat.le_of_ble_eq_true rfl) ⟨Nat.le_of_ble_eq_true rfl, Nat.le_of_ble_eq_true rfl⟩ ⟨Nat.le_of_ble_eq_true rfl, Nat.le_of_ble_eq_true rfl⟩ rfl (fun lay => ?_)
    exact wn_X6_doPrepare_169 C K M ih60 lay σ139 v3 v4 v5 h
set_option maxHeartbeats 4000000 in
set_option maxRecDepth 100000 in
theorem wn_X6_doPrepare_95 {l : Launch} {p : Program} {e : Env} {s : State} {m : MethodId} {args : Array Value} {below : List Frame} {meth : Method} {c : Code} {g : GG} {A : Nat → Prop} (C : KX p m c cX6_doPrepare 7 s args RX6) (K : KC l g A s) (M : KM meth (some .int)) {σ' : RS} {r : Int32} {x1 : Int32} {x2 : Int32}   {self60 : RS → Int32 → Int32 → Int32 → Option (RS × Int32)} (ih60 : ∀ (lay : Nat → Nat) (σ : RS) (v3 : Int32) (v4 : Int32) (v5 : Int32), self60 σ v3 v4 v5 = some (σ', r) → JJ p l e (rmk 2 46 0 0) s m args below meth c (MQ below (va_Qi (fun (r0 : Int32) (u : RS) => r0 = r ∧ u = σ') (BC (RH g A)) A) args s 0 0 A) A 7 (RH g A lay σ) 0 0 60 [(0, .ref (gm g 0)), (1, .int x1), (2, .int x2), (3, .int v3), (4, .int v4), (5, .int v5)] []) (lay : Nat → Nat) (σ : RS) (v3 : Int32) (v4 : Int32) (v5 : Int32) (w0 : Int32)  (h : B_X6_doPrepare_95 x1 x2 self60 σ v3 v4 v5 w0 = some (σ', r)) : JJ p l e (rmk 2 46 0 0) s m args below meth c (MQ below (va_Qi (fun (r0 : Int32) (u : RS) => r0 = r ∧ u = σ') (BC (RH g A)) A) args s 0 0 A) A 7 (RH g A lay σ) 0 0 95 [(0, .ref (gm g 0)), (1, .int x1), (2, .int x2), (3, .int v3), (4, .int v4), (5, .int v5)] [.int w0] := by
  unfold B_X6_doPrepare_95 at h
  refine j_istore 97 C dX6_doPrepare_95 (lo' := [(6, .int w0), (0, .ref (gm g 0)), (1, .int x1), (2, .int x2), (3, .int v3), (4, .int v4), (5, .int v5)]) (by decide) rfl rfl ?_
  refine j_aload_n 98 C dX6_doPrepare_97 1 rfl rfl ?_
  refine j_dup 99 C dX6_doPrepare_98 rfl rfl ?_
  refine g_M 102 C K 24 (by decide) mw_987 rfl dX6_doPrepare_99 rfl ?_
  refine j_iconst 103 C dX6_doPrepare_102 ic_1 rfl ?_
  refine j_iadd 104 C dX6_doPrepare_103 rfl ?_
  refine p_M 107 C K 24 (by decide) rs_24 rfl mw_987 rfl rfl dX6_doPrepare_104 rfl (fun σ127 eσ127 => ?_)
  replace h := lt_e h σ127 eσ127
  refine j_iload 109 C dX6_doPrepare_107 0 rfl rfl ?_
  refine j_if_eq 112 144 C dX6_doPrepare_109 (by decide) rfl (fun hc128 => ?_) (fun hc128 => ?_)
  · replace h := it_t hc128 h
    refine j_aload_n 145 C dX6_doPrepare_144 1 rfl rfl ?_
    refine j_iload_n 146 C dX6_doPrepare_145 2 rfl rfl ?_
    refine j_aload_n 147 C dX6_doPrepare_146 1 rfl rfl ?_
    refine g_M 150 C K 11 (by decide) mw_974 rfl dX6_doPrepare_147 rfl ?_
    refine j_iload 152 C dX6_doPrepare_150 6 rfl rfl ?_
    obtain ⟨hz129, h⟩ := gd_e h
    refine m_ild 153 C K ra_11 hz129 dX6_doPrepare_152 rfl ?_
    obtain ⟨σ130, u131, hF, h⟩ := bd_e h
    refine k_Vv 156 C K (c_X6_tell K.2.2.2 g A lay  hF) cp_X6_tell (rv_M) mw_1109 dX6_doPrepare_153 rfl rfl (Nat.le_of_ble_eq_true rfl) ⟨Nat.le_of_ble_eq_true rfl, Nat.le_of_ble_eq_true rfl⟩ ⟨Nat.le_of_ble_eq_true rfl, Nat.le_of_ble_eq_true rfl⟩ rfl (fun lay => ?_)
    refine j_sub [1, 2, 3, 4, 5, 6] (lo' := [(0, .ref (gm g 0)), (1, .int x1), (2, .int x2), (3, .int v3), (4, .int v4), (5, .int v5)]) rfl ?_
    exact wn_X6_doPrepare_156 C K M ih60 lay σ130 v3 v4 v5 h
  · replace h := it_f hc128 h
    refine j_aload_n 113 C dX6_doPrepare_112 1 rfl rfl ?_
    refine j_iload 115 C dX6_doPrepare_113 6 rfl rfl ?_
    refine j_iconst 116 C dX6_doPrepare_115 ic_m1 rfl ?_
    refine j_iload_n 117 C dX6_doPrepare_116 4 rfl rfl ?_
    refine j_iconst 118 C dX6_doPrepare_117 ic_m1 rfl ?_
    obtain ⟨σ132, u133, hF, h⟩ := bd_e h
    refine k_Vv 121 C K (c_X6_write K.2.2.2 g A lay  hF) cp_X6_write (rv_M) mw_1117 dX6_doPrepare_118 rfl rfl (Nat.le_of_ble_eq_true rfl) ⟨Nat.le_of_ble_eq_true rfl, Nat.le_of_ble_eq_true rfl⟩ ⟨Nat.le_of_ble_eq_true rfl, Nat.le_of_ble_eq_true rfl⟩ rfl (fun lay => ?_)
    refine j_aload_n 122 C dX6_doPrepare_121 1 rfl rfl ?_
    refine j_iload_n 123 C dX6_doPrepare_122 2 rfl rfl ?_
    refine j_iload 125 C dX6_doPrepare_123 6 rfl rfl ?_
    obtain ⟨σ134, u135, hF, h⟩ := bd_e h
    refine k_Vv 128 C K (c_X6_hear K.2.2.2 g A lay  hF) cp_X6_hear (rv_M) mw_1121 dX6_doPrepare_125 rfl rfl (Nat.le_of_ble_eq_true rfl) ⟨Nat.le_of_ble_eq_true rfl, Nat.le_of_ble_eq_true rfl⟩ ⟨Nat.le_of_ble_eq_true rfl, Nat.le_of_ble_eq_true rfl⟩ rfl (fun lay => ?_)
    obtain ⟨x136, ex136⟩ : ∃ z : Int32, z = v4 + 1 := ⟨_, rfl⟩
    replace h := lt_e h x136 ex136
    refine j_iinc 131 C dX6_doPrepare_128 5 rfl (v := x136) ((ii_1 _).trans ex136.symm) (lo' := [(4, .int x136), (6, .int w0), (0, .ref (gm g 0)), (1, .int x1), (2, .int x2), (3, .int v3), (5, .int v5)]) (by decide) rfl rfl ?_
    refine j_aload_n 132 C dX6_doPrepare_131 2 rfl rfl ?_
    refine j_dup 133 C dX6_doPrepare_132 rfl rfl ?_
    refine g_M 136 C K 25 (by decide) mw_988 rfl dX6_doPrepare_133 rfl ?_
    refine j_iconst 137 C dX6_doPrepare_136 ic_1 rfl ?_
    refine j_iadd 138 C dX6_doPrepare_137 rfl ?_
    refine p_M 141 C K 25 (by decide) rs_25 rfl mw_988 rfl rfl dX6_doPrepare_138 rfl (fun σ137 eσ137 => ?_)
    replace h := lt_e h σ137 eσ137
    refine j_goto 156 C dX6_doPrepare_141 (by decide) ?_
    refine j_sub [2, 3, 4, 5, 0, 6] (lo' := [(0, .ref (gm g 0)), (1, .int x1), (2, .int x2), (3, .int v3), (4, .int x136), (5, .int v5)]) rfl ?_
    exact wn_X6_doPrepare_156 C K M ih60 lay σ137 v3 x136 v5 h
set_option maxHeartbeats 4000000 in
set_option maxRecDepth 100000 in
theorem wn_X6_doPrepare_60 {l : Launch} {p : Program} {e : Env} {s : State} {m : MethodId} {args : Array Value} {below : List Frame} {meth : Method} {c : Code} {g : GG} {A : Nat → Prop} (C : KX p m c cX6_doPrepare 7 s args RX6) (K : KC l g A s) (M : KM meth (some .int)) {σ' : RS} {r : Int32} {x1 : Int32} {x2 : Int32}     : ∀ (fu : Nat) (lay : Nat → Nat) (σ : RS) (v3 : Int32) (v4 : Int32) (v5 : Int32), B_X6_doPrepare_60 x1 x2 fu σ v3 v4 v5 = some (σ', r) → JJ p l e (rmk 2 46 0 0) s m args below meth c (MQ below (va_Qi (fun (r0 : Int32) (u : RS) => r0 = r ∧ u = σ') (BC (RH g A)) A) args s 0 0 A) A 7 (RH g A lay σ) 0 0 60 [(0, .ref (gm g 0)), (1, .int x1), (2, .int x2), (3, .int v3), (4, .int v4), (5, .int v5)] [] := by
  intro fu
  induction fu with
  | zero =>
    intro lay σ v3 v4 v5 h
    exact nomatch (show (none : Option _) = some _ from h)
  | succ fu ih60 =>
    intro lay σ v3 v4 v5 h
    unfold B_X6_doPrepare_60 at h
    rw [lo4_s] at h
    refine j_iload 62 C dX6_doPrepare_60 5 rfl rfl ?_
    refine j_aload_n 63 C dX6_doPrepare_62 0 rfl rfl ?_
    refine g_M 66 C K 1 (by decide) mw_964 rfl dX6_doPrepare_63 rfl ?_
    refine j_icmp_ge 69 175 C dX6_doPrepare_66 (by decide) rfl (fun hc115 => ?_) (fun hc115 => ?_)
    · replace h := it_t hc115 h
      refine j_aload_n 176 C dX6_doPrepare_175 0 rfl rfl ?_
      refine g_M 179 C K 18 (by decide) mw_981 rfl dX6_doPrepare_176 rfl ?_
      refine j_iload_n 180 C dX6_doPrepare_179 1 rfl rfl ?_
      refine j_iload 182 C dX6_doPrepare_180 4 rfl rfl ?_
      refine j_aload_n 183 C dX6_doPrepare_182 0 rfl rfl ?_
      obtain ⟨σ116, r117, hF, h⟩ := bd_e h
      refine k_Vi 186 C K (c_X6_q K.2.2.2 g A lay  hF) cp_X6_q (rv_M) mw_1129 dX6_doPrepare_183 rfl rfl (Nat.le_of_ble_eq_true rfl) ⟨Nat.le_of_ble_eq_true rfl, Nat.le_of_ble_eq_true rfl⟩ ⟨Nat.le_of_ble_eq_true rfl, Nat.le_of_ble_eq_true rfl⟩ rfl (fun lay => ?_)
      refine j_icmp_lt 189 193 C dX6_doPrepare_186 (by decide) rfl (fun hc118 => ?_) (fun hc118 => ?_)
      · replace h := it_t hc118 h
        refine j_iconst 194 C dX6_doPrepare_193 ic_m1 rfl ?_
        refine j_sub [4] (lo' := [(4, .int v4)]) rfl ?_
        exact wn_X6_doPrepare_194 C K M  lay σ116 v4 (-1 : Int32) x1 h
      · replace h := it_f hc118 h
        refine j_iload_n 190 C dX6_doPrepare_189 3 rfl rfl ?_
        refine j_goto 194 C dX6_doPrepare_190 (by decide) ?_
        refine j_sub [4] (lo' := [(4, .int v4)]) rfl ?_
        exact wn_X6_doPrepare_194 C K M  lay σ116 v4 v3 x1 h
    · replace h := it_f hc115 h
      refine j_aload_n 70 C dX6_doPrepare_69 0 rfl rfl ?_
      refine j_iload 72 C dX6_doPrepare_70 5 rfl rfl ?_
      refine j_iload_n 73 C dX6_doPrepare_72 2 rfl rfl ?_
      obtain ⟨σ119, r120, hF, h⟩ := bd_e h
      refine k_Vi 76 C K (c_X6_gets K.2.2.2 g A lay  hF) cp_X6_gets (rv_M) mw_1113 dX6_doPrepare_73 rfl rfl (Nat.le_of_ble_eq_true rfl) ⟨Nat.le_of_ble_eq_true rfl, Nat.le_of_ble_eq_true rfl⟩ ⟨Nat.le_of_ble_eq_true rfl, Nat.le_of_ble_eq_true rfl⟩ rfl (fun lay => ?_)
      refine j_if_eq 79 169 C dX6_doPrepare_76 (by decide) rfl (fun hc121 => ?_) (fun hc121 => ?_)
      · replace h := it_t hc121 h
        exact wn_X6_doPrepare_169 C K M ih60 lay σ119 v3 v4 v5 h
      · replace h := it_f hc121 h
        refine j_iload_n 80 C dX6_doPrepare_79 3 rfl rfl ?_
        refine j_aload_n 81 C dX6_doPrepare_80 0 rfl rfl ?_
        refine g_M 84 C K 11 (by decide) mw_974 rfl dX6_doPrepare_81 rfl ?_
        refine j_iload 86 C dX6_doPrepare_84 5 rfl rfl ?_
        obtain ⟨hz122, h⟩ := gd_e h
        refine m_ild 87 C K ra_11 hz122 dX6_doPrepare_86 rfl ?_
        refine j_icmp_le 90 94 C dX6_doPrepare_87 (by decide) rfl (fun hc123 => ?_) (fun hc123 => ?_)
        · replace h := it_t hc123 h
          refine j_iconst 95 C dX6_doPrepare_94 ic_0 rfl ?_
          exact wn_X6_doPrepare_95 C K M ih60 lay σ119 v3 v4 v5 (0 : Int32) h
        · replace h := it_f hc123 h
          refine j_iconst 91 C dX6_doPrepare_90 ic_1 rfl ?_
          refine j_goto 95 C dX6_doPrepare_91 (by decide) ?_
          exact wn_X6_doPrepare_95 C K M ih60 lay σ119 v3 v4 v5 (1 : Int32) h
set_option maxHeartbeats 4000000 in
set_option maxRecDepth 100000 in
theorem wn_X6_doPrepare_25 {l : Launch} {p : Program} {e : Env} {s : State} {m : MethodId} {args : Array Value} {below : List Frame} {meth : Method} {c : Code} {g : GG} {A : Nat → Prop} (C : KX p m c cX6_doPrepare 7 s args RX6) (K : KC l g A s) (M : KM meth (some .int)) {σ' : RS} {r : Int32} {x1 : Int32} {x2 : Int32}     : ∀ (fu : Nat) (lay : Nat → Nat) (σ : RS) (v3 : Int32) (v4 : Int32) (v5 : Int32), B_X6_doPrepare_25 x1 x2 fu σ v3 v4 v5 = some (σ', r) → JJ p l e (rmk 2 46 0 0) s m args below meth c (MQ below (va_Qi (fun (r0 : Int32) (u : RS) => r0 = r ∧ u = σ') (BC (RH g A)) A) args s 0 0 A) A 7 (RH g A lay σ) 0 0 25 [(0, .ref (gm g 0)), (1, .int x1), (2, .int x2), (3, .int v3), (4, .int v4), (5, .int v5)] [] := by
  intro fu
  induction fu with
  | zero =>
    intro lay σ v3 v4 v5 h
    exact nomatch (show (none : Option _) = some _ from h)
  | succ fu ih25 =>
    intro lay σ v3 v4 v5 h
    unfold B_X6_doPrepare_25 at h
    rw [lo4_s] at h
    refine j_iload 27 C dX6_doPrepare_25 5 rfl rfl ?_
    refine j_iconst 28 C dX6_doPrepare_27 ic_4 rfl ?_
    refine j_icmp_ge 31 57 C dX6_doPrepare_28 (by decide) rfl (fun hc107 => ?_) (fun hc107 => ?_)
    · replace h := it_t hc107 h
      refine j_iconst 58 C dX6_doPrepare_57 ic_0 rfl ?_
      refine j_istore 60 C dX6_doPrepare_58 (lo' := [(5, .int (0 : Int32)), (0, .ref (gm g 0)), (1, .int x1), (2, .int x2), (3, .int v3), (4, .int v4)]) (by decide) rfl rfl ?_
      refine j_sub [1, 2, 3, 4, 5, 0] (lo' := [(0, .ref (gm g 0)), (1, .int x1), (2, .int x2), (3, .int v3), (4, .int v4), (5, .int (0 : Int32))]) rfl ?_
      exact wn_X6_doPrepare_60 C K M  4096 lay σ v3 v4 (0 : Int32) h
    · replace h := it_f hc107 h
      refine j_aload_n 32 C dX6_doPrepare_31 0 rfl rfl ?_
      refine g_M 35 C K 29 (by decide) mw_992 rfl dX6_doPrepare_32 rfl ?_
      refine j_iload 37 C dX6_doPrepare_35 5 rfl rfl ?_
      refine j_iconst 38 C dX6_doPrepare_37 ic_0 rfl ?_
      obtain ⟨hz108, h⟩ := gd_e h
      refine m_ist 39 C K ra_29 hz108 dX6_doPrepare_38 rfl (fun σ109 eσ109 => ?_)
      replace h := lt_e h σ109 eσ109
      refine j_aload_n 40 C dX6_doPrepare_39 0 rfl rfl ?_
      refine g_M 43 C K 19 (by decide) mw_982 rfl dX6_doPrepare_40 rfl ?_
      refine j_iload_n 44 C dX6_doPrepare_43 1 rfl rfl ?_
      refine j_iload 46 C dX6_doPrepare_44 5 rfl rfl ?_
      obtain ⟨σ110, r111, hF, h⟩ := bd_e h
      refine k_Si 49 C K (c_X6_at K.2.2.2 g A lay  hF) cp_X6_at mw_956 dX6_doPrepare_46 rfl rfl (Nat.le_of_ble_eq_true rfl) ⟨Nat.le_of_ble_eq_true rfl, Nat.le_of_ble_eq_true rfl⟩ ⟨Nat.le_of_ble_eq_true rfl, Nat.le_of_ble_eq_true rfl⟩ rfl (fun lay => ?_)
      refine j_iconst 50 C dX6_doPrepare_49 ic_m1 rfl ?_
      obtain ⟨hz112, h⟩ := gd_e h
      refine m_ist 51 C K ra_19 hz112 dX6_doPrepare_50 rfl (fun σ113 eσ113 => ?_)
      replace h := lt_e h σ113 eσ113
      obtain ⟨x114, ex114⟩ : ∃ z : Int32, z = v5 + 1 := ⟨_, rfl⟩
      replace h := lt_e h x114 ex114
      refine j_iinc 54 C dX6_doPrepare_51 5 rfl (v := x114) ((ii_1 _).trans ex114.symm) (lo' := [(5, .int x114), (0, .ref (gm g 0)), (1, .int x1), (2, .int x2), (3, .int v3), (4, .int v4)]) (by decide) rfl rfl ?_
      refine j_goto 25 C dX6_doPrepare_54 (by decide) ?_
      refine j_sub [1, 2, 3, 4, 5, 0] (lo' := [(0, .ref (gm g 0)), (1, .int x1), (2, .int x2), (3, .int v3), (4, .int v4), (5, .int x114)]) rfl ?_
      exact ih25 lay σ113 v3 v4 x114 h
set_option maxHeartbeats 4000000 in
set_option maxRecDepth 100000 in
theorem c_X6_doPrepare {l : Launch} (hst : l.stackTraces = false) (g : GG) (A : Nat → Prop) (lay : Nat → Nat) {σ : RS} {σ' : RS} {r : Int32} {x1 : Int32} {x2 : Int32}  (h : F_X6_doPrepare σ x1 x2 = some (σ', r)) : MI l yX6_doPrepare cX6_doPrepare 7 .int 2 46 0 0 [.ref (gm g 0), .int x1, .int x2] (RH g A) g A lay σ σ' r := by
  unfold F_X6_doPrepare at h
  refine e_i (own := RX6) (lo := [(0, .ref (gm g 0)), (1, .int x1), (2, .int x2)]) hst (plainFor_of_name (by decide)) rfl rfl (Nat.le_of_ble_eq_true rfl) ?_
  intro p e s m args below meth c C K M
  refine j_aload_n 1 C dX6_doPrepare_0 0 rfl rfl ?_
  refine j_iload_n 2 C dX6_doPrepare_1 1 rfl rfl ?_
  obtain ⟨σ101, r102, hF, h⟩ := bd_e h
  refine k_Vi 5 C K (c_X6_nextBallot K.2.2.2 g A lay  hF) cp_X6_nextBallot (rv_M) mw_1105 dX6_doPrepare_2 rfl rfl (Nat.le_of_ble_eq_true rfl) ⟨Nat.le_of_ble_eq_true rfl, Nat.le_of_ble_eq_true rfl⟩ ⟨Nat.le_of_ble_eq_true rfl, Nat.le_of_ble_eq_true rfl⟩ rfl (fun lay => ?_)
  refine j_istore_n 6 C dX6_doPrepare_5 (lo' := [(3, .int r102), (0, .ref (gm g 0)), (1, .int x1), (2, .int x2)]) (by decide) rfl rfl ?_
  refine j_iconst 7 C dX6_doPrepare_6 ic_0 rfl ?_
  refine j_istore 9 C dX6_doPrepare_7 (lo' := [(4, .int (0 : Int32)), (3, .int r102), (0, .ref (gm g 0)), (1, .int x1), (2, .int x2)]) (by decide) rfl rfl ?_
  refine j_aload_n 10 C dX6_doPrepare_9 2 rfl rfl ?_
  refine j_iload_n 11 C dX6_doPrepare_10 3 rfl rfl ?_
  refine j_iload_n 12 C dX6_doPrepare_11 1 rfl rfl ?_
  obtain ⟨σ103, u104, hF, h⟩ := bd_e h
  refine k_Vv 15 C K (c_X6_tell K.2.2.2 g A lay  hF) cp_X6_tell (rv_M) mw_1109 dX6_doPrepare_12 rfl rfl (Nat.le_of_ble_eq_true rfl) ⟨Nat.le_of_ble_eq_true rfl, Nat.le_of_ble_eq_true rfl⟩ ⟨Nat.le_of_ble_eq_true rfl, Nat.le_of_ble_eq_true rfl⟩ rfl (fun lay => ?_)
  refine j_aload_n 16 C dX6_doPrepare_15 2 rfl rfl ?_
  refine g_M 19 C K 18 (by decide) mw_981 rfl dX6_doPrepare_16 rfl ?_
  refine j_iload_n 20 C dX6_doPrepare_19 3 rfl rfl ?_
  refine j_iconst 21 C dX6_doPrepare_20 ic_m1 rfl ?_
  obtain ⟨hz105, h⟩ := gd_e h
  refine m_ist 22 C K ra_18 hz105 dX6_doPrepare_21 rfl (fun σ106 eσ106 => ?_)
  replace h := lt_e h σ106 eσ106
  refine j_iconst 23 C dX6_doPrepare_22 ic_0 rfl ?_
  refine j_istore 25 C dX6_doPrepare_23 (lo' := [(5, .int (0 : Int32)), (4, .int (0 : Int32)), (3, .int r102), (0, .ref (gm g 0)), (1, .int x1), (2, .int x2)]) (by decide) rfl rfl ?_
  refine j_sub [3, 4, 5, 2, 1, 0] (lo' := [(0, .ref (gm g 0)), (1, .int x1), (2, .int x2), (3, .int r102), (4, .int (0 : Int32)), (5, .int (0 : Int32))]) rfl ?_
  exact wn_X6_doPrepare_25 C K M  4096 lay σ106 r102 (0 : Int32) (0 : Int32) h
theorem cp_X6_prepareFault : CPv yX6_prepareFault cX6_prepareFault 3 (some .int) RX6 2 := ⟨mw_1091, mw_45, mw_105, mw_1092, rfl, by decide, by decide, by decide +kernel⟩
set_option maxHeartbeats 4000000 in
set_option maxRecDepth 100000 in
theorem wn_X6_prepareFault_46 {l : Launch} {p : Program} {e : Env} {s : State} {m : MethodId} {args : Array Value} {below : List Frame} {meth : Method} {c : Code} {g : GG} {A : Nat → Prop} (C : KX p m c cX6_prepareFault 3 s args RX6) (K : KC l g A s) (M : KM meth (some .int)) {σ' : RS} {r : Int32} {x1 : Int32} {x2 : Int32}     (lay : Nat → Nat) (σ : RS)   (h : B_X6_prepareFault_46 x1 x2 σ  = some (σ', r)) : JJ p l e (rmk 2 43 0 0) s m args below meth c (MQ below (va_Qi (fun (r0 : Int32) (u : RS) => r0 = r ∧ u = σ') (BC (RH g A)) A) args s 0 0 A) A 3 (RH g A lay σ) 0 0 46 [] [] := by
  unfold B_X6_prepareFault_46 at h
  refine j_iconst 47 C dX6_prepareFault_46 ic_3 rfl ?_
  cases h
  exact x_i C M dX6_prepareFault_47
set_option maxHeartbeats 4000000 in
set_option maxRecDepth 100000 in
theorem c_X6_prepareFault {l : Launch} (hst : l.stackTraces = false) (g : GG) (A : Nat → Prop) (lay : Nat → Nat) {σ : RS} {σ' : RS} {r : Int32} {x1 : Int32} {x2 : Int32}  (h : F_X6_prepareFault σ x1 x2 = some (σ', r)) : MI l yX6_prepareFault cX6_prepareFault 3 .int 2 43 0 0 [.ref (gm g 0), .int x1, .int x2] (RH g A) g A lay σ σ' r := by
  unfold F_X6_prepareFault at h
  refine e_i (own := RX6) (lo := [(0, .ref (gm g 0)), (1, .int x1), (2, .int x2)]) hst (plainFor_of_name (by decide)) rfl rfl (Nat.le_of_ble_eq_true rfl) ?_
  intro p e s m args below meth c C K M
  refine j_aload_n 1 C dX6_prepareFault_0 0 rfl rfl ?_
  refine j_iload_n 2 C dX6_prepareFault_1 1 rfl rfl ?_
  obtain ⟨σ101, r102, hF, h⟩ := bd_e h
  refine k_Vi 5 C K (c_X6_isNode K.2.2.2 g A lay  hF) cp_X6_isNode (rv_M) mw_1093 dX6_prepareFault_2 rfl rfl (Nat.le_of_ble_eq_true rfl) ⟨Nat.le_of_ble_eq_true rfl, Nat.le_of_ble_eq_true rfl⟩ ⟨Nat.le_of_ble_eq_true rfl, Nat.le_of_ble_eq_true rfl⟩ rfl (fun lay => ?_)
  refine j_if_ne 8 12 C dX6_prepareFault_5 (by decide) rfl (fun hc103 => ?_) (fun hc103 => ?_)
  · replace h := it_f hc103 h
    refine j_aload_n 13 C dX6_prepareFault_12 0 rfl rfl ?_
    refine j_iload_n 14 C dX6_prepareFault_13 2 rfl rfl ?_
    obtain ⟨σ104, r105, hF, h⟩ := bd_e h
    refine k_Vi 17 C K (c_X6_isSet K.2.2.2 g A lay  hF) cp_X6_isSet (rv_M) mw_1097 dX6_prepareFault_14 rfl rfl (Nat.le_of_ble_eq_true rfl) ⟨Nat.le_of_ble_eq_true rfl, Nat.le_of_ble_eq_true rfl⟩ ⟨Nat.le_of_ble_eq_true rfl, Nat.le_of_ble_eq_true rfl⟩ rfl (fun lay => ?_)
    refine j_if_ne 20 24 C dX6_prepareFault_17 (by decide) rfl (fun hc106 => ?_) (fun hc106 => ?_)
    · replace h := it_f hc106 h
      refine j_aload_n 25 C dX6_prepareFault_24 0 rfl rfl ?_
      refine g_M 28 C K 4 (by decide) mw_967 rfl dX6_prepareFault_25 rfl ?_
      refine j_iload_n 29 C dX6_prepareFault_28 1 rfl rfl ?_
      obtain ⟨hz107, h⟩ := gd_e h
      refine m_zld 30 C K ra_4 hz107 dX6_prepareFault_29 rfl ?_
      refine j_if_eq 33 46 C dX6_prepareFault_30 (by decide) rfl (fun hc108 => ?_) (fun hc108 => ?_)
      · replace h := it_t hc108 h
        refine j_sub [] (lo' := []) rfl ?_
        exact wn_X6_prepareFault_46 C K M  lay σ104  h
      · replace h := it_f hc108 h
        refine j_aload_n 34 C dX6_prepareFault_33 0 rfl rfl ?_
        refine g_M 37 C K 5 (by decide) mw_968 rfl dX6_prepareFault_34 rfl ?_
        refine j_iload_n 38 C dX6_prepareFault_37 1 rfl rfl ?_
        obtain ⟨hz109, h⟩ := gd_e h
        refine m_zld 39 C K ra_5 hz109 dX6_prepareFault_38 rfl ?_
        refine j_if_eq 42 46 C dX6_prepareFault_39 (by decide) rfl (fun hc110 => ?_) (fun hc110 => ?_)
        · replace h := it_t hc110 h
          refine j_sub [] (lo' := []) rfl ?_
          exact wn_X6_prepareFault_46 C K M  lay σ104  h
        · replace h := it_f hc110 h
          refine j_iconst 43 C dX6_prepareFault_42 ic_0 rfl ?_
          refine j_goto 47 C dX6_prepareFault_43 (by decide) ?_
          cases h
          exact x_i C M dX6_prepareFault_47
    · replace h := it_t hc106 h
      refine j_iconst 21 C dX6_prepareFault_20 ic_2 rfl ?_
      refine j_goto 47 C dX6_prepareFault_21 (by decide) ?_
      cases h
      exact x_i C M dX6_prepareFault_47
  · replace h := it_t hc103 h
    refine j_iconst 9 C dX6_prepareFault_8 ic_1 rfl ?_
    refine j_goto 47 C dX6_prepareFault_9 (by decide) ?_
    cases h
    exact x_i C M dX6_prepareFault_47
theorem cp_X6_prepare : CPv yX6_prepare cX6_prepare 3 (some .int) RX6 2 := ⟨mw_1086, mw_1087, mw_105, mw_1088, rfl, by decide, by decide, by decide +kernel⟩
set_option maxHeartbeats 4000000 in
set_option maxRecDepth 100000 in
theorem c_X6_prepare {l : Launch} (hst : l.stackTraces = false) (g : GG) (A : Nat → Prop) (lay : Nat → Nat) {σ : RS} {σ' : RS} {r : Int32} {x1 : Int32} {x2 : Int32}  (h : F_X6_prepare σ x1 x2 = some (σ', r)) : MI l yX6_prepare cX6_prepare 3 .int 3 72 0 0 [.ref (gm g 0), .int x1, .int x2] (RH g A) g A lay σ σ' r := by
  unfold F_X6_prepare at h
  refine e_i (own := RX6) (lo := [(0, .ref (gm g 0)), (1, .int x1), (2, .int x2)]) hst (plainFor_of_name (by decide)) rfl rfl (Nat.le_of_ble_eq_true rfl) ?_
  intro p e s m args below meth c C K M
  refine j_aload_n 1 C dX6_prepare_0 0 rfl rfl ?_
  refine j_aload_n 2 C dX6_prepare_1 0 rfl rfl ?_
  refine j_iload_n 3 C dX6_prepare_2 1 rfl rfl ?_
  refine j_iload_n 4 C dX6_prepare_3 2 rfl rfl ?_
  obtain ⟨σ101, r102, hF, h⟩ := bd_e h
  refine k_Vi 7 C K (c_X6_prepareFault K.2.2.2 g A lay  hF) cp_X6_prepareFault (rv_M) mw_1089 dX6_prepare_4 rfl rfl (Nat.le_of_ble_eq_true rfl) ⟨Nat.le_of_ble_eq_true rfl, Nat.le_of_ble_eq_true rfl⟩ ⟨Nat.le_of_ble_eq_true rfl, Nat.le_of_ble_eq_true rfl⟩ rfl (fun lay => ?_)
  refine p_M 10 C K 0 (by decide) rs_0 rfl mw_963 rfl rfl dX6_prepare_7 rfl (fun σ103 eσ103 => ?_)
  replace h := lt_e h σ103 eσ103
  refine j_aload_n 11 C dX6_prepare_10 0 rfl rfl ?_
  refine g_M 14 C K 0 (by decide) mw_963 rfl dX6_prepare_11 rfl ?_
  refine j_if_le 17 21 C dX6_prepare_14 (by decide) rfl (fun hc104 => ?_) (fun hc104 => ?_)
  · replace h := it_t hc104 h
    refine j_aload_n 22 C dX6_prepare_21 0 rfl rfl ?_
    refine j_iload_n 23 C dX6_prepare_22 1 rfl rfl ?_
    refine j_iload_n 24 C dX6_prepare_23 2 rfl rfl ?_
    obtain ⟨σ105, r106, hF, h⟩ := bd_e h
    refine k_Vi 27 C K (c_X6_doPrepare K.2.2.2 g A lay  hF) cp_X6_doPrepare (rv_M) mw_1101 dX6_prepare_24 rfl rfl (Nat.le_of_ble_eq_true rfl) ⟨Nat.le_of_ble_eq_true rfl, Nat.le_of_ble_eq_true rfl⟩ ⟨Nat.le_of_ble_eq_true rfl, Nat.le_of_ble_eq_true rfl⟩ rfl (fun lay => ?_)
    cases h
    exact x_i C M dX6_prepare_27
  · replace h := it_f hc104 h
    refine j_iconst 18 C dX6_prepare_17 ic_0 rfl ?_
    refine j_goto 27 C dX6_prepare_18 (by decide) ?_
    cases h
    exact x_i C M dX6_prepare_27
theorem cp_X6_decide : CPv yX6_decide cX6_decide 4 none RX6 3 := ⟨mw_1151, mw_59, mw_105, mw_1152, rfl, by decide, by decide, by decide +kernel⟩
set_option maxHeartbeats 4000000 in
set_option maxRecDepth 100000 in
theorem wn_X6_decide_62 {l : Launch} {p : Program} {e : Env} {s : State} {m : MethodId} {args : Array Value} {below : List Frame} {meth : Method} {c : Code} {g : GG} {A : Nat → Prop} (C : KX p m c cX6_decide 4 s args RX6) (K : KC l g A s) (M : KM meth none) {σ' : RS} {r : Unit} {x1 : Int32} {x2 : Int32} {x3 : Int32}     (lay : Nat → Nat) (σ : RS) (w0 : Int32) (w1 : Int32)  (h : B_X6_decide_62 x1 x2 x3 σ w0 w1 = some (σ', r)) : JJ p l e (rmk 0 0 0 0) s m args below meth c (MQ below (va_Qv (fun u : RS => u = σ') (BC (RH g A)) A) args s 0 0 A) A 4 (RH g A lay σ) 0 0 62 [] [.int w0, .int w1, .ref (gm g 20)] := by
  unfold B_X6_decide_62 at h
  obtain ⟨hz114, h⟩ := gd_e h
  obtain ⟨hz116, h⟩ := gd_e h
  refine m_zst 63 C K ra_23 hz114 hz116 dX6_decide_62 rfl (fun σ115 eσ115 => ?_)
  replace h := lt_e h σ115 eσ115
  cases h
  exact x_v C M dX6_decide_63
set_option maxHeartbeats 4000000 in
set_option maxRecDepth 100000 in
theorem wn_X6_decide_57 {l : Launch} {p : Program} {e : Env} {s : State} {m : MethodId} {args : Array Value} {below : List Frame} {meth : Method} {c : Code} {g : GG} {A : Nat → Prop} (C : KX p m c cX6_decide 4 s args RX6) (K : KC l g A s) (M : KM meth none) {σ' : RS} {r : Unit} {x1 : Int32} {x2 : Int32} {x3 : Int32}     (lay : Nat → Nat) (σ : RS) (w0 : Int32)  (h : B_X6_decide_57 x1 x2 x3 σ w0 = some (σ', r)) : JJ p l e (rmk 0 0 0 0) s m args below meth c (MQ below (va_Qv (fun u : RS => u = σ') (BC (RH g A)) A) args s 0 0 A) A 4 (RH g A lay σ) 0 0 57 [] [.int w0, .ref (gm g 20)] := by
  unfold B_X6_decide_57 at h
  refine j_iconst 58 C dX6_decide_57 ic_1 rfl ?_
  refine j_goto 62 C dX6_decide_58 (by decide) ?_
  exact wn_X6_decide_62 C K M  lay σ (1 : Int32) w0 h
set_option maxHeartbeats 4000000 in
set_option maxRecDepth 100000 in
theorem wn_X6_decide_23 {l : Launch} {p : Program} {e : Env} {s : State} {m : MethodId} {args : Array Value} {below : List Frame} {meth : Method} {c : Code} {g : GG} {A : Nat → Prop} (C : KX p m c cX6_decide 4 s args RX6) (K : KC l g A s) (M : KM meth none) {σ' : RS} {r : Unit} {x1 : Int32} {x2 : Int32} {x3 : Int32}     (lay : Nat → Nat) (σ : RS)   (h : B_X6_decide_23 x1 x2 x3 σ  = some (σ', r)) : JJ p l e (rmk 0 0 0 0) s m args below meth c (MQ below (va_Qv (fun u : RS => u = σ') (BC (RH g A)) A) args s 0 0 A) A 4 (RH g A lay σ) 0 0 23 [(0, .ref (gm g 0)), (1, .int x1), (3, .int x3)] [] := by
  unfold B_X6_decide_23 at h
  refine j_aload_n 24 C dX6_decide_23 0 rfl rfl ?_
  refine g_M 27 C K 20 (by decide) mw_983 rfl dX6_decide_24 rfl ?_
  refine j_iload_n 28 C dX6_decide_27 1 rfl rfl ?_
  refine j_dup2 29 C dX6_decide_28 rfl rfl rfl ?_
  obtain ⟨hz107, h⟩ := gd_e h
  refine m_ild 30 C K ra_20 hz107 dX6_decide_29 rfl ?_
  refine j_iconst 31 C dX6_decide_30 ic_1 rfl ?_
  refine j_iadd 32 C dX6_decide_31 rfl ?_
  obtain ⟨hz108, h⟩ := gd_e h
  refine m_ist 33 C K ra_20 hz108 dX6_decide_32 rfl (fun σ109 eσ109 => ?_)
  replace h := lt_e h σ109 eσ109
  refine j_aload_n 34 C dX6_decide_33 0 rfl rfl ?_
  refine g_M 37 C K 23 (by decide) mw_986 rfl dX6_decide_34 rfl ?_
  refine j_iload_n 38 C dX6_decide_37 1 rfl rfl ?_
  refine j_aload_n 39 C dX6_decide_38 0 rfl rfl ?_
  refine g_M 42 C K 23 (by decide) mw_986 rfl dX6_decide_39 rfl ?_
  refine j_iload_n 43 C dX6_decide_42 1 rfl rfl ?_
  obtain ⟨hz110, h⟩ := gd_e h
  refine m_zld 44 C K ra_23 hz110 dX6_decide_43 rfl ?_
  refine j_if_ne 47 57 C dX6_decide_44 (by decide) rfl (fun hc111 => ?_) (fun hc111 => ?_)
  · replace h := it_f hc111 h
    refine j_sub [] (lo' := []) rfl ?_
    exact wn_X6_decide_57 C K M  lay σ109 x1 h
  · replace h := it_t hc111 h
    refine j_iload_n 48 C dX6_decide_47 2 rfl rfl ?_
    refine j_aload_n 49 C dX6_decide_48 0 rfl rfl ?_
    refine g_M 52 C K 22 (by decide) mw_985 rfl dX6_decide_49 rfl ?_
    refine j_iload_n 53 C dX6_decide_52 1 rfl rfl ?_
    obtain ⟨hz112, h⟩ := gd_e h
    refine m_ild 54 C K ra_22 hz112 dX6_decide_53 rfl ?_
    refine j_icmp_eq 57 61 C dX6_decide_54 (by decide) rfl (fun hc113 => ?_) (fun hc113 => ?_)
    · replace h := it_t hc113 h
      refine j_iconst 62 C dX6_decide_61 ic_0 rfl ?_
      refine j_sub [] (lo' := []) rfl ?_
      exact wn_X6_decide_62 C K M  lay σ109 (0 : Int32) x1 h
    · replace h := it_f hc113 h
      refine j_sub [] (lo' := []) rfl ?_
      exact wn_X6_decide_57 C K M  lay σ109 x1 h
set_option maxHeartbeats 4000000 in
set_option maxRecDepth 100000 in
theorem c_X6_decide {l : Launch} (hst : l.stackTraces = false) (g : GG) (A : Nat → Prop) (lay : Nat → Nat) {σ : RS} {σ' : RS} {r : Unit} {x1 : Int32} {x2 : Int32} {x3 : Int32}  (h : F_X6_decide σ x1 x2 x3 = some (σ', r)) : MV l yX6_decide cX6_decide 4 0 0 0 0 [.ref (gm g 0), .int x1, .int x2, .int x3] (RH g A) g A lay σ σ' := by
  unfold F_X6_decide at h
  refine e_v (own := RX6) (lo := [(0, .ref (gm g 0)), (1, .int x1), (2, .int x2), (3, .int x3)]) hst (plainFor_of_name (by decide)) rfl rfl (Nat.le_of_ble_eq_true rfl) ?_
  intro p e s m args below meth c C K M
  refine j_aload_n 1 C dX6_decide_0 0 rfl rfl ?_
  refine g_M 4 C K 20 (by decide) mw_983 rfl dX6_decide_1 rfl ?_
  refine j_iload_n 5 C dX6_decide_4 1 rfl rfl ?_
  obtain ⟨hz101, h⟩ := gd_e h
  refine m_ild 6 C K ra_20 hz101 dX6_decide_5 rfl ?_
  refine j_if_ne 9 23 C dX6_decide_6 (by decide) rfl (fun hc102 => ?_) (fun hc102 => ?_)
  · replace h := it_f hc102 h
    refine j_sub [0, 1, 3] (lo' := [(0, .ref (gm g 0)), (1, .int x1), (3, .int x3)]) rfl ?_
    exact wn_X6_decide_23 C K M  lay σ  h
  · replace h := it_t hc102 h
    refine j_aload_n 10 C dX6_decide_9 0 rfl rfl ?_
    refine g_M 13 C K 21 (by decide) mw_984 rfl dX6_decide_10 rfl ?_
    refine j_iload_n 14 C dX6_decide_13 1 rfl rfl ?_
    refine j_iload_n 15 C dX6_decide_14 2 rfl rfl ?_
    obtain ⟨hz103, h⟩ := gd_e h
    refine m_ist 16 C K ra_21 hz103 dX6_decide_15 rfl (fun σ104 eσ104 => ?_)
    replace h := lt_e h σ104 eσ104
    refine j_aload_n 17 C dX6_decide_16 0 rfl rfl ?_
    refine g_M 20 C K 22 (by decide) mw_985 rfl dX6_decide_17 rfl ?_
    refine j_iload_n 21 C dX6_decide_20 1 rfl rfl ?_
    refine j_iload_n 22 C dX6_decide_21 3 rfl rfl ?_
    obtain ⟨hz105, h⟩ := gd_e h
    refine m_ist 23 C K ra_22 hz105 dX6_decide_22 rfl (fun σ106 eσ106 => ?_)
    replace h := lt_e h σ106 eσ106
    refine j_sub [0, 1, 3] (lo' := [(0, .ref (gm g 0)), (1, .int x1), (3, .int x3)]) rfl ?_
    exact wn_X6_decide_23 C K M  lay σ106  h
