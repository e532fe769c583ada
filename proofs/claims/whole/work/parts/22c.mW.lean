theorem cp_X6_begins : CPv yX6_begins cX6_begins 3 (some .boolean) RX6 1 := ⟨mw_1235, mw_72, mw_105, mw_1236, rfl, by decide, by decide, by decide +kernel⟩
set_option maxHeartbeats 4000000 in
set_option maxRecDepth 100000 in
theorem wn_X6_begins_47 {l : Launch} {p : Program} {e : Env} {s : State} {m : MethodId} {args : Array Value} {below : List Frame} {meth : Method} {c : Code} {g : GG} {A : Nat → Prop} (C : KX p m c cX6_begins 3 s args RX6) (K : KC l g A s) (M : KM meth (some .boolean)) {σ' : RS} {r : Int32} {x1 : Int32}     (lay : Nat → Nat) (σ : RS) (w0 : Int32)  (h : B_X6_begins_47 x1 σ w0 = some (σ', r)) : JJ p l e (rmk 1 22 0 0) s m args below meth c (MQ below (va_Qi (fun (r0 : Int32) (u : RS) => r0 = r ∧ u = σ') (BC (RH g A)) A) args s 0 0 A) A 3 (RH g A lay σ) 0 0 47 [(0, .ref (gm g 0)), (1, .int x1)] [.int w0] := by
  unfold B_X6_begins_47 at h
  refine j_istore_n 48 C dX6_begins_47 (lo' := [(2, .int w0), (0, .ref (gm g 0)), (1, .int x1)]) (by decide) rfl rfl ?_
  refine j_aload_n 49 C dX6_begins_48 1 rfl rfl ?_
  refine j_iconst 50 C dX6_begins_49 ic_0 rfl ?_
  refine j_iload_n 51 C dX6_begins_50 2 rfl rfl ?_
  obtain ⟨σ108, u109, hF, h⟩ := bd_e h
  refine k_Vv 54 C K (c_X6_put K.2.2.2 g A lay  hF) cp_X6_put (rv_M) mw_1237 dX6_begins_51 rfl rfl (Nat.le_of_ble_eq_true rfl) ⟨Nat.le_of_ble_eq_true rfl, Nat.le_of_ble_eq_true rfl⟩ ⟨Nat.le_of_ble_eq_true rfl, Nat.le_of_ble_eq_true rfl⟩ rfl (fun lay => ?_)
  refine j_aload_n 55 C dX6_begins_54 1 rfl rfl ?_
  refine j_iconst 56 C dX6_begins_55 ic_4 rfl ?_
  refine j_iconst 57 C dX6_begins_56 ic_0 rfl ?_
  obtain ⟨σ110, u111, hF, h⟩ := bd_e h
  refine k_Vv 60 C K (c_X6_put K.2.2.2 g A lay  hF) cp_X6_put (rv_M) mw_1237 dX6_begins_57 rfl rfl (Nat.le_of_ble_eq_true rfl) ⟨Nat.le_of_ble_eq_true rfl, Nat.le_of_ble_eq_true rfl⟩ ⟨Nat.le_of_ble_eq_true rfl, Nat.le_of_ble_eq_true rfl⟩ rfl (fun lay => ?_)
  refine j_aload_n 61 C dX6_begins_60 1 rfl rfl ?_
  refine j_iconst 62 C dX6_begins_61 ic_m1 rfl ?_
  refine p_M 65 C K 33 (by decide) rs_33 rfl mw_996 rfl rfl dX6_begins_62 rfl (fun σ112 eσ112 => ?_)
  replace h := lt_e h σ112 eσ112
  refine j_aload_n 66 C dX6_begins_65 1 rfl rfl ?_
  refine j_iload_n 67 C dX6_begins_66 0 rfl rfl ?_
  refine j_iconst 68 C dX6_begins_67 ic_1 rfl ?_
  obtain ⟨σ113, r114, hF, h⟩ := bd_e h
  refine k_Vi 71 C K (c_X6_go K.2.2.2 g A lay  hF) cp_X6_go (rv_M) mw_1229 dX6_begins_68 rfl rfl (Nat.le_of_ble_eq_true rfl) ⟨Nat.le_of_ble_eq_true rfl, Nat.le_of_ble_eq_true rfl⟩ ⟨Nat.le_of_ble_eq_true rfl, Nat.le_of_ble_eq_true rfl⟩ rfl (fun lay => ?_)
  obtain ⟨hz115, h⟩ := gd_e h
  cases h
  exact x_z C M dX6_begins_71 hz115
set_option maxHeartbeats 4000000 in
set_option maxRecDepth 100000 in
theorem wn_X6_begins_42 {l : Launch} {p : Program} {e : Env} {s : State} {m : MethodId} {args : Array Value} {below : List Frame} {meth : Method} {c : Code} {g : GG} {A : Nat → Prop} (C : KX p m c cX6_begins 3 s args RX6) (K : KC l g A s) (M : KM meth (some .boolean)) {σ' : RS} {r : Int32} {x1 : Int32}     (lay : Nat → Nat) (σ : RS)   (h : B_X6_begins_42 x1 σ  = some (σ', r)) : JJ p l e (rmk 1 22 0 0) s m args below meth c (MQ below (va_Qi (fun (r0 : Int32) (u : RS) => r0 = r ∧ u = σ') (BC (RH g A)) A) args s 0 0 A) A 3 (RH g A lay σ) 0 0 42 [(0, .ref (gm g 0)), (1, .int x1)] [] := by
  unfold B_X6_begins_42 at h
  refine j_iconst 43 C dX6_begins_42 ic_1 rfl ?_
  refine j_goto 47 C dX6_begins_43 (by decide) ?_
  exact wn_X6_begins_47 C K M  lay σ (1 : Int32) h
set_option maxHeartbeats 4000000 in
set_option maxRecDepth 100000 in
theorem c_X6_begins {l : Launch} (hst : l.stackTraces = false) (g : GG) (A : Nat → Prop) (lay : Nat → Nat) {σ : RS} {σ' : RS} {r : Int32} {x1 : Int32}  (h : F_X6_begins σ x1 = some (σ', r)) : MI l yX6_begins cX6_begins 3 .boolean 1 22 0 0 [.ref (gm g 0), .int x1] (RH g A) g A lay σ σ' r := by
  unfold F_X6_begins at h
  refine e_i (own := RX6) (lo := [(0, .ref (gm g 0)), (1, .int x1)]) hst (plainFor_of_name (by decide)) rfl rfl (Nat.le_of_ble_eq_true rfl) ?_
  intro p e s m args below meth c C K M
  refine j_iload_n 1 C dX6_begins_0 1 rfl rfl ?_
  refine j_bipush 3 C dX6_begins_1 bp_112 rfl ?_
  refine j_icmp_eq 6 42 C dX6_begins_3 (by decide) rfl (fun hc101 => ?_) (fun hc101 => ?_)
  · replace h := it_t hc101 h
    exact wn_X6_begins_42 C K M  lay σ  h
  · replace h := it_f hc101 h
    refine j_iload_n 7 C dX6_begins_6 1 rfl rfl ?_
    refine j_bipush 9 C dX6_begins_7 bp_97 rfl ?_
    refine j_icmp_eq 12 42 C dX6_begins_9 (by decide) rfl (fun hc102 => ?_) (fun hc102 => ?_)
    · replace h := it_t hc102 h
      exact wn_X6_begins_42 C K M  lay σ  h
    · replace h := it_f hc102 h
      refine j_iload_n 13 C dX6_begins_12 1 rfl rfl ?_
      refine j_bipush 15 C dX6_begins_13 bp_102 rfl ?_
      refine j_icmp_eq 18 42 C dX6_begins_15 (by decide) rfl (fun hc103 => ?_) (fun hc103 => ?_)
      · replace h := it_t hc103 h
        exact wn_X6_begins_42 C K M  lay σ  h
      · replace h := it_f hc103 h
        refine j_iload_n 19 C dX6_begins_18 1 rfl rfl ?_
        refine j_bipush 21 C dX6_begins_19 bp_99 rfl ?_
        refine j_icmp_eq 24 42 C dX6_begins_21 (by decide) rfl (fun hc104 => ?_) (fun hc104 => ?_)
        · replace h := it_t hc104 h
          exact wn_X6_begins_42 C K M  lay σ  h
        · replace h := it_f hc104 h
          refine j_iload_n 25 C dX6_begins_24 1 rfl rfl ?_
          refine j_bipush 27 C dX6_begins_25 bp_119 rfl ?_
          refine j_icmp_eq 30 42 C dX6_begins_27 (by decide) rfl (fun hc105 => ?_) (fun hc105 => ?_)
          · replace h := it_t hc105 h
            exact wn_X6_begins_42 C K M  lay σ  h
          · replace h := it_f hc105 h
            refine j_iload_n 31 C dX6_begins_30 1 rfl rfl ?_
            refine j_bipush 33 C dX6_begins_31 bp_114 rfl ?_
            refine j_icmp_eq 36 42 C dX6_begins_33 (by decide) rfl (fun hc106 => ?_) (fun hc106 => ?_)
            · replace h := it_t hc106 h
              exact wn_X6_begins_42 C K M  lay σ  h
            · replace h := it_f hc106 h
              refine j_iload_n 37 C dX6_begins_36 1 rfl rfl ?_
              refine j_bipush 39 C dX6_begins_37 bp_106 rfl ?_
              refine j_icmp_ne 42 46 C dX6_begins_39 (by decide) rfl (fun hc107 => ?_) (fun hc107 => ?_)
              · replace h := it_f hc107 h
                refine j_iconst 47 C dX6_begins_46 ic_0 rfl ?_
                exact wn_X6_begins_47 C K M  lay σ (0 : Int32) h
              · replace h := it_t hc107 h
                exact wn_X6_begins_42 C K M  lay σ  h
theorem cp_X6_takesNode : CPv yX6_takesNode cX6_takesNode 3 (some .boolean) RX6 1 := ⟨mw_1243, mw_74, mw_105, mw_1244, rfl, by decide, by decide, by decide +kernel⟩
set_option maxHeartbeats 4000000 in
set_option maxRecDepth 100000 in
theorem wn_X6_takesNode_54 {l : Launch} {p : Program} {e : Env} {s : State} {m : MethodId} {args : Array Value} {below : List Frame} {meth : Method} {c : Code} {g : GG} {A : Nat → Prop} (C : KX p m c cX6_takesNode 3 s args RX6) (K : KC l g A s) (M : KM meth (some .boolean)) {σ' : RS} {r : Int32} {x1 : Int32}     (lay : Nat → Nat) (σ : RS) (w0 : Int32) (w1 : Int32)  (h : B_X6_takesNode_54 x1 σ w0 w1 = some (σ', r)) : JJ p l e (rmk 2 43 0 0) s m args below meth c (MQ below (va_Qi (fun (r0 : Int32) (u : RS) => r0 = r ∧ u = σ') (BC (RH g A)) A) args s 0 0 A) A 3 (RH g A lay σ) 0 0 54 [] [.int w0, .int w1, .ref (gm g 0)] := by
  unfold B_X6_takesNode_54 at h
  obtain ⟨σ110, r111, hF, h⟩ := bd_e h
  refine k_Vi 57 C K (c_X6_go K.2.2.2 g A lay  hF) cp_X6_go (rv_M) mw_1229 dX6_takesNode_54 rfl rfl (Nat.le_of_ble_eq_true rfl) ⟨Nat.le_of_ble_eq_true rfl, Nat.le_of_ble_eq_true rfl⟩ ⟨Nat.le_of_ble_eq_true rfl, Nat.le_of_ble_eq_true rfl⟩ rfl (fun lay => ?_)
  obtain ⟨hz112, h⟩ := gd_e h
  cases h
  exact x_z C M dX6_takesNode_57 hz112
set_option maxHeartbeats 4000000 in
set_option maxRecDepth 100000 in
theorem wn_X6_takesNode_48 {l : Launch} {p : Program} {e : Env} {s : State} {m : MethodId} {args : Array Value} {below : List Frame} {meth : Method} {c : Code} {g : GG} {A : Nat → Prop} (C : KX p m c cX6_takesNode 3 s args RX6) (K : KC l g A s) (M : KM meth (some .boolean)) {σ' : RS} {r : Int32} {x1 : Int32}     (lay : Nat → Nat) (σ : RS) (w0 : Int32)  (h : B_X6_takesNode_48 x1 σ w0 = some (σ', r)) : JJ p l e (rmk 2 43 0 0) s m args below meth c (MQ below (va_Qi (fun (r0 : Int32) (u : RS) => r0 = r ∧ u = σ') (BC (RH g A)) A) args s 0 0 A) A 3 (RH g A lay σ) 0 0 48 [] [.int w0, .ref (gm g 0)] := by
  unfold B_X6_takesNode_48 at h
  refine j_bipush 50 C dX6_takesNode_48 bp_9 rfl ?_
  refine j_goto 54 C dX6_takesNode_50 (by decide) ?_
  exact wn_X6_takesNode_54 C K M  lay σ (9 : Int32) w0 h
set_option maxHeartbeats 4000000 in
set_option maxRecDepth 100000 in
theorem c_X6_takesNode {l : Launch} (hst : l.stackTraces = false) (g : GG) (A : Nat → Prop) (lay : Nat → Nat) {σ : RS} {σ' : RS} {r : Int32} {x1 : Int32}  (h : F_X6_takesNode σ x1 = some (σ', r)) : MI l yX6_takesNode cX6_takesNode 3 .boolean 2 43 0 0 [.ref (gm g 0), .int x1] (RH g A) g A lay σ σ' r := by
  unfold F_X6_takesNode at h
  refine e_i (own := RX6) (lo := [(0, .ref (gm g 0)), (1, .int x1)]) hst (plainFor_of_name (by decide)) rfl rfl (Nat.le_of_ble_eq_true rfl) ?_
  intro p e s m args below meth c C K M
  refine j_aload_n 1 C dX6_takesNode_0 0 rfl rfl ?_
  refine g_M 4 C K 32 (by decide) mw_995 rfl dX6_takesNode_1 rfl ?_
  refine j_iconst 5 C dX6_takesNode_4 ic_5 rfl ?_
  refine j_aload_n 6 C dX6_takesNode_5 0 rfl rfl ?_
  refine g_M 9 C K 31 (by decide) mw_994 rfl dX6_takesNode_6 rfl ?_
  refine j_imul 10 C dX6_takesNode_9 rfl ?_
  obtain ⟨hz101, h⟩ := gd_e h
  refine m_ild 11 C K ra_32 hz101 dX6_takesNode_10 rfl ?_
  refine j_topi (fun x102 ex102 => ?_)
  replace h := lt_e h x102 ex102
  refine j_istore_n 12 C dX6_takesNode_11 (lo' := [(2, .int x102), (0, .ref (gm g 0)), (1, .int x1)]) (by decide) rfl rfl ?_
  refine j_aload_n 13 C dX6_takesNode_12 1 rfl rfl ?_
  refine j_iconst 14 C dX6_takesNode_13 ic_1 rfl ?_
  refine j_iload_n 15 C dX6_takesNode_14 2 rfl rfl ?_
  refine j_bipush 17 C dX6_takesNode_15 bp_48 rfl ?_
  refine j_isub 18 C dX6_takesNode_17 rfl ?_
  obtain ⟨σ103, u104, hF, h⟩ := bd_e h
  refine k_Vv 21 C K (c_X6_put K.2.2.2 g A lay  hF) cp_X6_put (rv_M) mw_1237 dX6_takesNode_18 rfl rfl (Nat.le_of_ble_eq_true rfl) ⟨Nat.le_of_ble_eq_true rfl, Nat.le_of_ble_eq_true rfl⟩ ⟨Nat.le_of_ble_eq_true rfl, Nat.le_of_ble_eq_true rfl⟩ rfl (fun lay => ?_)
  refine j_aload_n 22 C dX6_takesNode_21 1 rfl rfl ?_
  refine j_aload_n 23 C dX6_takesNode_22 1 rfl rfl ?_
  refine j_iload_n 24 C dX6_takesNode_23 2 rfl rfl ?_
  refine j_bipush 26 C dX6_takesNode_24 bp_48 rfl ?_
  refine j_isub 27 C dX6_takesNode_26 rfl ?_
  obtain ⟨σ105, r106, hF, h⟩ := bd_e h
  refine k_Vi 30 C K (c_X6_isNode K.2.2.2 g A lay  hF) cp_X6_isNode (rv_M) mw_1093 dX6_takesNode_27 rfl rfl (Nat.le_of_ble_eq_true rfl) ⟨Nat.le_of_ble_eq_true rfl, Nat.le_of_ble_eq_true rfl⟩ ⟨Nat.le_of_ble_eq_true rfl, Nat.le_of_ble_eq_true rfl⟩ rfl (fun lay => ?_)
  refine j_iload_n 31 C dX6_takesNode_30 0 rfl rfl ?_
  refine j_bipush 33 C dX6_takesNode_31 bp_102 rfl ?_
  refine j_icmp_eq 36 48 C dX6_takesNode_33 (by decide) rfl (fun hc107 => ?_) (fun hc107 => ?_)
  · replace h := it_t hc107 h
    refine j_sub [] (lo' := []) rfl ?_
    exact wn_X6_takesNode_48 C K M  lay σ105 r106 h
  · replace h := it_f hc107 h
    refine j_iload_n 37 C dX6_takesNode_36 0 rfl rfl ?_
    refine j_bipush 39 C dX6_takesNode_37 bp_119 rfl ?_
    refine j_icmp_eq 42 48 C dX6_takesNode_39 (by decide) rfl (fun hc108 => ?_) (fun hc108 => ?_)
    · replace h := it_t hc108 h
      refine j_sub [] (lo' := []) rfl ?_
      exact wn_X6_takesNode_48 C K M  lay σ105 r106 h
    · replace h := it_f hc108 h
      refine j_iload_n 43 C dX6_takesNode_42 0 rfl rfl ?_
      refine j_bipush 45 C dX6_takesNode_43 bp_114 rfl ?_
      refine j_icmp_ne 48 53 C dX6_takesNode_45 (by decide) rfl (fun hc109 => ?_) (fun hc109 => ?_)
      · replace h := it_f hc109 h
        refine j_iconst 54 C dX6_takesNode_53 ic_2 rfl ?_
        refine j_sub [] (lo' := []) rfl ?_
        exact wn_X6_takesNode_54 C K M  lay σ105 (2 : Int32) r106 h
      · replace h := it_t hc109 h
        refine j_sub [] (lo' := []) rfl ?_
        exact wn_X6_takesNode_48 C K M  lay σ105 r106 h
theorem cp_X6_takesMark : CPv yX6_takesMark cX6_takesMark 3 (some .boolean) RX6 1 := ⟨mw_1247, mw_75, mw_105, mw_1248, rfl, by decide, by decide, by decide +kernel⟩
set_option maxHeartbeats 4000000 in
set_option maxRecDepth 100000 in
theorem wn_X6_takesMark_75 {l : Launch} {p : Program} {e : Env} {s : State} {m : MethodId} {args : Array Value} {below : List Frame} {meth : Method} {c : Code} {g : GG} {A : Nat → Prop} (C : KX p m c cX6_takesMark 3 s args RX6) (K : KC l g A s) (M : KM meth (some .boolean)) {σ' : RS} {r : Int32} {x1 : Int32}     (lay : Nat → Nat) (σ : RS) (w0 : Int32)  (h : B_X6_takesMark_75 x1 σ w0 = some (σ', r)) : JJ p l e (rmk 1 22 0 0) s m args below meth c (MQ below (va_Qi (fun (r0 : Int32) (u : RS) => r0 = r ∧ u = σ') (BC (RH g A)) A) args s 0 0 A) A 3 (RH g A lay σ) 0 0 75 [] [.int w0, .ref (gm g 0)] := by
  unfold B_X6_takesMark_75 at h
  refine j_bipush 77 C dX6_takesMark_75 bp_7 rfl ?_
  obtain ⟨σ108, r109, hF, h⟩ := bd_e h
  refine k_Vi 80 C K (c_X6_go K.2.2.2 g A lay  hF) cp_X6_go (rv_M) mw_1229 dX6_takesMark_77 rfl rfl (Nat.le_of_ble_eq_true rfl) ⟨Nat.le_of_ble_eq_true rfl, Nat.le_of_ble_eq_true rfl⟩ ⟨Nat.le_of_ble_eq_true rfl, Nat.le_of_ble_eq_true rfl⟩ rfl (fun lay => ?_)
  obtain ⟨hz110, h⟩ := gd_e h
  cases h
  exact x_z C M dX6_takesMark_80 hz110
set_option maxHeartbeats 4000000 in
set_option maxRecDepth 100000 in
theorem wn_X6_takesMark_55 {l : Launch} {p : Program} {e : Env} {s : State} {m : MethodId} {args : Array Value} {below : List Frame} {meth : Method} {c : Code} {g : GG} {A : Nat → Prop} (C : KX p m c cX6_takesMark 3 s args RX6) (K : KC l g A s) (M : KM meth (some .boolean)) {σ' : RS} {r : Int32} {x1 : Int32}     (lay : Nat → Nat) (σ : RS) (w0 : Int32)  (h : B_X6_takesMark_55 x1 σ w0 = some (σ', r)) : JJ p l e (rmk 1 22 0 0) s m args below meth c (MQ below (va_Qi (fun (r0 : Int32) (u : RS) => r0 = r ∧ u = σ') (BC (RH g A)) A) args s 0 0 A) A 3 (RH g A lay σ) 0 0 55 [] [.int w0, .ref (gm g 0)] := by
  unfold B_X6_takesMark_55 at h
  refine j_bipush 57 C dX6_takesMark_55 bp_8 rfl ?_
  obtain ⟨σ111, r112, hF, h⟩ := bd_e h
  refine k_Vi 60 C K (c_X6_go K.2.2.2 g A lay  hF) cp_X6_go (rv_M) mw_1229 dX6_takesMark_57 rfl rfl (Nat.le_of_ble_eq_true rfl) ⟨Nat.le_of_ble_eq_true rfl, Nat.le_of_ble_eq_true rfl⟩ ⟨Nat.le_of_ble_eq_true rfl, Nat.le_of_ble_eq_true rfl⟩ rfl (fun lay => ?_)
  refine j_goto 80 C dX6_takesMark_60 (by decide) ?_
  obtain ⟨hz113, h⟩ := gd_e h
  cases h
  exact x_z C M dX6_takesMark_80 hz113
set_option maxHeartbeats 4000000 in
set_option maxRecDepth 100000 in
theorem wn_X6_takesMark_30 {l : Launch} {p : Program} {e : Env} {s : State} {m : MethodId} {args : Array Value} {below : List Frame} {meth : Method} {c : Code} {g : GG} {A : Nat → Prop} (C : KX p m c cX6_takesMark 3 s args RX6) (K : KC l g A s) (M : KM meth (some .boolean)) {σ' : RS} {r : Int32} {x1 : Int32}     (lay : Nat → Nat) (σ : RS) (w0 : Int32)  (h : B_X6_takesMark_30 x1 σ w0 = some (σ', r)) : JJ p l e (rmk 1 22 0 0) s m args below meth c (MQ below (va_Qi (fun (r0 : Int32) (u : RS) => r0 = r ∧ u = σ') (BC (RH g A)) A) args s 0 0 A) A 3 (RH g A lay σ) 0 0 30 [] [.int w0, .ref (gm g 0)] := by
  unfold B_X6_takesMark_30 at h
  refine j_iconst 31 C dX6_takesMark_30 ic_3 rfl ?_
  obtain ⟨σ114, r115, hF, h⟩ := bd_e h
  refine k_Vi 34 C K (c_X6_go K.2.2.2 g A lay  hF) cp_X6_go (rv_M) mw_1229 dX6_takesMark_31 rfl rfl (Nat.le_of_ble_eq_true rfl) ⟨Nat.le_of_ble_eq_true rfl, Nat.le_of_ble_eq_true rfl⟩ ⟨Nat.le_of_ble_eq_true rfl, Nat.le_of_ble_eq_true rfl⟩ rfl (fun lay => ?_)
  refine j_goto 80 C dX6_takesMark_34 (by decide) ?_
  obtain ⟨hz116, h⟩ := gd_e h
  cases h
  exact x_z C M dX6_takesMark_80 hz116
set_option maxHeartbeats 4000000 in
set_option maxRecDepth 100000 in
theorem c_X6_takesMark {l : Launch} (hst : l.stackTraces = false) (g : GG) (A : Nat → Prop) (lay : Nat → Nat) {σ : RS} {σ' : RS} {r : Int32} {x1 : Int32}  (h : F_X6_takesMark σ x1 = some (σ', r)) : MI l yX6_takesMark cX6_takesMark 3 .boolean 1 22 0 0 [.ref (gm g 0), .int x1] (RH g A) g A lay σ σ' r := by
  unfold F_X6_takesMark at h
  refine e_i (own := RX6) (lo := [(0, .ref (gm g 0)), (1, .int x1)]) hst (plainFor_of_name (by decide)) rfl rfl (Nat.le_of_ble_eq_true rfl) ?_
  intro p e s m args below meth c C K M
  refine j_aload_n 1 C dX6_takesMark_0 0 rfl rfl ?_
  refine g_M 4 C K 32 (by decide) mw_995 rfl dX6_takesMark_1 rfl ?_
  refine j_iconst 5 C dX6_takesMark_4 ic_5 rfl ?_
  refine j_aload_n 6 C dX6_takesMark_5 0 rfl rfl ?_
  refine g_M 9 C K 31 (by decide) mw_994 rfl dX6_takesMark_6 rfl ?_
  refine j_imul 10 C dX6_takesMark_9 rfl ?_
  obtain ⟨hz101, h⟩ := gd_e h
  refine m_ild 11 C K ra_32 hz101 dX6_takesMark_10 rfl ?_
  refine j_topi (fun x102 ex102 => ?_)
  replace h := lt_e h x102 ex102
  refine j_istore_n 12 C dX6_takesMark_11 (lo' := [(2, .int x102), (0, .ref (gm g 0)), (1, .int x1)]) (by decide) rfl rfl ?_
  refine j_iload_n 13 C dX6_takesMark_12 0 rfl rfl ?_
  refine j_bipush 15 C dX6_takesMark_13 bp_97 rfl ?_
  refine j_icmp_ne 18 37 C dX6_takesMark_15 (by decide) rfl (fun hc103 => ?_) (fun hc103 => ?_)
  · replace h := it_f hc103 h
    refine j_iload_n 38 C dX6_takesMark_37 0 rfl rfl ?_
    refine j_bipush 40 C dX6_takesMark_38 bp_99 rfl ?_
    refine j_icmp_ne 43 63 C dX6_takesMark_40 (by decide) rfl (fun hc104 => ?_) (fun hc104 => ?_)
    · replace h := it_f hc104 h
      refine j_aload_n 64 C dX6_takesMark_63 1 rfl rfl ?_
      refine j_iload_n 65 C dX6_takesMark_64 2 rfl rfl ?_
      refine j_bipush 67 C dX6_takesMark_65 bp_62 rfl ?_
      refine j_icmp_ne 70 74 C dX6_takesMark_67 (by decide) rfl (fun hc105 => ?_) (fun hc105 => ?_)
      · replace h := it_f hc105 h
        refine j_iconst 75 C dX6_takesMark_74 ic_0 rfl ?_
        refine j_sub [] (lo' := []) rfl ?_
        exact wn_X6_takesMark_75 C K M  lay σ (0 : Int32) h
      · replace h := it_t hc105 h
        refine j_iconst 71 C dX6_takesMark_70 ic_1 rfl ?_
        refine j_goto 75 C dX6_takesMark_71 (by decide) ?_
        refine j_sub [] (lo' := []) rfl ?_
        exact wn_X6_takesMark_75 C K M  lay σ (1 : Int32) h
    · replace h := it_t hc104 h
      refine j_aload_n 44 C dX6_takesMark_43 1 rfl rfl ?_
      refine j_iload_n 45 C dX6_takesMark_44 2 rfl rfl ?_
      refine j_bipush 47 C dX6_takesMark_45 bp_45 rfl ?_
      refine j_icmp_ne 50 54 C dX6_takesMark_47 (by decide) rfl (fun hc106 => ?_) (fun hc106 => ?_)
      · replace h := it_f hc106 h
        refine j_iconst 55 C dX6_takesMark_54 ic_0 rfl ?_
        refine j_sub [] (lo' := []) rfl ?_
        exact wn_X6_takesMark_55 C K M  lay σ (0 : Int32) h
      · replace h := it_t hc106 h
        refine j_iconst 51 C dX6_takesMark_50 ic_1 rfl ?_
        refine j_goto 55 C dX6_takesMark_51 (by decide) ?_
        refine j_sub [] (lo' := []) rfl ?_
        exact wn_X6_takesMark_55 C K M  lay σ (1 : Int32) h
  · replace h := it_t hc103 h
    refine j_aload_n 19 C dX6_takesMark_18 1 rfl rfl ?_
    refine j_iload_n 20 C dX6_takesMark_19 2 rfl rfl ?_
    refine j_bipush 22 C dX6_takesMark_20 bp_115 rfl ?_
    refine j_icmp_ne 25 29 C dX6_takesMark_22 (by decide) rfl (fun hc107 => ?_) (fun hc107 => ?_)
    · replace h := it_f hc107 h
      refine j_iconst 30 C dX6_takesMark_29 ic_0 rfl ?_
      refine j_sub [] (lo' := []) rfl ?_
      exact wn_X6_takesMark_30 C K M  lay σ (0 : Int32) h
    · replace h := it_t hc107 h
      refine j_iconst 26 C dX6_takesMark_25 ic_1 rfl ?_
      refine j_goto 30 C dX6_takesMark_26 (by decide) ?_
      refine j_sub [] (lo' := []) rfl ?_
      exact wn_X6_takesMark_30 C K M  lay σ (1 : Int32) h
theorem cp_X6_takesReached : CPv yX6_takesReached cX6_takesReached 4 (some .boolean) RX6 1 := ⟨mw_1251, mw_76, mw_105, mw_1252, rfl, by decide, by decide, by decide +kernel⟩
set_option maxHeartbeats 4000000 in
set_option maxRecDepth 100000 in
theorem wn_X6_takesReached_55 {l : Launch} {p : Program} {e : Env} {s : State} {m : MethodId} {args : Array Value} {below : List Frame} {meth : Method} {c : Code} {g : GG} {A : Nat → Prop} (C : KX p m c cX6_takesReached 4 s args RX6) (K : KC l g A s) (M : KM meth (some .boolean)) {σ' : RS} {r : Int32} {x1 : Int32}     (lay : Nat → Nat) (σ : RS) (v3 : Int32)  (h : B_X6_takesReached_55 x1 σ v3 = some (σ', r)) : JJ p l e (rmk 2 43 0 0) s m args below meth c (MQ below (va_Qi (fun (r0 : Int32) (u : RS) => r0 = r ∧ u = σ') (BC (RH g A)) A) args s 0 0 A) A 4 (RH g A lay σ) 0 0 55 [(3, .int v3)] [] := by
  unfold B_X6_takesReached_55 at h
  refine j_iload_n 56 C dX6_takesReached_55 0 rfl rfl ?_
  obtain ⟨hz112, h⟩ := gd_e h
  cases h
  exact x_z C M dX6_takesReached_56 hz112
set_option maxHeartbeats 4000000 in
set_option maxRecDepth 100000 in
theorem wn_X6_takesReached_26 {l : Launch} {p : Program} {e : Env} {s : State} {m : MethodId} {args : Array Value} {below : List Frame} {meth : Method} {c : Code} {g : GG} {A : Nat → Prop} (C : KX p m c cX6_takesReached 4 s args RX6) (K : KC l g A s) (M : KM meth (some .boolean)) {σ' : RS} {r : Int32} {x1 : Int32}     (lay : Nat → Nat) (σ : RS) (v2 : Int32) (w0 : Int32)  (h : B_X6_takesReached_26 x1 σ v2 w0 = some (σ', r)) : JJ p l e (rmk 2 43 0 0) s m args below meth c (MQ below (va_Qi (fun (r0 : Int32) (u : RS) => r0 = r ∧ u = σ') (BC (RH g A)) A) args s 0 0 A) A 4 (RH g A lay σ) 0 0 26 [(0, .ref (gm g 0)), (2, .int v2)] [.int w0] := by
  unfold B_X6_takesReached_26 at h
  refine j_istore_n 27 C dX6_takesReached_26 (lo' := [(3, .int w0), (0, .ref (gm g 0)), (2, .int v2)]) (by decide) rfl rfl ?_
  refine j_iload_n 28 C dX6_takesReached_27 0 rfl rfl ?_
  refine j_if_eq 31 55 C dX6_takesReached_28 (by decide) rfl (fun hc106 => ?_) (fun hc106 => ?_)
  · replace h := it_t hc106 h
    refine j_sub [0] (lo' := [(3, .int w0)]) rfl ?_
    exact wn_X6_takesReached_55 C K M  lay σ w0 h
  · replace h := it_f hc106 h
    refine j_aload_n 32 C dX6_takesReached_31 1 rfl rfl ?_
    refine j_iload_n 33 C dX6_takesReached_32 2 rfl rfl ?_
    refine p_M 36 C K 33 (by decide) rs_33 rfl mw_996 rfl rfl dX6_takesReached_33 rfl (fun σ107 eσ107 => ?_)
    replace h := lt_e h σ107 eσ107
    refine j_aload_n 37 C dX6_takesReached_36 1 rfl rfl ?_
    refine g_M 40 C K 32 (by decide) mw_995 rfl dX6_takesReached_37 rfl ?_
    refine j_iconst 41 C dX6_takesReached_40 ic_5 rfl ?_
    refine j_aload_n 42 C dX6_takesReached_41 1 rfl rfl ?_
    refine g_M 45 C K 31 (by decide) mw_994 rfl dX6_takesReached_42 rfl ?_
    refine j_imul 46 C dX6_takesReached_45 rfl ?_
    refine j_iconst 47 C dX6_takesReached_46 ic_4 rfl ?_
    refine j_iadd 48 C dX6_takesReached_47 rfl ?_
    refine j_topi (fun x108 ex108 => ?_)
    replace h := lt_e h x108 ex108
    refine j_dup2 49 C dX6_takesReached_48 rfl rfl rfl ?_
    obtain ⟨hz109, h⟩ := gd_e h
    refine m_ild 50 C K ra_32 hz109 dX6_takesReached_49 rfl ?_
    refine j_iconst 51 C dX6_takesReached_50 ic_1 rfl ?_
    refine j_iload_n 52 C dX6_takesReached_51 2 rfl rfl ?_
    refine j_ishl 53 C dX6_takesReached_52 rfl ?_
    refine j_ior 54 C dX6_takesReached_53 rfl ?_
    obtain ⟨hz110, h⟩ := gd_e h
    refine m_ist 55 C K ra_32 hz110 dX6_takesReached_54 rfl (fun σ111 eσ111 => ?_)
    replace h := lt_e h σ111 eσ111
    refine j_sub [0] (lo' := [(3, .int w0)]) rfl ?_
    exact wn_X6_takesReached_55 C K M  lay σ111 w0 h
set_option maxHeartbeats 4000000 in
set_option maxRecDepth 100000 in
theorem wn_X6_takesReached_25 {l : Launch} {p : Program} {e : Env} {s : State} {m : MethodId} {args : Array Value} {below : List Frame} {meth : Method} {c : Code} {g : GG} {A : Nat → Prop} (C : KX p m c cX6_takesReached 4 s args RX6) (K : KC l g A s) (M : KM meth (some .boolean)) {σ' : RS} {r : Int32} {x1 : Int32}     (lay : Nat → Nat) (σ : RS) (v2 : Int32)  (h : B_X6_takesReached_25 x1 σ v2 = some (σ', r)) : JJ p l e (rmk 2 43 0 0) s m args below meth c (MQ below (va_Qi (fun (r0 : Int32) (u : RS) => r0 = r ∧ u = σ') (BC (RH g A)) A) args s 0 0 A) A 4 (RH g A lay σ) 0 0 25 [(0, .ref (gm g 0)), (2, .int v2)] [] := by
  unfold B_X6_takesReached_25 at h
  refine j_iconst 26 C dX6_takesReached_25 ic_0 rfl ?_
  exact wn_X6_takesReached_26 C K M  lay σ v2 (0 : Int32) h
set_option maxHeartbeats 4000000 in
set_option maxRecDepth 100000 in
theorem c_X6_takesReached {l : Launch} (hst : l.stackTraces = false) (g : GG) (A : Nat → Prop) (lay : Nat → Nat) {σ : RS} {σ' : RS} {r : Int32} {x1 : Int32}  (h : F_X6_takesReached σ x1 = some (σ', r)) : MI l yX6_takesReached cX6_takesReached 4 .boolean 2 43 0 0 [.ref (gm g 0), .int x1] (RH g A) g A lay σ σ' r := by
  unfold F_X6_takesReached at h
  refine e_i (own := RX6) (lo := [(0, .ref (gm g 0)), (1, .int x1)]) hst (plainFor_of_name (by decide)) rfl rfl (Nat.le_of_ble_eq_true rfl) ?_
  intro p e s m args below meth c C K M
  refine j_iload_n 1 C dX6_takesReached_0 1 rfl rfl ?_
  refine j_bipush 3 C dX6_takesReached_1 bp_48 rfl ?_
  refine j_isub 4 C dX6_takesReached_3 rfl ?_
  refine j_topi (fun x101 ex101 => ?_)
  replace h := lt_e h x101 ex101
  refine j_istore_n 5 C dX6_takesReached_4 (lo' := [(2, .int x101), (0, .ref (gm g 0)), (1, .int x1)]) (by decide) rfl rfl ?_
  refine j_aload_n 6 C dX6_takesReached_5 1 rfl rfl ?_
  refine j_iload_n 7 C dX6_takesReached_6 0 rfl rfl ?_
  obtain ⟨σ102, r103, hF, h⟩ := bd_e h
  refine k_Vi 10 C K (c_X6_isNode K.2.2.2 g A lay  hF) cp_X6_isNode (rv_M) mw_1093 dX6_takesReached_7 rfl rfl (Nat.le_of_ble_eq_true rfl) ⟨Nat.le_of_ble_eq_true rfl, Nat.le_of_ble_eq_true rfl⟩ ⟨Nat.le_of_ble_eq_true rfl, Nat.le_of_ble_eq_true rfl⟩ rfl (fun lay => ?_)
  refine j_if_eq 13 25 C dX6_takesReached_10 (by decide) rfl (fun hc104 => ?_) (fun hc104 => ?_)
  · replace h := it_t hc104 h
    refine j_sub [1, 0] (lo' := [(0, .ref (gm g 0)), (2, .int x101)]) rfl ?_
    exact wn_X6_takesReached_25 C K M  lay σ102 x101 h
  · replace h := it_f hc104 h
    refine j_iload_n 14 C dX6_takesReached_13 0 rfl rfl ?_
    refine j_aload_n 15 C dX6_takesReached_14 1 rfl rfl ?_
    refine g_M 18 C K 33 (by decide) mw_996 rfl dX6_takesReached_15 rfl ?_
    refine j_icmp_le 21 25 C dX6_takesReached_18 (by decide) rfl (fun hc105 => ?_) (fun hc105 => ?_)
    · replace h := it_t hc105 h
      refine j_sub [1, 0] (lo' := [(0, .ref (gm g 0)), (2, .int x101)]) rfl ?_
      exact wn_X6_takesReached_25 C K M  lay σ102 x101 h
    · replace h := it_f hc105 h
      refine j_iconst 22 C dX6_takesReached_21 ic_1 rfl ?_
      refine j_goto 26 C dX6_takesReached_22 (by decide) ?_
      refine j_sub [1, 0] (lo' := [(0, .ref (gm g 0)), (2, .int x101)]) rfl ?_
      exact wn_X6_takesReached_26 C K M  lay σ102 x101 (1 : Int32) h
theorem cp_X6_takesFigure : CPv yX6_takesFigure cX6_takesFigure 3 (some .boolean) RX6 1 := ⟨mw_1255, mw_77, mw_105, mw_1256, rfl, by decide, by decide, by decide +kernel⟩
set_option maxHeartbeats 4000000 in
set_option maxRecDepth 100000 in
theorem wn_X6_takesFigure_78 {l : Launch} {p : Program} {e : Env} {s : State} {m : MethodId} {args : Array Value} {below : List Frame} {meth : Method} {c : Code} {g : GG} {A : Nat → Prop} (C : KX p m c cX6_takesFigure 3 s args RX6) (K : KC l g A s) (M : KM meth (some .boolean)) {σ' : RS} {r : Int32} {x1 : Int32}     (lay : Nat → Nat) (σ : RS) (w0 : Int32) (w1 : Int32)  (h : B_X6_takesFigure_78 x1 σ w0 w1 = some (σ', r)) : JJ p l e (rmk 2 43 0 0) s m args below meth c (MQ below (va_Qi (fun (r0 : Int32) (u : RS) => r0 = r ∧ u = σ') (BC (RH g A)) A) args s 0 0 A) A 3 (RH g A lay σ) 0 0 78 [] [.int w0, .int w1, .ref (gm g 0)] := by
  unfold B_X6_takesFigure_78 at h
  obtain ⟨σ111, r112, hF, h⟩ := bd_e h
  refine k_Vi 81 C K (c_X6_go K.2.2.2 g A lay  hF) cp_X6_go (rv_M) mw_1229 dX6_takesFigure_78 rfl rfl (Nat.le_of_ble_eq_true rfl) ⟨Nat.le_of_ble_eq_true rfl, Nat.le_of_ble_eq_true rfl⟩ ⟨Nat.le_of_ble_eq_true rfl, Nat.le_of_ble_eq_true rfl⟩ rfl (fun lay => ?_)
  obtain ⟨hz113, h⟩ := gd_e h
  cases h
  exact x_z C M dX6_takesFigure_81 hz113
set_option maxHeartbeats 4000000 in
set_option maxRecDepth 100000 in
theorem wn_X6_takesFigure_48 {l : Launch} {p : Program} {e : Env} {s : State} {m : MethodId} {args : Array Value} {below : List Frame} {meth : Method} {c : Code} {g : GG} {A : Nat → Prop} (C : KX p m c cX6_takesFigure 3 s args RX6) (K : KC l g A s) (M : KM meth (some .boolean)) {σ' : RS} {r : Int32} {x1 : Int32}     (lay : Nat → Nat) (σ : RS) (w0 : Int32)  (h : B_X6_takesFigure_48 x1 σ w0 = some (σ', r)) : JJ p l e (rmk 2 43 0 0) s m args below meth c (MQ below (va_Qi (fun (r0 : Int32) (u : RS) => r0 = r ∧ u = σ') (BC (RH g A)) A) args s 0 0 A) A 3 (RH g A lay σ) 0 0 48 [(0, .ref (gm g 0))] [.int w0] := by
  unfold B_X6_takesFigure_48 at h
  refine j_istore_n 49 C dX6_takesFigure_48 (lo' := [(2, .int w0), (0, .ref (gm g 0))]) (by decide) rfl rfl ?_
  refine j_aload_n 50 C dX6_takesFigure_49 1 rfl rfl ?_
  refine j_iload_n 51 C dX6_takesFigure_50 0 rfl rfl ?_
  refine j_aload_n 52 C dX6_takesFigure_51 1 rfl rfl ?_
  refine g_M 55 C K 30 (by decide) mw_993 rfl dX6_takesFigure_52 rfl ?_
  refine j_iconst 56 C dX6_takesFigure_55 ic_3 rfl ?_
  refine j_icmp_ne 59 63 C dX6_takesFigure_56 (by decide) rfl (fun hc109 => ?_) (fun hc109 => ?_)
  · replace h := it_f hc109 h
    refine j_aload_n 64 C dX6_takesFigure_63 1 rfl rfl ?_
    refine g_M 67 C K 30 (by decide) mw_993 rfl dX6_takesFigure_64 rfl ?_
    refine j_iconst 68 C dX6_takesFigure_67 ic_5 rfl ?_
    refine j_icmp_ne 71 76 C dX6_takesFigure_68 (by decide) rfl (fun hc110 => ?_) (fun hc110 => ?_)
    · replace h := it_f hc110 h
      refine j_bipush 78 C dX6_takesFigure_76 bp_9 rfl ?_
      refine j_sub [] (lo' := []) rfl ?_
      exact wn_X6_takesFigure_78 C K M  lay σ (9 : Int32) w0 h
    · replace h := it_t hc110 h
      refine j_bipush 73 C dX6_takesFigure_71 bp_6 rfl ?_
      refine j_goto 78 C dX6_takesFigure_73 (by decide) ?_
      refine j_sub [] (lo' := []) rfl ?_
      exact wn_X6_takesFigure_78 C K M  lay σ (6 : Int32) w0 h
  · replace h := it_t hc109 h
    refine j_iconst 60 C dX6_takesFigure_59 ic_4 rfl ?_
    refine j_goto 78 C dX6_takesFigure_60 (by decide) ?_
    refine j_sub [] (lo' := []) rfl ?_
    exact wn_X6_takesFigure_78 C K M  lay σ (4 : Int32) w0 h
set_option maxHeartbeats 4000000 in
set_option maxRecDepth 100000 in
theorem wn_X6_takesFigure_14 {l : Launch} {p : Program} {e : Env} {s : State} {m : MethodId} {args : Array Value} {below : List Frame} {meth : Method} {c : Code} {g : GG} {A : Nat → Prop} (C : KX p m c cX6_takesFigure 3 s args RX6) (K : KC l g A s) (M : KM meth (some .boolean)) {σ' : RS} {r : Int32} {x1 : Int32}     (lay : Nat → Nat) (σ : RS) (w0 : Int32)  (h : B_X6_takesFigure_14 x1 σ w0 = some (σ', r)) : JJ p l e (rmk 2 43 0 0) s m args below meth c (MQ below (va_Qi (fun (r0 : Int32) (u : RS) => r0 = r ∧ u = σ') (BC (RH g A)) A) args s 0 0 A) A 3 (RH g A lay σ) 0 0 14 [(0, .ref (gm g 0)), (1, .int x1)] [.int w0, .ref (gm g 0)] := by
  unfold B_X6_takesFigure_14 at h
  refine j_iload_n 15 C dX6_takesFigure_14 1 rfl rfl ?_
  refine j_bipush 17 C dX6_takesFigure_15 bp_48 rfl ?_
  refine j_isub 18 C dX6_takesFigure_17 rfl ?_
  obtain ⟨σ102, u103, hF, h⟩ := bd_e h
  refine k_Vv 21 C K (c_X6_put K.2.2.2 g A lay  hF) cp_X6_put (rv_M) mw_1237 dX6_takesFigure_18 rfl rfl (Nat.le_of_ble_eq_true rfl) ⟨Nat.le_of_ble_eq_true rfl, Nat.le_of_ble_eq_true rfl⟩ ⟨Nat.le_of_ble_eq_true rfl, Nat.le_of_ble_eq_true rfl⟩ rfl (fun lay => ?_)
  refine j_aload_n 22 C dX6_takesFigure_21 0 rfl rfl ?_
  refine g_M 25 C K 30 (by decide) mw_993 rfl dX6_takesFigure_22 rfl ?_
  refine j_iconst 26 C dX6_takesFigure_25 ic_3 rfl ?_
  refine j_icmp_ne 29 40 C dX6_takesFigure_26 (by decide) rfl (fun hc104 => ?_) (fun hc104 => ?_)
  · replace h := it_f hc104 h
    refine j_iload_n 41 C dX6_takesFigure_40 1 rfl rfl ?_
    refine j_bipush 43 C dX6_takesFigure_41 bp_48 rfl ?_
    refine j_bipush 45 C dX6_takesFigure_43 bp_57 rfl ?_
    obtain ⟨σ105, r106, hF, h⟩ := bd_e h
    refine k_Si 48 C K (c_X6_within K.2.2.2 g A lay  hF) cp_X6_within mw_1078 dX6_takesFigure_45 rfl rfl (Nat.le_of_ble_eq_true rfl) ⟨Nat.le_of_ble_eq_true rfl, Nat.le_of_ble_eq_true rfl⟩ ⟨Nat.le_of_ble_eq_true rfl, Nat.le_of_ble_eq_true rfl⟩ rfl (fun lay => ?_)
    refine j_sub [0] (lo' := [(0, .ref (gm g 0))]) rfl ?_
    exact wn_X6_takesFigure_48 C K M  lay σ105 r106 h
  · replace h := it_t hc104 h
    refine j_aload_n 30 C dX6_takesFigure_29 0 rfl rfl ?_
    refine j_iload_n 31 C dX6_takesFigure_30 1 rfl rfl ?_
    refine j_bipush 33 C dX6_takesFigure_31 bp_48 rfl ?_
    refine j_isub 34 C dX6_takesFigure_33 rfl ?_
    obtain ⟨σ107, r108, hF, h⟩ := bd_e h
    refine k_Vi 37 C K (c_X6_isSlot K.2.2.2 g A lay  hF) cp_X6_isSlot (rv_M) mw_1141 dX6_takesFigure_34 rfl rfl (Nat.le_of_ble_eq_true rfl) ⟨Nat.le_of_ble_eq_true rfl, Nat.le_of_ble_eq_true rfl⟩ ⟨Nat.le_of_ble_eq_true rfl, Nat.le_of_ble_eq_true rfl⟩ rfl (fun lay => ?_)
    refine j_goto 48 C dX6_takesFigure_37 (by decide) ?_
    refine j_sub [0] (lo' := [(0, .ref (gm g 0))]) rfl ?_
    exact wn_X6_takesFigure_48 C K M  lay σ107 r108 h
set_option maxHeartbeats 4000000 in
set_option maxRecDepth 100000 in
theorem c_X6_takesFigure {l : Launch} (hst : l.stackTraces = false) (g : GG) (A : Nat → Prop) (lay : Nat → Nat) {σ : RS} {σ' : RS} {r : Int32} {x1 : Int32}  (h : F_X6_takesFigure σ x1 = some (σ', r)) : MI l yX6_takesFigure cX6_takesFigure 3 .boolean 2 43 0 0 [.ref (gm g 0), .int x1] (RH g A) g A lay σ σ' r := by
  unfold F_X6_takesFigure at h
  refine e_i (own := RX6) (lo := [(0, .ref (gm g 0)), (1, .int x1)]) hst (plainFor_of_name (by decide)) rfl rfl (Nat.le_of_ble_eq_true rfl) ?_
  intro p e s m args below meth c C K M
  refine j_aload_n 1 C dX6_takesFigure_0 0 rfl rfl ?_
  refine j_aload_n 2 C dX6_takesFigure_1 0 rfl rfl ?_
  refine g_M 5 C K 30 (by decide) mw_993 rfl dX6_takesFigure_2 rfl ?_
  refine j_iconst 6 C dX6_takesFigure_5 ic_3 rfl ?_
  refine j_icmp_ne 9 13 C dX6_takesFigure_6 (by decide) rfl (fun hc101 => ?_) (fun hc101 => ?_)
  · replace h := it_f hc101 h
    refine j_iconst 14 C dX6_takesFigure_13 ic_3 rfl ?_
    exact wn_X6_takesFigure_14 C K M  lay σ (3 : Int32) h
  · replace h := it_t hc101 h
    refine j_iconst 10 C dX6_takesFigure_9 ic_2 rfl ?_
    refine j_goto 14 C dX6_takesFigure_10 (by decide) ?_
    exact wn_X6_takesFigure_14 C K M  lay σ (2 : Int32) h
theorem cp_X6_mayEnd : CPv yX6_mayEnd cX6_mayEnd 1 (some .boolean) RX6 0 := ⟨mw_1227, mw_70, mw_105, mw_1228, rfl, by decide, by decide, by decide +kernel⟩
set_option maxHeartbeats 4000000 in
set_option maxRecDepth 100000 in
theorem wn_X6_mayEnd_30 {l : Launch} {p : Program} {e : Env} {s : State} {m : MethodId} {args : Array Value} {below : List Frame} {meth : Method} {c : Code} {g : GG} {A : Nat → Prop} (C : KX p m c cX6_mayEnd 1 s args RX6) (K : KC l g A s) (M : KM meth (some .boolean)) {σ' : RS} {r : Int32}      (lay : Nat → Nat) (σ : RS)   (h : B_X6_mayEnd_30  σ  = some (σ', r)) : JJ p l e (rmk 0 0 0 0) s m args below meth c (MQ below (va_Qi (fun (r0 : Int32) (u : RS) => r0 = r ∧ u = σ') (BC (RH g A)) A) args s 0 0 A) A 1 (RH g A lay σ) 0 0 30 [] [] := by
  unfold B_X6_mayEnd_30 at h
  refine j_iconst 31 C dX6_mayEnd_30 ic_0 rfl ?_
  cases h
  exact x_z C M dX6_mayEnd_31 (by decide)
set_option maxHeartbeats 4000000 in
set_option maxRecDepth 100000 in
theorem wn_X6_mayEnd_26 {l : Launch} {p : Program} {e : Env} {s : State} {m : MethodId} {args : Array Value} {below : List Frame} {meth : Method} {c : Code} {g : GG} {A : Nat → Prop} (C : KX p m c cX6_mayEnd 1 s args RX6) (K : KC l g A s) (M : KM meth (some .boolean)) {σ' : RS} {r : Int32}      (lay : Nat → Nat) (σ : RS)   (h : B_X6_mayEnd_26  σ  = some (σ', r)) : JJ p l e (rmk 0 0 0 0) s m args below meth c (MQ below (va_Qi (fun (r0 : Int32) (u : RS) => r0 = r ∧ u = σ') (BC (RH g A)) A) args s 0 0 A) A 1 (RH g A lay σ) 0 0 26 [] [] := by
  unfold B_X6_mayEnd_26 at h
  refine j_iconst 27 C dX6_mayEnd_26 ic_1 rfl ?_
  refine j_goto 31 C dX6_mayEnd_27 (by decide) ?_
  cases h
  exact x_z C M dX6_mayEnd_31 (by decide)
set_option maxHeartbeats 4000000 in
set_option maxRecDepth 100000 in
theorem c_X6_mayEnd {l : Launch} (hst : l.stackTraces = false) (g : GG) (A : Nat → Prop) (lay : Nat → Nat) {σ : RS} {σ' : RS} {r : Int32}   (h : F_X6_mayEnd σ  = some (σ', r)) : MI l yX6_mayEnd cX6_mayEnd 1 .boolean 0 0 0 0 [.ref (gm g 0)] (RH g A) g A lay σ σ' r := by
  unfold F_X6_mayEnd at h
  refine e_i (own := RX6) (lo := [(0, .ref (gm g 0))]) hst (plainFor_of_name (by decide)) rfl rfl (Nat.le_of_ble_eq_true rfl) ?_
  intro p e s m args below meth c C K M
  refine j_aload_n 1 C dX6_mayEnd_0 0 rfl rfl ?_
  refine g_M 4 C K 30 (by decide) mw_993 rfl dX6_mayEnd_1 rfl ?_
  refine j_bipush 6 C dX6_mayEnd_4 bp_9 rfl ?_
  refine j_icmp_eq 9 26 C dX6_mayEnd_6 (by decide) rfl (fun hc101 => ?_) (fun hc101 => ?_)
  · replace h := it_t hc101 h
    refine j_sub [] (lo' := []) rfl ?_
    exact wn_X6_mayEnd_26 C K M  lay σ  h
  · replace h := it_f hc101 h
    refine j_aload_n 10 C dX6_mayEnd_9 0 rfl rfl ?_
    refine g_M 13 C K 30 (by decide) mw_993 rfl dX6_mayEnd_10 rfl ?_
    refine j_bipush 15 C dX6_mayEnd_13 bp_7 rfl ?_
    refine j_icmp_ne 18 30 C dX6_mayEnd_15 (by decide) rfl (fun hc102 => ?_) (fun hc102 => ?_)
    · replace h := it_f hc102 h
      refine j_sub [] (lo' := []) rfl ?_
      exact wn_X6_mayEnd_30 C K M  lay σ  h
    · replace h := it_t hc102 h
      refine j_aload_n 19 C dX6_mayEnd_18 0 rfl rfl ?_
      refine g_M 22 C K 33 (by decide) mw_996 rfl dX6_mayEnd_19 rfl ?_
      refine j_iconst 23 C dX6_mayEnd_22 ic_m1 rfl ?_
      refine j_icmp_eq 26 30 C dX6_mayEnd_23 (by decide) rfl (fun hc103 => ?_) (fun hc103 => ?_)
      · replace h := it_t hc103 h
        refine j_sub [] (lo' := []) rfl ?_
        exact wn_X6_mayEnd_30 C K M  lay σ  h
      · replace h := it_f hc103 h
        refine j_sub [] (lo' := []) rfl ?_
        exact wn_X6_mayEnd_26 C K M  lay σ  h
theorem cp_X6_takes : CPv yX6_takes cX6_takes 2 (some .boolean) RX6 1 := ⟨mw_1223, mw_69, mw_105, mw_1224, rfl, by decide, by decide, by decide +kernel⟩
set_option maxHeartbeats 4000000 in
set_option maxRecDepth 100000 in
theorem wn_X6_takes_135 {l : Launch} {p : Program} {e : Env} {s : State} {m : MethodId} {args : Array Value} {below : List Frame} {meth : Method} {c : Code} {g : GG} {A : Nat → Prop} (C : KX p m c cX6_takes 2 s args RX6) (K : KC l g A s) (M : KM meth (some .boolean)) {σ' : RS} {r : Int32} {x1 : Int32}     (lay : Nat → Nat) (σ : RS) (w0 : Int32)  (h : B_X6_takes_135 x1 σ w0 = some (σ', r)) : JJ p l e (rmk 3 66 0 0) s m args below meth c (MQ below (va_Qi (fun (r0 : Int32) (u : RS) => r0 = r ∧ u = σ') (BC (RH g A)) A) args s 0 0 A) A 2 (RH g A lay σ) 0 0 135 [] [.int w0, .ref (gm g 0)] := by
  unfold B_X6_takes_135 at h
  refine j_bipush 137 C dX6_takes_135 bp_7 rfl ?_
  obtain ⟨σ149, r150, hF, h⟩ := bd_e h
  refine k_Vi 140 C K (c_X6_go K.2.2.2 g A lay  hF) cp_X6_go (rv_M) mw_1229 dX6_takes_137 rfl rfl (Nat.le_of_ble_eq_true rfl) ⟨Nat.le_of_ble_eq_true rfl, Nat.le_of_ble_eq_true rfl⟩ ⟨Nat.le_of_ble_eq_true rfl, Nat.le_of_ble_eq_true rfl⟩ rfl (fun lay => ?_)
  obtain ⟨hz151, h⟩ := gd_e h
  cases h
  exact x_z C M dX6_takes_140 hz151
set_option maxHeartbeats 4000000 in
set_option maxRecDepth 100000 in
theorem wn_X6_takes_118 {l : Launch} {p : Program} {e : Env} {s : State} {m : MethodId} {args : Array Value} {below : List Frame} {meth : Method} {c : Code} {g : GG} {A : Nat → Prop} (C : KX p m c cX6_takes 2 s args RX6) (K : KC l g A s) (M : KM meth (some .boolean)) {σ' : RS} {r : Int32} {x1 : Int32}     (lay : Nat → Nat) (σ : RS) (w0 : Int32)  (h : B_X6_takes_118 x1 σ w0 = some (σ', r)) : JJ p l e (rmk 3 66 0 0) s m args below meth c (MQ below (va_Qi (fun (r0 : Int32) (u : RS) => r0 = r ∧ u = σ') (BC (RH g A)) A) args s 0 0 A) A 2 (RH g A lay σ) 0 0 118 [] [.int w0, .ref (gm g 0)] := by
  unfold B_X6_takes_118 at h
  refine j_iconst 119 C dX6_takes_118 ic_5 rfl ?_
  obtain ⟨σ146, r147, hF, h⟩ := bd_e h
  refine k_Vi 122 C K (c_X6_go K.2.2.2 g A lay  hF) cp_X6_go (rv_M) mw_1229 dX6_takes_119 rfl rfl (Nat.le_of_ble_eq_true rfl) ⟨Nat.le_of_ble_eq_true rfl, Nat.le_of_ble_eq_true rfl⟩ ⟨Nat.le_of_ble_eq_true rfl, Nat.le_of_ble_eq_true rfl⟩ rfl (fun lay => ?_)
  obtain ⟨hz148, h⟩ := gd_e h
  cases h
  exact x_z C M dX6_takes_122 hz148
set_option maxHeartbeats 4000000 in
set_option maxRecDepth 100000 in
theorem wn_X6_takes_30 {l : Launch} {p : Program} {e : Env} {s : State} {m : MethodId} {args : Array Value} {below : List Frame} {meth : Method} {c : Code} {g : GG} {A : Nat → Prop} (C : KX p m c cX6_takes 2 s args RX6) (K : KC l g A s) (M : KM meth (some .boolean)) {σ' : RS} {r : Int32} {x1 : Int32}     (lay : Nat → Nat) (σ : RS)   (h : B_X6_takes_30 x1 σ  = some (σ', r)) : JJ p l e (rmk 3 66 0 0) s m args below meth c (MQ below (va_Qi (fun (r0 : Int32) (u : RS) => r0 = r ∧ u = σ') (BC (RH g A)) A) args s 0 0 A) A 2 (RH g A lay σ) 0 0 30 [(0, .ref (gm g 0)), (1, .int x1)] [] := by
  unfold B_X6_takes_30 at h
  refine j_aload_n 31 C dX6_takes_30 0 rfl rfl ?_
  refine g_M 34 C K 30 (by decide) mw_993 rfl dX6_takes_31 rfl ?_
  refine j_topi (fun x109 ex109 => ?_)
  replace h := lt_e h x109 ex109
  by_cases hc110 : x109 = 0
  · replace h := it_t hc110 h
    refine j_tin 88 C dX6_takes_34 (off := 54) (by rw [hc110]; decide) (by rw [hc110]; decide) (by rw [hc110]; decide) (by decide) ?_
    refine j_aload_n 89 C dX6_takes_88 0 rfl rfl ?_
    refine j_iload_n 90 C dX6_takes_89 1 rfl rfl ?_
    obtain ⟨σ111, r112, hF, h⟩ := bd_e h
    refine k_Vi 93 C K (c_X6_begins K.2.2.2 g A lay  hF) cp_X6_begins (rv_M) mw_1233 dX6_takes_90 rfl rfl (Nat.le_of_ble_eq_true rfl) ⟨Nat.le_of_ble_eq_true rfl, Nat.le_of_ble_eq_true rfl⟩ ⟨Nat.le_of_ble_eq_true rfl, Nat.le_of_ble_eq_true rfl⟩ rfl (fun lay => ?_)
    obtain ⟨hz113, h⟩ := gd_e h
    cases h
    exact x_z C M dX6_takes_93 hz113
  replace h := it_f hc110 h
  by_cases hc114 : x109 = 1
  · replace h := it_t hc114 h
    refine j_tin 94 C dX6_takes_34 (off := 60) (by rw [hc114]; decide) (by rw [hc114]; decide) (by rw [hc114]; decide) (by decide) ?_
    refine j_aload_n 95 C dX6_takes_94 0 rfl rfl ?_
    refine j_iload_n 96 C dX6_takes_95 1 rfl rfl ?_
    obtain ⟨σ115, r116, hF, h⟩ := bd_e h
    refine k_Vi 99 C K (c_X6_takesNode K.2.2.2 g A lay  hF) cp_X6_takesNode (rv_M) mw_1241 dX6_takes_96 rfl rfl (Nat.le_of_ble_eq_true rfl) ⟨Nat.le_of_ble_eq_true rfl, Nat.le_of_ble_eq_true rfl⟩ ⟨Nat.le_of_ble_eq_true rfl, Nat.le_of_ble_eq_true rfl⟩ rfl (fun lay => ?_)
    obtain ⟨hz117, h⟩ := gd_e h
    cases h
    exact x_z C M dX6_takes_99 hz117
  replace h := it_f hc114 h
  by_cases hc118 : x109 = 2
  · replace h := it_t hc118 h
    refine j_tin 100 C dX6_takes_34 (off := 66) (by rw [hc118]; decide) (by rw [hc118]; decide) (by rw [hc118]; decide) (by decide) ?_
    refine j_aload_n 101 C dX6_takes_100 0 rfl rfl ?_
    refine j_iload_n 102 C dX6_takes_101 1 rfl rfl ?_
    obtain ⟨σ119, r120, hF, h⟩ := bd_e h
    refine k_Vi 105 C K (c_X6_takesMark K.2.2.2 g A lay  hF) cp_X6_takesMark (rv_M) mw_1245 dX6_takes_102 rfl rfl (Nat.le_of_ble_eq_true rfl) ⟨Nat.le_of_ble_eq_true rfl, Nat.le_of_ble_eq_true rfl⟩ ⟨Nat.le_of_ble_eq_true rfl, Nat.le_of_ble_eq_true rfl⟩ rfl (fun lay => ?_)
    obtain ⟨hz121, h⟩ := gd_e h
    cases h
    exact x_z C M dX6_takes_105 hz121
  replace h := it_f hc118 h
  by_cases hc122 : x109 = 3
  · replace h := it_t hc122 h
    refine j_tin 149 C dX6_takes_34 (off := 115) (by rw [hc122]; decide) (by rw [hc122]; decide) (by rw [hc122]; decide) (by decide) ?_
    refine j_aload_n 150 C dX6_takes_149 0 rfl rfl ?_
    refine j_iload_n 151 C dX6_takes_150 1 rfl rfl ?_
    obtain ⟨σ123, r124, hF, h⟩ := bd_e h
    refine k_Vi 154 C K (c_X6_takesFigure K.2.2.2 g A lay  hF) cp_X6_takesFigure (rv_M) mw_1253 dX6_takes_151 rfl rfl (Nat.le_of_ble_eq_true rfl) ⟨Nat.le_of_ble_eq_true rfl, Nat.le_of_ble_eq_true rfl⟩ ⟨Nat.le_of_ble_eq_true rfl, Nat.le_of_ble_eq_true rfl⟩ rfl (fun lay => ?_)
    obtain ⟨hz125, h⟩ := gd_e h
    cases h
    exact x_z C M dX6_takes_154 hz125
  replace h := it_f hc122 h
  by_cases hc126 : x109 = 4
  · replace h := it_t hc126 h
    refine j_tin 106 C dX6_takes_34 (off := 72) (by rw [hc126]; decide) (by rw [hc126]; decide) (by rw [hc126]; decide) (by decide) ?_
    refine j_aload_n 107 C dX6_takes_106 0 rfl rfl ?_
    refine j_iload_n 108 C dX6_takes_107 1 rfl rfl ?_
    refine j_bipush 110 C dX6_takes_108 bp_61 rfl ?_
    refine j_icmp_ne 113 117 C dX6_takes_110 (by decide) rfl (fun hc127 => ?_) (fun hc127 => ?_)
    · replace h := it_f hc127 h
      refine j_iconst 118 C dX6_takes_117 ic_0 rfl ?_
      refine j_sub [] (lo' := []) rfl ?_
      exact wn_X6_takes_118 C K M  lay σ (0 : Int32) h
    · replace h := it_t hc127 h
      refine j_iconst 114 C dX6_takes_113 ic_1 rfl ?_
      refine j_goto 118 C dX6_takes_114 (by decide) ?_
      refine j_sub [] (lo' := []) rfl ?_
      exact wn_X6_takes_118 C K M  lay σ (1 : Int32) h
  replace h := it_f hc126 h
  by_cases hc128 : x109 = 5
  · replace h := it_t hc128 h
    refine j_tin 149 C dX6_takes_34 (off := 115) (by rw [hc128]; decide) (by rw [hc128]; decide) (by rw [hc128]; decide) (by decide) ?_
    refine j_aload_n 150 C dX6_takes_149 0 rfl rfl ?_
    refine j_iload_n 151 C dX6_takes_150 1 rfl rfl ?_
    obtain ⟨σ129, r130, hF, h⟩ := bd_e h
    refine k_Vi 154 C K (c_X6_takesFigure K.2.2.2 g A lay  hF) cp_X6_takesFigure (rv_M) mw_1253 dX6_takes_151 rfl rfl (Nat.le_of_ble_eq_true rfl) ⟨Nat.le_of_ble_eq_true rfl, Nat.le_of_ble_eq_true rfl⟩ ⟨Nat.le_of_ble_eq_true rfl, Nat.le_of_ble_eq_true rfl⟩ rfl (fun lay => ?_)
    obtain ⟨hz131, h⟩ := gd_e h
    cases h
    exact x_z C M dX6_takes_154 hz131
  replace h := it_f hc128 h
  by_cases hc132 : x109 = 6
  · replace h := it_t hc132 h
    refine j_tin 123 C dX6_takes_34 (off := 89) (by rw [hc132]; decide) (by rw [hc132]; decide) (by rw [hc132]; decide) (by decide) ?_
    refine j_aload_n 124 C dX6_takes_123 0 rfl rfl ?_
    refine j_iload_n 125 C dX6_takes_124 1 rfl rfl ?_
    refine j_bipush 127 C dX6_takes_125 bp_62 rfl ?_
    refine j_icmp_ne 130 134 C dX6_takes_127 (by decide) rfl (fun hc133 => ?_) (fun hc133 => ?_)
    · replace h := it_f hc133 h
      refine j_iconst 135 C dX6_takes_134 ic_0 rfl ?_
      refine j_sub [] (lo' := []) rfl ?_
      exact wn_X6_takes_135 C K M  lay σ (0 : Int32) h
    · replace h := it_t hc133 h
      refine j_iconst 131 C dX6_takes_130 ic_1 rfl ?_
      refine j_goto 135 C dX6_takes_131 (by decide) ?_
      refine j_sub [] (lo' := []) rfl ?_
      exact wn_X6_takes_135 C K M  lay σ (1 : Int32) h
  replace h := it_f hc132 h
  by_cases hc134 : x109 = 7
  · replace h := it_t hc134 h
    refine j_tin 141 C dX6_takes_34 (off := 107) (by rw [hc134]; decide) (by rw [hc134]; decide) (by rw [hc134]; decide) (by decide) ?_
    refine j_aload_n 142 C dX6_takes_141 0 rfl rfl ?_
    refine j_iload_n 143 C dX6_takes_142 1 rfl rfl ?_
    obtain ⟨σ135, r136, hF, h⟩ := bd_e h
    refine k_Vi 146 C K (c_X6_takesReached K.2.2.2 g A lay  hF) cp_X6_takesReached (rv_M) mw_1249 dX6_takes_143 rfl rfl (Nat.le_of_ble_eq_true rfl) ⟨Nat.le_of_ble_eq_true rfl, Nat.le_of_ble_eq_true rfl⟩ ⟨Nat.le_of_ble_eq_true rfl, Nat.le_of_ble_eq_true rfl⟩ rfl (fun lay => ?_)
    obtain ⟨hz137, h⟩ := gd_e h
    cases h
    exact x_z C M dX6_takes_146 hz137
  replace h := it_f hc134 h
  by_cases hc138 : x109 = 8
  · replace h := it_t hc138 h
    refine j_tin 149 C dX6_takes_34 (off := 115) (by rw [hc138]; decide) (by rw [hc138]; decide) (by rw [hc138]; decide) (by decide) ?_
    refine j_aload_n 150 C dX6_takes_149 0 rfl rfl ?_
    refine j_iload_n 151 C dX6_takes_150 1 rfl rfl ?_
    obtain ⟨σ139, r140, hF, h⟩ := bd_e h
    refine k_Vi 154 C K (c_X6_takesFigure K.2.2.2 g A lay  hF) cp_X6_takesFigure (rv_M) mw_1253 dX6_takes_151 rfl rfl (Nat.le_of_ble_eq_true rfl) ⟨Nat.le_of_ble_eq_true rfl, Nat.le_of_ble_eq_true rfl⟩ ⟨Nat.le_of_ble_eq_true rfl, Nat.le_of_ble_eq_true rfl⟩ rfl (fun lay => ?_)
    obtain ⟨hz141, h⟩ := gd_e h
    cases h
    exact x_z C M dX6_takes_154 hz141
  replace h := it_f hc138 h
  by_cases hc142 : x109 = 9
  · replace h := it_t hc142 h
    refine j_tin 147 C dX6_takes_34 (off := 113) (by rw [hc142]; decide) (by rw [hc142]; decide) (by rw [hc142]; decide) (by decide) ?_
    refine j_iconst 148 C dX6_takes_147 ic_0 rfl ?_
    cases h
    exact x_z C M dX6_takes_148 (by decide)
  replace h := it_f hc142 h
  refine j_tout 149 C dX6_takes_34 (by have := lv_neT hc110 (a := 0) (by decide); have := lv_neT hc114 (a := 1) (by decide); have := lv_neT hc118 (a := 2) (by decide); have := lv_neT hc122 (a := 3) (by decide); have := lv_neT hc126 (a := 4) (by decide); have := lv_neT hc128 (a := 5) (by decide); have := lv_neT hc132 (a := 6) (by decide); have := lv_neT hc134 (a := 7) (by decide); have := lv_neT hc138 (a := 8) (by decide); have := lv_neT hc142 (a := 9) (by decide); omega) (by decide) ?_
  refine j_aload_n 150 C dX6_takes_149 0 rfl rfl ?_
  refine j_iload_n 151 C dX6_takes_150 1 rfl rfl ?_
  obtain ⟨σ143, r144, hF, h⟩ := bd_e h
  refine k_Vi 154 C K (c_X6_takesFigure K.2.2.2 g A lay  hF) cp_X6_takesFigure (rv_M) mw_1253 dX6_takes_151 rfl rfl (Nat.le_of_ble_eq_true rfl) ⟨Nat.le_of_ble_eq_true rfl, Nat.le_of_ble_eq_true rfl⟩ ⟨Nat.le_of_ble_eq_true rfl, Nat.le_of_ble_eq_true rfl⟩ rfl (fun lay => ?_)
  obtain ⟨hz145, h⟩ := gd_e h
  cases h
  exact x_z C M dX6_takes_154 hz145
set_option maxHeartbeats 4000000 in
set_option maxRecDepth 100000 in
theorem c_X6_takes {l : Launch} (hst : l.stackTraces = false) (g : GG) (A : Nat → Prop) (lay : Nat → Nat) {σ : RS} {σ' : RS} {r : Int32} {x1 : Int32}  (h : F_X6_takes σ x1 = some (σ', r)) : MI l yX6_takes cX6_takes 2 .boolean 3 66 0 0 [.ref (gm g 0), .int x1] (RH g A) g A lay σ σ' r := by
  unfold F_X6_takes at h
  refine e_i (own := RX6) (lo := [(0, .ref (gm g 0)), (1, .int x1)]) hst (plainFor_of_name (by decide)) rfl rfl (Nat.le_of_ble_eq_true rfl) ?_
  intro p e s m args below meth c C K M
  refine j_iload_n 1 C dX6_takes_0 1 rfl rfl ?_
  refine j_bipush 3 C dX6_takes_1 bp_59 rfl ?_
  refine j_icmp_ne 6 30 C dX6_takes_3 (by decide) rfl (fun hc101 => ?_) (fun hc101 => ?_)
  · replace h := it_f hc101 h
    exact wn_X6_takes_30 C K M  lay σ  h
  · replace h := it_t hc101 h
    refine j_aload_n 7 C dX6_takes_6 0 rfl rfl ?_
    obtain ⟨σ102, r103, hF, h⟩ := bd_e h
    refine k_Vi 10 C K (c_X6_mayEnd K.2.2.2 g A lay  hF) cp_X6_mayEnd (rv_M) mw_1225 dX6_takes_7 rfl rfl (Nat.le_of_ble_eq_true rfl) ⟨Nat.le_of_ble_eq_true rfl, Nat.le_of_ble_eq_true rfl⟩ ⟨Nat.le_of_ble_eq_true rfl, Nat.le_of_ble_eq_true rfl⟩ rfl (fun lay => ?_)
    refine j_if_eq 13 30 C dX6_takes_10 (by decide) rfl (fun hc104 => ?_) (fun hc104 => ?_)
    · replace h := it_t hc104 h
      exact wn_X6_takes_30 C K M  lay σ102  h
    · replace h := it_f hc104 h
      refine j_aload_n 14 C dX6_takes_13 0 rfl rfl ?_
      refine j_dup 15 C dX6_takes_14 rfl rfl ?_
      refine g_M 18 C K 31 (by decide) mw_994 rfl dX6_takes_15 rfl ?_
      refine j_iconst 19 C dX6_takes_18 ic_1 rfl ?_
      refine j_iadd 20 C dX6_takes_19 rfl ?_
      refine p_M 23 C K 31 (by decide) rs_31 rfl mw_994 rfl rfl dX6_takes_20 rfl (fun σ105 eσ105 => ?_)
      replace h := lt_e h σ105 eσ105
      refine j_aload_n 24 C dX6_takes_23 0 rfl rfl ?_
      refine j_iconst 25 C dX6_takes_24 ic_1 rfl ?_
      refine j_iconst 26 C dX6_takes_25 ic_0 rfl ?_
      obtain ⟨σ106, r107, hF, h⟩ := bd_e h
      refine k_Vi 29 C K (c_X6_go K.2.2.2 g A lay  hF) cp_X6_go (rv_M) mw_1229 dX6_takes_26 rfl rfl (Nat.le_of_ble_eq_true rfl) ⟨Nat.le_of_ble_eq_true rfl, Nat.le_of_ble_eq_true rfl⟩ ⟨Nat.le_of_ble_eq_true rfl, Nat.le_of_ble_eq_true rfl⟩ rfl (fun lay => ?_)
      obtain ⟨hz108, h⟩ := gd_e h
      cases h
      exact x_z C M dX6_takes_29 hz108
theorem cp_X6_rightLength : CPv yX6_rightLength cX6_rightLength 2 (some .int) RX6 0 := ⟨mw_1219, mw_68, mw_105, mw_1220, rfl, by decide, by decide, by decide +kernel⟩
set_option maxHeartbeats 4000000 in
set_option maxRecDepth 100000 in
theorem wn_X6_rightLength_39 {l : Launch} {p : Program} {e : Env} {s : State} {m : MethodId} {args : Array Value} {below : List Frame} {meth : Method} {c : Code} {g : GG} {A : Nat → Prop} (C : KX p m c cX6_rightLength 2 s args RX6) (K : KC l g A s) (M : KM meth (some .int)) {σ' : RS} {r : Int32}      (lay : Nat → Nat) (σ : RS) (v1 : Int32)  (h : B_X6_rightLength_39  σ v1 = some (σ', r)) : JJ p l e (rmk 4 87 0 0) s m args below meth c (MQ below (va_Qi (fun (r0 : Int32) (u : RS) => r0 = r ∧ u = σ') (BC (RH g A)) A) args s 0 0 A) A 2 (RH g A lay σ) 0 0 39 [(1, .int v1)] [] := by
  unfold B_X6_rightLength_39 at h
  refine j_iload_n 40 C dX6_rightLength_39 0 rfl rfl ?_
  cases h
  exact x_i C M dX6_rightLength_40
set_option maxHeartbeats 4000000 in
set_option maxRecDepth 100000 in
theorem wn_X6_rightLength_12 {l : Launch} {p : Program} {e : Env} {s : State} {m : MethodId} {args : Array Value} {below : List Frame} {meth : Method} {c : Code} {g : GG} {A : Nat → Prop} (C : KX p m c cX6_rightLength 2 s args RX6) (K : KC l g A s) (M : KM meth (some .int)) {σ' : RS} {r : Int32}      : ∀ (fu : Nat) (lay : Nat → Nat) (σ : RS) (v1 : Int32), B_X6_rightLength_12  fu σ v1 = some (σ', r) → JJ p l e (rmk 4 87 0 0) s m args below meth c (MQ below (va_Qi (fun (r0 : Int32) (u : RS) => r0 = r ∧ u = σ') (BC (RH g A)) A) args s 0 0 A) A 2 (RH g A lay σ) 0 0 12 [(0, .ref (gm g 0)), (1, .int v1)] [] := by
  intro fu
  induction fu with
  | zero =>
    intro lay σ v1 h
    exact nomatch (show (none : Option _) = some _ from h)
  | succ fu ih12 =>
    intro lay σ v1 h
    unfold B_X6_rightLength_12 at h
    rw [lo2_s] at h
    refine j_iload_n 13 C dX6_rightLength_12 1 rfl rfl ?_
    refine j_aload_n 14 C dX6_rightLength_13 0 rfl rfl ?_
    refine g_M 17 C K 27 (by decide) mw_990 rfl dX6_rightLength_14 rfl ?_
    refine j_icmp_ge 20 39 C dX6_rightLength_17 (by decide) rfl (fun hc103 => ?_) (fun hc103 => ?_)
    · replace h := it_t hc103 h
      refine j_sub [1] (lo' := [(1, .int v1)]) rfl ?_
      exact wn_X6_rightLength_39 C K M  lay σ v1 h
    · replace h := it_f hc103 h
      refine j_aload_n 21 C dX6_rightLength_20 0 rfl rfl ?_
      refine j_aload_n 22 C dX6_rightLength_21 0 rfl rfl ?_
      refine g_M 25 C K 28 (by decide) mw_991 rfl dX6_rightLength_22 rfl ?_
      refine j_iload_n 26 C dX6_rightLength_25 1 rfl rfl ?_
      obtain ⟨hz104, h⟩ := gd_e h
      refine m_ild 27 C K ra_28 hz104 dX6_rightLength_26 rfl ?_
      obtain ⟨σ105, r106, hF, h⟩ := bd_e h
      refine k_Vi 30 C K (c_X6_takes K.2.2.2 g A lay  hF) cp_X6_takes (rv_M) mw_1221 dX6_rightLength_27 rfl rfl (Nat.le_of_ble_eq_true rfl) ⟨Nat.le_of_ble_eq_true rfl, Nat.le_of_ble_eq_true rfl⟩ ⟨Nat.le_of_ble_eq_true rfl, Nat.le_of_ble_eq_true rfl⟩ rfl (fun lay => ?_)
      refine j_if_eq 33 39 C dX6_rightLength_30 (by decide) rfl (fun hc107 => ?_) (fun hc107 => ?_)
      · replace h := it_t hc107 h
        refine j_sub [1] (lo' := [(1, .int v1)]) rfl ?_
        exact wn_X6_rightLength_39 C K M  lay σ105 v1 h
      · replace h := it_f hc107 h
        obtain ⟨x108, ex108⟩ : ∃ z : Int32, z = v1 + 1 := ⟨_, rfl⟩
        replace h := lt_e h x108 ex108
        refine j_iinc 36 C dX6_rightLength_33 1 rfl (v := x108) ((ii_1 _).trans ex108.symm) (lo' := [(1, .int x108), (0, .ref (gm g 0))]) (by decide) rfl rfl ?_
        refine j_goto 12 C dX6_rightLength_36 (by decide) ?_
        refine j_sub [1, 0] (lo' := [(0, .ref (gm g 0)), (1, .int x108)]) rfl ?_
        exact ih12 lay σ105 x108 h
set_option maxHeartbeats 4000000 in
set_option maxRecDepth 100000 in
theorem c_X6_rightLength {l : Launch} (hst : l.stackTraces = false) (g : GG) (A : Nat → Prop) (lay : Nat → Nat) {σ : RS} {σ' : RS} {r : Int32}   (h : F_X6_rightLength σ  = some (σ', r)) : MI l yX6_rightLength cX6_rightLength 2 .int 4 87 0 0 [.ref (gm g 0)] (RH g A) g A lay σ σ' r := by
  unfold F_X6_rightLength at h
  refine e_i (own := RX6) (lo := [(0, .ref (gm g 0))]) hst (plainFor_of_name (by decide)) rfl rfl (Nat.le_of_ble_eq_true rfl) ?_
  intro p e s m args below meth c C K M
  refine j_aload_n 1 C dX6_rightLength_0 0 rfl rfl ?_
  refine j_iconst 2 C dX6_rightLength_1 ic_0 rfl ?_
  refine p_M 5 C K 30 (by decide) rs_30 rfl mw_993 rfl rfl dX6_rightLength_2 rfl (fun σ101 eσ101 => ?_)
  replace h := lt_e h σ101 eσ101
  refine j_aload_n 6 C dX6_rightLength_5 0 rfl rfl ?_
  refine j_iconst 7 C dX6_rightLength_6 ic_0 rfl ?_
  refine p_M 10 C K 31 (by decide) rs_31 rfl mw_994 rfl rfl dX6_rightLength_7 rfl (fun σ102 eσ102 => ?_)
  replace h := lt_e h σ102 eσ102
  refine j_iconst 11 C dX6_rightLength_10 ic_0 rfl ?_
  refine j_istore_n 12 C dX6_rightLength_11 (lo' := [(1, .int (0 : Int32)), (0, .ref (gm g 0))]) (by decide) rfl rfl ?_
  refine j_sub [1, 0] (lo' := [(0, .ref (gm g 0)), (1, .int (0 : Int32))]) rfl ?_
  exact wn_X6_rightLength_12 C K M  4096 lay σ102 (0 : Int32) h
theorem cp_X6_firstError : CPv yX6_firstError cX6_firstError 1 (some .int) RX6 0 := ⟨mw_1214, mw_1215, mw_105, mw_1216, rfl, by decide, by decide, by decide +kernel⟩
set_option maxHeartbeats 4000000 in
set_option maxRecDepth 100000 in
theorem c_X6_firstError {l : Launch} (hst : l.stackTraces = false) (g : GG) (A : Nat → Prop) (lay : Nat → Nat) {σ : RS} {σ' : RS} {r : Int32}   (h : F_X6_firstError σ  = some (σ', r)) : MI l yX6_firstError cX6_firstError 1 .int 5 108 0 0 [.ref (gm g 0)] (RH g A) g A lay σ σ' r := by
  unfold F_X6_firstError at h
  refine e_i (own := RX6) (lo := [(0, .ref (gm g 0))]) hst (plainFor_of_name (by decide)) rfl rfl (Nat.le_of_ble_eq_true rfl) ?_
  intro p e s m args below meth c C K M
  refine j_aload_n 1 C dX6_firstError_0 0 rfl rfl ?_
  refine j_iconst 2 C dX6_firstError_1 ic_0 rfl ?_
  refine p_M 5 C K 0 (by decide) rs_0 rfl mw_963 rfl rfl dX6_firstError_2 rfl (fun σ101 eσ101 => ?_)
  replace h := lt_e h σ101 eσ101
  refine j_aload_n 6 C dX6_firstError_5 0 rfl rfl ?_
  obtain ⟨σ102, r103, hF, h⟩ := bd_e h
  refine k_Vi 9 C K (c_X6_rightLength K.2.2.2 g A lay  hF) cp_X6_rightLength (rv_M) mw_1217 dX6_firstError_6 rfl rfl (Nat.le_of_ble_eq_true rfl) ⟨Nat.le_of_ble_eq_true rfl, Nat.le_of_ble_eq_true rfl⟩ ⟨Nat.le_of_ble_eq_true rfl, Nat.le_of_ble_eq_true rfl⟩ rfl (fun lay => ?_)
  cases h
  exact x_i C M dX6_firstError_9
theorem cp_X6_does : CPv yX6_does cX6_does 6 (some .boolean) RX6 1 := ⟨mw_1263, mw_78, mw_105, mw_1264, rfl, by decide, by decide, by decide +kernel⟩
set_option maxHeartbeats 4000000 in
set_option maxRecDepth 100000 in
theorem wn_X6_does_302 {l : Launch} {p : Program} {e : Env} {s : State} {m : MethodId} {args : Array Value} {below : List Frame} {meth : Method} {c : Code} {g : GG} {A : Nat → Prop} (C : KX p m c cX6_does 6 s args RX6) (K : KC l g A s) (M : KM meth (some .boolean)) {σ' : RS} {r : Int32} {x1 : Int32}     (lay : Nat → Nat) (σ : RS)   (h : B_X6_does_302 x1 σ  = some (σ', r)) : JJ p l e (rmk 4 88 0 0) s m args below meth c (MQ below (va_Qi (fun (r0 : Int32) (u : RS) => r0 = r ∧ u = σ') (BC (RH g A)) A) args s 0 0 A) A 6 (RH g A lay σ) 0 0 302 [] [] := by
  unfold B_X6_does_302 at h
  refine j_iconst 303 C dX6_does_302 ic_1 rfl ?_
  cases h
  exact x_z C M dX6_does_303 (by decide)
set_option maxHeartbeats 4000000 in
set_option maxRecDepth 100000 in
theorem wn_X6_does_144 {l : Launch} {p : Program} {e : Env} {s : State} {m : MethodId} {args : Array Value} {below : List Frame} {meth : Method} {c : Code} {g : GG} {A : Nat → Prop} (C : KX p m c cX6_does 6 s args RX6) (K : KC l g A s) (M : KM meth (some .boolean)) {σ' : RS} {r : Int32} {x1 : Int32}     (lay : Nat → Nat) (σ : RS) (v2 : Int32) (v3 : Int32) (v4 : Int32) (w0 : Int32)  (h : B_X6_does_144 x1 σ v2 v3 v4 w0 = some (σ', r)) : JJ p l e (rmk 4 88 0 0) s m args below meth c (MQ below (va_Qi (fun (r0 : Int32) (u : RS) => r0 = r ∧ u = σ') (BC (RH g A)) A) args s 0 0 A) A 6 (RH g A lay σ) 0 0 144 [(0, .ref (gm g 0)), (1, .int x1), (2, .int v2), (3, .int v3), (4, .int v4)] [.int w0] := by
  unfold B_X6_does_144 at h
  refine j_istore 146 C dX6_does_144 (lo' := [(5, .int w0), (0, .ref (gm g 0)), (1, .int x1), (2, .int v2), (3, .int v3), (4, .int v4)]) (by decide) rfl rfl ?_
  refine j_iload 148 C dX6_does_146 0 rfl rfl ?_
  refine j_if_ne 151 153 C dX6_does_148 (by decide) rfl (fun hc126 => ?_) (fun hc126 => ?_)
  · replace h := it_f hc126 h
    refine j_iload_n 154 C dX6_does_153 3 rfl rfl ?_
    by_cases hc127 : v2 = 97
    · replace h := it_t hc127 h
      refine j_lookup 223 C dX6_does_154 (off := 69) (by decide) (by rw [hc127]; decide) (by decide) ?_
      refine j_aload_n 224 C dX6_does_223 1 rfl rfl ?_
      refine j_iload_n 225 C dX6_does_224 4 rfl rfl ?_
      refine j_aload_n 226 C dX6_does_225 1 rfl rfl ?_
      refine g_M 229 C K 32 (by decide) mw_995 rfl dX6_does_226 rfl ?_
      refine j_iload_n 230 C dX6_does_229 2 rfl rfl ?_
      refine j_iconst 231 C dX6_does_230 ic_2 rfl ?_
      refine j_iadd 232 C dX6_does_231 rfl ?_
      obtain ⟨hz128, h⟩ := gd_e h
      refine m_ild 233 C K ra_32 hz128 dX6_does_232 rfl ?_
      refine j_aload_n 234 C dX6_does_233 1 rfl rfl ?_
      refine g_M 237 C K 32 (by decide) mw_995 rfl dX6_does_234 rfl ?_
      refine j_iload_n 238 C dX6_does_237 2 rfl rfl ?_
      refine j_iconst 239 C dX6_does_238 ic_3 rfl ?_
      refine j_iadd 240 C dX6_does_239 rfl ?_
      obtain ⟨hz129, h⟩ := gd_e h
      refine m_ild 241 C K ra_32 hz129 dX6_does_240 rfl ?_
      refine j_iload 243 C dX6_does_241 5 rfl rfl ?_
      obtain ⟨σ130, r131, hF, h⟩ := bd_e h
      refine k_Vi 246 C K (c_X6_doAccept K.2.2.2 g A lay  hF) cp_X6_doAccept (rv_M) mw_1145 dX6_does_243 rfl rfl (Nat.le_of_ble_eq_true rfl) ⟨Nat.le_of_ble_eq_true rfl, Nat.le_of_ble_eq_true rfl⟩ ⟨Nat.le_of_ble_eq_true rfl, Nat.le_of_ble_eq_true rfl⟩ rfl (fun lay => ?_)
      refine j_pop 247 C dX6_does_246 rfl rfl ?_
      refine j_goto 302 C dX6_does_247 (by decide) ?_
      refine j_sub [] (lo' := []) rfl ?_
      exact wn_X6_does_302 C K M  lay σ130  h
    replace h := it_f hc127 h
    by_cases hc132 : v2 = 99
    · replace h := it_t hc132 h
      refine j_lookup 259 C dX6_does_154 (off := 105) (by decide) (by rw [hc132]; decide) (by decide) ?_
      refine j_aload_n 260 C dX6_does_259 1 rfl rfl ?_
      refine j_iload_n 261 C dX6_does_260 4 rfl rfl ?_
      refine j_aload_n 262 C dX6_does_261 1 rfl rfl ?_
      refine g_M 265 C K 32 (by decide) mw_995 rfl dX6_does_262 rfl ?_
      refine j_iload_n 266 C dX6_does_265 2 rfl rfl ?_
      refine j_iconst 267 C dX6_does_266 ic_3 rfl ?_
      refine j_iadd 268 C dX6_does_267 rfl ?_
      obtain ⟨hz133, h⟩ := gd_e h
      refine m_ild 269 C K ra_32 hz133 dX6_does_268 rfl ?_
      obtain ⟨σ134, r135, hF, h⟩ := bd_e h
      refine k_Vi 272 C K (c_X6_doCrash K.2.2.2 g A lay  hF) cp_X6_doCrash (rv_M) mw_1169 dX6_does_269 rfl rfl (Nat.le_of_ble_eq_true rfl) ⟨Nat.le_of_ble_eq_true rfl, Nat.le_of_ble_eq_true rfl⟩ ⟨Nat.le_of_ble_eq_true rfl, Nat.le_of_ble_eq_true rfl⟩ rfl (fun lay => ?_)
      refine j_pop 273 C dX6_does_272 rfl rfl ?_
      refine j_goto 302 C dX6_does_273 (by decide) ?_
      refine j_sub [] (lo' := []) rfl ?_
      exact wn_X6_does_302 C K M  lay σ134  h
    replace h := it_f hc132 h
    by_cases hc136 : v2 = 102
    · replace h := it_t hc136 h
      refine j_lookup 250 C dX6_does_154 (off := 96) (by decide) (by rw [hc136]; decide) (by decide) ?_
      refine j_aload_n 251 C dX6_does_250 1 rfl rfl ?_
      refine j_iload_n 252 C dX6_does_251 4 rfl rfl ?_
      obtain ⟨σ137, r138, hF, h⟩ := bd_e h
      refine k_Vi 255 C K (c_X6_doBarrier K.2.2.2 g A lay  hF) cp_X6_doBarrier (rv_M) mw_1161 dX6_does_252 rfl rfl (Nat.le_of_ble_eq_true rfl) ⟨Nat.le_of_ble_eq_true rfl, Nat.le_of_ble_eq_true rfl⟩ ⟨Nat.le_of_ble_eq_true rfl, Nat.le_of_ble_eq_true rfl⟩ rfl (fun lay => ?_)
      refine j_pop 256 C dX6_does_255 rfl rfl ?_
      refine j_goto 302 C dX6_does_256 (by decide) ?_
      refine j_sub [] (lo' := []) rfl ?_
      exact wn_X6_does_302 C K M  lay σ137  h
    replace h := it_f hc136 h
    by_cases hc139 : v2 = 112
    · replace h := it_t hc139 h
      refine j_lookup 212 C dX6_does_154 (off := 58) (by decide) (by rw [hc139]; decide) (by decide) ?_
      refine j_aload_n 213 C dX6_does_212 1 rfl rfl ?_
      refine j_iload_n 214 C dX6_does_213 4 rfl rfl ?_
      refine j_iload 216 C dX6_does_214 5 rfl rfl ?_
      obtain ⟨σ140, r141, hF, h⟩ := bd_e h
      refine k_Vi 219 C K (c_X6_doPrepare K.2.2.2 g A lay  hF) cp_X6_doPrepare (rv_M) mw_1101 dX6_does_216 rfl rfl (Nat.le_of_ble_eq_true rfl) ⟨Nat.le_of_ble_eq_true rfl, Nat.le_of_ble_eq_true rfl⟩ ⟨Nat.le_of_ble_eq_true rfl, Nat.le_of_ble_eq_true rfl⟩ rfl (fun lay => ?_)
      refine j_pop 220 C dX6_does_219 rfl rfl ?_
      refine j_goto 302 C dX6_does_220 (by decide) ?_
      refine j_sub [] (lo' := []) rfl ?_
      exact wn_X6_does_302 C K M  lay σ140  h
    replace h := it_f hc139 h
    by_cases hc142 : v2 = 114
    · replace h := it_t hc142 h
      refine j_lookup 285 C dX6_does_154 (off := 131) (by decide) (by rw [hc142]; decide) (by decide) ?_
      refine j_aload_n 286 C dX6_does_285 1 rfl rfl ?_
      refine j_iload_n 287 C dX6_does_286 4 rfl rfl ?_
      obtain ⟨σ143, r144, hF, h⟩ := bd_e h
      refine k_Vi 290 C K (c_X6_doRestart K.2.2.2 g A lay  hF) cp_X6_doRestart (rv_M) mw_1185 dX6_does_287 rfl rfl (Nat.le_of_ble_eq_true rfl) ⟨Nat.le_of_ble_eq_true rfl, Nat.le_of_ble_eq_true rfl⟩ ⟨Nat.le_of_ble_eq_true rfl, Nat.le_of_ble_eq_true rfl⟩ rfl (fun lay => ?_)
      refine j_pop 291 C dX6_does_290 rfl rfl ?_
      refine j_goto 302 C dX6_does_291 (by decide) ?_
      refine j_sub [] (lo' := []) rfl ?_
      exact wn_X6_does_302 C K M  lay σ143  h
    replace h := it_f hc142 h
    by_cases hc145 : v2 = 119
    · replace h := it_t hc145 h
      refine j_lookup 276 C dX6_does_154 (off := 122) (by decide) (by rw [hc145]; decide) (by decide) ?_
      refine j_aload_n 277 C dX6_does_276 1 rfl rfl ?_
      refine j_iload_n 278 C dX6_does_277 4 rfl rfl ?_
      obtain ⟨σ146, r147, hF, h⟩ := bd_e h
      refine k_Vi 281 C K (c_X6_doWipe K.2.2.2 g A lay  hF) cp_X6_doWipe (rv_M) mw_1177 dX6_does_278 rfl rfl (Nat.le_of_ble_eq_true rfl) ⟨Nat.le_of_ble_eq_true rfl, Nat.le_of_ble_eq_true rfl⟩ ⟨Nat.le_of_ble_eq_true rfl, Nat.le_of_ble_eq_true rfl⟩ rfl (fun lay => ?_)
      refine j_pop 282 C dX6_does_281 rfl rfl ?_
      refine j_goto 302 C dX6_does_282 (by decide) ?_
      refine j_sub [] (lo' := []) rfl ?_
      exact wn_X6_does_302 C K M  lay σ146  h
    replace h := it_f hc145 h
    refine j_lookup 294 C dX6_does_154 (off := 140) (by decide) (by refine (lv_osw hc127 (by decide)).trans ?_; refine (lv_osw hc132 (by decide)).trans ?_; refine (lv_osw hc136 (by decide)).trans ?_; refine (lv_osw hc139 (by decide)).trans ?_; refine (lv_osw hc142 (by decide)).trans ?_; refine (lv_osw hc145 (by decide)).trans ?_; rfl) (by decide) ?_
    refine j_aload_n 295 C dX6_does_294 1 rfl rfl ?_
    refine j_iload_n 296 C dX6_does_295 4 rfl rfl ?_
    refine j_iload 298 C dX6_does_296 5 rfl rfl ?_
    obtain ⟨σ148, r149, hF, h⟩ := bd_e h
    refine k_Vi 301 C K (c_X6_doJoin K.2.2.2 g A lay  hF) cp_X6_doJoin (rv_M) mw_1197 dX6_does_298 rfl rfl (Nat.le_of_ble_eq_true rfl) ⟨Nat.le_of_ble_eq_true rfl, Nat.le_of_ble_eq_true rfl⟩ ⟨Nat.le_of_ble_eq_true rfl, Nat.le_of_ble_eq_true rfl⟩ rfl (fun lay => ?_)
    refine j_pop 302 C dX6_does_301 rfl rfl ?_
    refine j_sub [] (lo' := []) rfl ?_
    exact wn_X6_does_302 C K M  lay σ148  h
  · replace h := it_t hc126 h
    refine j_iconst 152 C dX6_does_151 ic_0 rfl ?_
    cases h
    exact x_z C M dX6_does_152 (by decide)
set_option maxHeartbeats 4000000 in
set_option maxRecDepth 100000 in
theorem wn_X6_does_133 {l : Launch} {p : Program} {e : Env} {s : State} {m : MethodId} {args : Array Value} {below : List Frame} {meth : Method} {c : Code} {g : GG} {A : Nat → Prop} (C : KX p m c cX6_does 6 s args RX6) (K : KC l g A s) (M : KM meth (some .boolean)) {σ' : RS} {r : Int32} {x1 : Int32}     (lay : Nat → Nat) (σ : RS) (v2 : Int32) (v3 : Int32) (v4 : Int32) (w0 : Int32) (w1 : Int32)  (h : B_X6_does_133 x1 σ v2 v3 v4 w0 w1 = some (σ', r)) : JJ p l e (rmk 4 88 0 0) s m args below meth c (MQ below (va_Qi (fun (r0 : Int32) (u : RS) => r0 = r ∧ u = σ') (BC (RH g A)) A) args s 0 0 A) A 6 (RH g A lay σ) 0 0 133 [(0, .ref (gm g 0)), (1, .int x1), (2, .int v2), (3, .int v3), (4, .int v4)] [.int w0, .int w1, .ref (gm g 0)] := by
  unfold B_X6_does_133 at h
  obtain ⟨σ123, r124, hF, h⟩ := bd_e h
  refine k_Vi 136 C K (c_X6_upFault K.2.2.2 g A lay  hF) cp_X6_upFault (rv_M) mw_1157 dX6_does_133 rfl rfl (Nat.le_of_ble_eq_true rfl) ⟨Nat.le_of_ble_eq_true rfl, Nat.le_of_ble_eq_true rfl⟩ ⟨Nat.le_of_ble_eq_true rfl, Nat.le_of_ble_eq_true rfl⟩ rfl (fun lay => ?_)
  refine j_if_ne 139 143 C dX6_does_136 (by decide) rfl (fun hc125 => ?_) (fun hc125 => ?_)
  · replace h := it_f hc125 h
    refine j_iconst 144 C dX6_does_143 ic_0 rfl ?_
    exact wn_X6_does_144 C K M  lay σ123 v2 v3 v4 (0 : Int32) h
  · replace h := it_t hc125 h
    refine j_iconst 140 C dX6_does_139 ic_1 rfl ?_
    refine j_goto 144 C dX6_does_140 (by decide) ?_
    exact wn_X6_does_144 C K M  lay σ123 v2 v3 v4 (1 : Int32) h
set_option maxHeartbeats 4000000 in
set_option maxRecDepth 100000 in
theorem wn_X6_does_128 {l : Launch} {p : Program} {e : Env} {s : State} {m : MethodId} {args : Array Value} {below : List Frame} {meth : Method} {c : Code} {g : GG} {A : Nat → Prop} (C : KX p m c cX6_does 6 s args RX6) (K : KC l g A s) (M : KM meth (some .boolean)) {σ' : RS} {r : Int32} {x1 : Int32}     (lay : Nat → Nat) (σ : RS) (v2 : Int32) (v3 : Int32) (v4 : Int32) (w0 : Int32)  (h : B_X6_does_128 x1 σ v2 v3 v4 w0 = some (σ', r)) : JJ p l e (rmk 4 88 0 0) s m args below meth c (MQ below (va_Qi (fun (r0 : Int32) (u : RS) => r0 = r ∧ u = σ') (BC (RH g A)) A) args s 0 0 A) A 6 (RH g A lay σ) 0 0 128 [(0, .ref (gm g 0)), (1, .int x1), (2, .int v2), (3, .int v3), (4, .int v4)] [.int w0, .ref (gm g 0)] := by
  unfold B_X6_does_128 at h
  refine j_iconst 129 C dX6_does_128 ic_1 rfl ?_
  refine j_goto 133 C dX6_does_129 (by decide) ?_
  exact wn_X6_does_133 C K M  lay σ v2 v3 v4 (1 : Int32) w0 h
set_option maxHeartbeats 4000000 in
set_option maxRecDepth 100000 in
theorem c_X6_does {l : Launch} (hst : l.stackTraces = false) (g : GG) (A : Nat → Prop) (lay : Nat → Nat) {σ : RS} {σ' : RS} {r : Int32} {x1 : Int32}  (h : F_X6_does σ x1 = some (σ', r)) : MI l yX6_does cX6_does 6 .boolean 4 88 0 0 [.ref (gm g 0), .int x1] (RH g A) g A lay σ σ' r := by
  unfold F_X6_does at h
  refine e_i (own := RX6) (lo := [(0, .ref (gm g 0)), (1, .int x1)]) hst (plainFor_of_name (by decide)) rfl rfl (Nat.le_of_ble_eq_true rfl) ?_
  intro p e s m args below meth c C K M
  refine j_aload_n 1 C dX6_does_0 0 rfl rfl ?_
  refine g_M 4 C K 32 (by decide) mw_995 rfl dX6_does_1 rfl ?_
  refine j_iload_n 5 C dX6_does_4 1 rfl rfl ?_
  obtain ⟨hz101, h⟩ := gd_e h
  refine m_ild 6 C K ra_32 hz101 dX6_does_5 rfl ?_
  refine j_topi (fun x102 ex102 => ?_)
  replace h := lt_e h x102 ex102
  refine j_istore_n 7 C dX6_does_6 (lo' := [(2, .int x102), (0, .ref (gm g 0)), (1, .int x1)]) (by decide) rfl rfl ?_
  refine j_aload_n 8 C dX6_does_7 1 rfl rfl ?_
  refine g_M 11 C K 32 (by decide) mw_995 rfl dX6_does_8 rfl ?_
  refine j_iload_n 12 C dX6_does_11 2 rfl rfl ?_
  refine j_iconst 13 C dX6_does_12 ic_1 rfl ?_
  refine j_iadd 14 C dX6_does_13 rfl ?_
  obtain ⟨hz103, h⟩ := gd_e h
  refine m_ild 15 C K ra_32 hz103 dX6_does_14 rfl ?_
  refine j_topi (fun x104 ex104 => ?_)
  replace h := lt_e h x104 ex104
  refine j_istore_n 16 C dX6_does_15 (lo' := [(3, .int x104), (2, .int x102), (0, .ref (gm g 0)), (1, .int x1)]) (by decide) rfl rfl ?_
  refine j_aload_n 17 C dX6_does_16 2 rfl rfl ?_
  refine g_M 20 C K 32 (by decide) mw_995 rfl dX6_does_17 rfl ?_
  refine j_iload_n 21 C dX6_does_20 3 rfl rfl ?_
  refine j_iconst 22 C dX6_does_21 ic_4 rfl ?_
  refine j_iadd 23 C dX6_does_22 rfl ?_
  obtain ⟨hz105, h⟩ := gd_e h
  refine m_ild 24 C K ra_32 hz105 dX6_does_23 rfl ?_
  refine j_topi (fun x106 ex106 => ?_)
  replace h := lt_e h x106 ex106
  refine j_istore 26 C dX6_does_24 (lo' := [(4, .int x106), (3, .int x104), (2, .int x102), (0, .ref (gm g 0)), (1, .int x1)]) (by decide) rfl rfl ?_
  refine j_iload_n 27 C dX6_does_26 2 rfl rfl ?_
  refine j_bipush 29 C dX6_does_27 bp_112 rfl ?_
  refine j_icmp_ne 32 50 C dX6_does_29 (by decide) rfl (fun hc107 => ?_) (fun hc107 => ?_)
  · replace h := it_f hc107 h
    refine j_iload_n 51 C dX6_does_50 2 rfl rfl ?_
    refine j_bipush 53 C dX6_does_51 bp_97 rfl ?_
    refine j_icmp_ne 56 90 C dX6_does_53 (by decide) rfl (fun hc108 => ?_) (fun hc108 => ?_)
    · replace h := it_f hc108 h
      refine j_iload_n 91 C dX6_does_90 2 rfl rfl ?_
      refine j_bipush 93 C dX6_does_91 bp_106 rfl ?_
      refine j_icmp_ne 96 114 C dX6_does_93 (by decide) rfl (fun hc109 => ?_) (fun hc109 => ?_)
      · replace h := it_f hc109 h
        refine j_aload_n 115 C dX6_does_114 3 rfl rfl ?_
        refine j_iload_n 116 C dX6_does_115 1 rfl rfl ?_
        refine j_iload_n 117 C dX6_does_116 2 rfl rfl ?_
        refine j_bipush 119 C dX6_does_117 bp_102 rfl ?_
        refine j_icmp_eq 122 128 C dX6_does_119 (by decide) rfl (fun hc110 => ?_) (fun hc110 => ?_)
        · replace h := it_t hc110 h
          refine j_sub [3, 4, 2, 1, 0] (lo' := [(0, .ref (gm g 0)), (1, .int x1), (2, .int x102), (3, .int x104), (4, .int x106)]) rfl ?_
          exact wn_X6_does_128 C K M  lay σ x102 x104 x106 x104 h
        · replace h := it_f hc110 h
          refine j_iload_n 123 C dX6_does_122 2 rfl rfl ?_
          refine j_bipush 125 C dX6_does_123 bp_99 rfl ?_
          refine j_icmp_ne 128 132 C dX6_does_125 (by decide) rfl (fun hc111 => ?_) (fun hc111 => ?_)
          · replace h := it_f hc111 h
            refine j_iconst 133 C dX6_does_132 ic_0 rfl ?_
            refine j_sub [3, 4, 2, 1, 0] (lo' := [(0, .ref (gm g 0)), (1, .int x1), (2, .int x102), (3, .int x104), (4, .int x106)]) rfl ?_
            exact wn_X6_does_133 C K M  lay σ x102 x104 x106 (0 : Int32) x104 h
          · replace h := it_t hc111 h
            refine j_sub [3, 4, 2, 1, 0] (lo' := [(0, .ref (gm g 0)), (1, .int x1), (2, .int x102), (3, .int x104), (4, .int x106)]) rfl ?_
            exact wn_X6_does_128 C K M  lay σ x102 x104 x106 x104 h
      · replace h := it_t hc109 h
        refine j_aload_n 97 C dX6_does_96 3 rfl rfl ?_
        refine j_iload_n 98 C dX6_does_97 1 rfl rfl ?_
        refine j_iload 100 C dX6_does_98 0 rfl rfl ?_
        obtain ⟨σ112, r113, hF, h⟩ := bd_e h
        refine k_Vi 103 C K (c_X6_joinFault K.2.2.2 g A lay  hF) cp_X6_joinFault (rv_M) mw_1193 dX6_does_100 rfl rfl (Nat.le_of_ble_eq_true rfl) ⟨Nat.le_of_ble_eq_true rfl, Nat.le_of_ble_eq_true rfl⟩ ⟨Nat.le_of_ble_eq_true rfl, Nat.le_of_ble_eq_true rfl⟩ rfl (fun lay => ?_)
        refine j_if_ne 106 110 C dX6_does_103 (by decide) rfl (fun hc114 => ?_) (fun hc114 => ?_)
        · replace h := it_f hc114 h
          refine j_iconst 111 C dX6_does_110 ic_0 rfl ?_
          refine j_goto 144 C dX6_does_111 (by decide) ?_
          refine j_sub [3, 4, 2, 1, 0] (lo' := [(0, .ref (gm g 0)), (1, .int x1), (2, .int x102), (3, .int x104), (4, .int x106)]) rfl ?_
          exact wn_X6_does_144 C K M  lay σ112 x102 x104 x106 (0 : Int32) h
        · replace h := it_t hc114 h
          refine j_iconst 107 C dX6_does_106 ic_1 rfl ?_
          refine j_goto 144 C dX6_does_107 (by decide) ?_
          refine j_sub [3, 4, 2, 1, 0] (lo' := [(0, .ref (gm g 0)), (1, .int x1), (2, .int x102), (3, .int x104), (4, .int x106)]) rfl ?_
          exact wn_X6_does_144 C K M  lay σ112 x102 x104 x106 (1 : Int32) h
    · replace h := it_t hc108 h
      refine j_aload_n 57 C dX6_does_56 3 rfl rfl ?_
      refine j_iload_n 58 C dX6_does_57 1 rfl rfl ?_
      refine j_aload_n 59 C dX6_does_58 3 rfl rfl ?_
      refine g_M 62 C K 32 (by decide) mw_995 rfl dX6_does_59 rfl ?_
      refine j_iload_n 63 C dX6_does_62 4 rfl rfl ?_
      refine j_iconst 64 C dX6_does_63 ic_2 rfl ?_
      refine j_iadd 65 C dX6_does_64 rfl ?_
      obtain ⟨hz115, h⟩ := gd_e h
      refine m_ild 66 C K ra_32 hz115 dX6_does_65 rfl ?_
      refine j_aload_n 67 C dX6_does_66 3 rfl rfl ?_
      refine g_M 70 C K 32 (by decide) mw_995 rfl dX6_does_67 rfl ?_
      refine j_iload_n 71 C dX6_does_70 4 rfl rfl ?_
      refine j_iconst 72 C dX6_does_71 ic_3 rfl ?_
      refine j_iadd 73 C dX6_does_72 rfl ?_
      obtain ⟨hz116, h⟩ := gd_e h
      refine m_ild 74 C K ra_32 hz116 dX6_does_73 rfl ?_
      refine j_iload 76 C dX6_does_74 0 rfl rfl ?_
      obtain ⟨σ117, r118, hF, h⟩ := bd_e h
      refine k_Vi 79 C K (c_X6_acceptFault K.2.2.2 g A lay  hF) cp_X6_acceptFault (rv_M) mw_1137 dX6_does_76 rfl rfl (Nat.le_of_ble_eq_true rfl) ⟨Nat.le_of_ble_eq_true rfl, Nat.le_of_ble_eq_true rfl⟩ ⟨Nat.le_of_ble_eq_true rfl, Nat.le_of_ble_eq_true rfl⟩ rfl (fun lay => ?_)
      refine j_if_ne 82 86 C dX6_does_79 (by decide) rfl (fun hc119 => ?_) (fun hc119 => ?_)
      · replace h := it_f hc119 h
        refine j_iconst 87 C dX6_does_86 ic_0 rfl ?_
        refine j_goto 144 C dX6_does_87 (by decide) ?_
        refine j_sub [3, 4, 2, 1, 0] (lo' := [(0, .ref (gm g 0)), (1, .int x1), (2, .int x102), (3, .int x104), (4, .int x106)]) rfl ?_
        exact wn_X6_does_144 C K M  lay σ117 x102 x104 x106 (0 : Int32) h
      · replace h := it_t hc119 h
        refine j_iconst 83 C dX6_does_82 ic_1 rfl ?_
        refine j_goto 144 C dX6_does_83 (by decide) ?_
        refine j_sub [3, 4, 2, 1, 0] (lo' := [(0, .ref (gm g 0)), (1, .int x1), (2, .int x102), (3, .int x104), (4, .int x106)]) rfl ?_
        exact wn_X6_does_144 C K M  lay σ117 x102 x104 x106 (1 : Int32) h
  · replace h := it_t hc107 h
    refine j_aload_n 33 C dX6_does_32 3 rfl rfl ?_
    refine j_iload_n 34 C dX6_does_33 1 rfl rfl ?_
    refine j_iload 36 C dX6_does_34 0 rfl rfl ?_
    obtain ⟨σ120, r121, hF, h⟩ := bd_e h
    refine k_Vi 39 C K (c_X6_prepareFault K.2.2.2 g A lay  hF) cp_X6_prepareFault (rv_M) mw_1089 dX6_does_36 rfl rfl (Nat.le_of_ble_eq_true rfl) ⟨Nat.le_of_ble_eq_true rfl, Nat.le_of_ble_eq_true rfl⟩ ⟨Nat.le_of_ble_eq_true rfl, Nat.le_of_ble_eq_true rfl⟩ rfl (fun lay => ?_)
    refine j_if_ne 42 46 C dX6_does_39 (by decide) rfl (fun hc122 => ?_) (fun hc122 => ?_)
    · replace h := it_f hc122 h
      refine j_iconst 47 C dX6_does_46 ic_0 rfl ?_
      refine j_goto 144 C dX6_does_47 (by decide) ?_
      refine j_sub [3, 4, 2, 1, 0] (lo' := [(0, .ref (gm g 0)), (1, .int x1), (2, .int x102), (3, .int x104), (4, .int x106)]) rfl ?_
      exact wn_X6_does_144 C K M  lay σ120 x102 x104 x106 (0 : Int32) h
    · replace h := it_t hc122 h
      refine j_iconst 43 C dX6_does_42 ic_1 rfl ?_
      refine j_goto 144 C dX6_does_43 (by decide) ?_
      refine j_sub [3, 4, 2, 1, 0] (lo' := [(0, .ref (gm g 0)), (1, .int x1), (2, .int x102), (3, .int x104), (4, .int x106)]) rfl ?_
      exact wn_X6_does_144 C K M  lay σ120 x102 x104 x106 (1 : Int32) h
theorem cp_X6_load : CPv yX6_load cX6_load 4 (some .int) RX6 0 := ⟨mw_1258, mw_1259, mw_105, mw_1260, rfl, by decide, by decide, by decide +kernel⟩
set_option maxHeartbeats 4000000 in
set_option maxRecDepth 100000 in
theorem wn_X6_load_84 {l : Launch} {p : Program} {e : Env} {s : State} {m : MethodId} {args : Array Value} {below : List Frame} {meth : Method} {c : Code} {g : GG} {A : Nat → Prop} (C : KX p m c cX6_load 4 s args RX6) (K : KC l g A s) (M : KM meth (some .int)) {σ' : RS} {r : Int32}    {self60 : RS → Int32 → Int32 → Option (RS × Int32)} (ih60 : ∀ (lay : Nat → Nat) (σ : RS) (v2 : Int32) (v3 : Int32), self60 σ v2 v3 = some (σ', r) → JJ p l e (rmk 5 113 0 0) s m args below meth c (MQ below (va_Qi (fun (r0 : Int32) (u : RS) => r0 = r ∧ u = σ') (BC (RH g A)) A) args s 0 0 A) A 4 (RH g A lay σ) 0 0 60 [(0, .ref (gm g 0)), (2, .int v2), (3, .int v3)] []) (lay : Nat → Nat) (σ : RS) (v3 : Int32) (w0 : Int32) (w1 : Int32)  (h : B_X6_load_84 self60 σ v3 w0 w1 = some (σ', r)) : JJ p l e (rmk 5 113 0 0) s m args below meth c (MQ below (va_Qi (fun (r0 : Int32) (u : RS) => r0 = r ∧ u = σ') (BC (RH g A)) A) args s 0 0 A) A 4 (RH g A lay σ) 0 0 84 [(0, .ref (gm g 0)), (3, .int v3)] [.int w0, .int w1] := by
  unfold B_X6_load_84 at h
  refine j_iadd 85 C dX6_load_84 rfl ?_
  refine j_topi (fun x116 ex116 => ?_)
  replace h := lt_e h x116 ex116
  refine j_istore_n 86 C dX6_load_85 (lo' := [(2, .int x116), (0, .ref (gm g 0)), (3, .int v3)]) (by decide) rfl rfl ?_
  obtain ⟨x117, ex117⟩ : ∃ z : Int32, z = v3 + 1 := ⟨_, rfl⟩
  replace h := lt_e h x117 ex117
  refine j_iinc 89 C dX6_load_86 2 rfl (v := x117) ((ii_1 _).trans ex117.symm) (lo' := [(3, .int x117), (2, .int x116), (0, .ref (gm g 0))]) (by decide) rfl rfl ?_
  refine j_goto 60 C dX6_load_89 (by decide) ?_
  refine j_sub [2, 1, 0] (lo' := [(0, .ref (gm g 0)), (2, .int x116), (3, .int x117)]) rfl ?_
  exact ih60 lay σ x116 x117 h
set_option maxHeartbeats 4000000 in
set_option maxRecDepth 100000 in
theorem wn_X6_load_60 {l : Launch} {p : Program} {e : Env} {s : State} {m : MethodId} {args : Array Value} {below : List Frame} {meth : Method} {c : Code} {g : GG} {A : Nat → Prop} (C : KX p m c cX6_load 4 s args RX6) (K : KC l g A s) (M : KM meth (some .int)) {σ' : RS} {r : Int32}      : ∀ (fu : Nat) (lay : Nat → Nat) (σ : RS) (v2 : Int32) (v3 : Int32), B_X6_load_60  fu σ v2 v3 = some (σ', r) → JJ p l e (rmk 5 113 0 0) s m args below meth c (MQ below (va_Qi (fun (r0 : Int32) (u : RS) => r0 = r ∧ u = σ') (BC (RH g A)) A) args s 0 0 A) A 4 (RH g A lay σ) 0 0 60 [(0, .ref (gm g 0)), (2, .int v2), (3, .int v3)] [] := by
  intro fu
  induction fu with
  | zero =>
    intro lay σ v2 v3 h
    exact nomatch (show (none : Option _) = some _ from h)
  | succ fu ih60 =>
    intro lay σ v2 v3 h
    unfold B_X6_load_60 at h
    rw [lo3_s] at h
    refine j_iload_n 61 C dX6_load_60 2 rfl rfl ?_
    refine j_aload_n 62 C dX6_load_61 0 rfl rfl ?_
    refine g_M 65 C K 31 (by decide) mw_994 rfl dX6_load_62 rfl ?_
    refine j_icmp_ge 68 92 C dX6_load_65 (by decide) rfl (fun hc111 => ?_) (fun hc111 => ?_)
    · replace h := it_t hc111 h
      refine j_aload_n 93 C dX6_load_92 0 rfl rfl ?_
      refine j_iconst 94 C dX6_load_93 ic_0 rfl ?_
      refine p_M 97 C K 27 (by decide) rs_27 rfl mw_990 rfl rfl dX6_load_94 rfl (fun σ112 eσ112 => ?_)
      replace h := lt_e h σ112 eσ112
      refine j_iload_n 98 C dX6_load_97 1 rfl rfl ?_
      cases h
      exact x_i C M dX6_load_98
    · replace h := it_f hc111 h
      refine j_iload_n 69 C dX6_load_68 1 rfl rfl ?_
      refine j_aload_n 70 C dX6_load_69 0 rfl rfl ?_
      refine j_iconst 71 C dX6_load_70 ic_5 rfl ?_
      refine j_iload_n 72 C dX6_load_71 2 rfl rfl ?_
      refine j_imul 73 C dX6_load_72 rfl ?_
      obtain ⟨σ113, r114, hF, h⟩ := bd_e h
      refine k_Vi 76 C K (c_X6_does K.2.2.2 g A lay  hF) cp_X6_does (rv_M) mw_1261 dX6_load_73 rfl rfl (Nat.le_of_ble_eq_true rfl) ⟨Nat.le_of_ble_eq_true rfl, Nat.le_of_ble_eq_true rfl⟩ ⟨Nat.le_of_ble_eq_true rfl, Nat.le_of_ble_eq_true rfl⟩ rfl (fun lay => ?_)
      refine j_if_eq 79 83 C dX6_load_76 (by decide) rfl (fun hc115 => ?_) (fun hc115 => ?_)
      · replace h := it_t hc115 h
        refine j_iconst 84 C dX6_load_83 ic_0 rfl ?_
        refine j_sub [0, 2] (lo' := [(0, .ref (gm g 0)), (3, .int v3)]) rfl ?_
        exact wn_X6_load_84 C K M ih60 lay σ113 v3 (0 : Int32) v2 h
      · replace h := it_f hc115 h
        refine j_iconst 80 C dX6_load_79 ic_1 rfl ?_
        refine j_goto 84 C dX6_load_80 (by decide) ?_
        refine j_sub [0, 2] (lo' := [(0, .ref (gm g 0)), (3, .int v3)]) rfl ?_
        exact wn_X6_load_84 C K M ih60 lay σ113 v3 (1 : Int32) v2 h
set_option maxHeartbeats 4000000 in
set_option maxRecDepth 100000 in
theorem wn_X6_load_34 {l : Launch} {p : Program} {e : Env} {s : State} {m : MethodId} {args : Array Value} {below : List Frame} {meth : Method} {c : Code} {g : GG} {A : Nat → Prop} (C : KX p m c cX6_load 4 s args RX6) (K : KC l g A s) (M : KM meth (some .int)) {σ' : RS} {r : Int32}      (lay : Nat → Nat) (σ : RS) (w0 : Int32)  (h : B_X6_load_34  σ w0 = some (σ', r)) : JJ p l e (rmk 5 113 0 0) s m args below meth c (MQ below (va_Qi (fun (r0 : Int32) (u : RS) => r0 = r ∧ u = σ') (BC (RH g A)) A) args s 0 0 A) A 4 (RH g A lay σ) 0 0 34 [(0, .ref (gm g 0))] [.int w0, .ref (gm g 0)] := by
  unfold B_X6_load_34 at h
  refine p_M 37 C K 0 (by decide) rs_0 rfl mw_963 rfl rfl dX6_load_34 rfl (fun σ108 eσ108 => ?_)
  replace h := lt_e h σ108 eσ108
  refine j_aload_n 38 C dX6_load_37 0 rfl rfl ?_
  refine g_M 41 C K 0 (by decide) mw_963 rfl dX6_load_38 rfl ?_
  refine j_if_le 44 46 C dX6_load_41 (by decide) rfl (fun hc109 => ?_) (fun hc109 => ?_)
  · replace h := it_t hc109 h
    refine j_aload_n 47 C dX6_load_46 0 rfl rfl ?_
    refine j_dup 48 C dX6_load_47 rfl rfl ?_
    refine g_M 51 C K 31 (by decide) mw_994 rfl dX6_load_48 rfl ?_
    refine j_iconst 52 C dX6_load_51 ic_1 rfl ?_
    refine j_iadd 53 C dX6_load_52 rfl ?_
    refine p_M 56 C K 31 (by decide) rs_31 rfl mw_994 rfl rfl dX6_load_53 rfl (fun σ110 eσ110 => ?_)
    replace h := lt_e h σ110 eσ110
    refine j_iconst 57 C dX6_load_56 ic_0 rfl ?_
    refine j_istore_n 58 C dX6_load_57 (lo' := [(2, .int (0 : Int32)), (0, .ref (gm g 0))]) (by decide) rfl rfl ?_
    refine j_iconst 59 C dX6_load_58 ic_0 rfl ?_
    refine j_istore_n 60 C dX6_load_59 (lo' := [(3, .int (0 : Int32)), (2, .int (0 : Int32)), (0, .ref (gm g 0))]) (by decide) rfl rfl ?_
    refine j_sub [2, 1, 0] (lo' := [(0, .ref (gm g 0)), (2, .int (0 : Int32)), (3, .int (0 : Int32))]) rfl ?_
    exact wn_X6_load_60 C K M  4096 lay σ110 (0 : Int32) (0 : Int32) h
  · replace h := it_f hc109 h
    refine j_iconst 45 C dX6_load_44 ic_0 rfl ?_
    cases h
    exact x_i C M dX6_load_45
set_option maxHeartbeats 4000000 in
set_option maxRecDepth 100000 in
theorem wn_X6_load_23 {l : Launch} {p : Program} {e : Env} {s : State} {m : MethodId} {args : Array Value} {below : List Frame} {meth : Method} {c : Code} {g : GG} {A : Nat → Prop} (C : KX p m c cX6_load 4 s args RX6) (K : KC l g A s) (M : KM meth (some .int)) {σ' : RS} {r : Int32}      (lay : Nat → Nat) (σ : RS) (w0 : Int32)  (h : B_X6_load_23  σ w0 = some (σ', r)) : JJ p l e (rmk 5 113 0 0) s m args below meth c (MQ below (va_Qi (fun (r0 : Int32) (u : RS) => r0 = r ∧ u = σ') (BC (RH g A)) A) args s 0 0 A) A 4 (RH g A lay σ) 0 0 23 [(0, .ref (gm g 0))] [.int w0] := by
  unfold B_X6_load_23 at h
  refine j_istore_n 24 C dX6_load_23 (lo' := [(1, .int w0), (0, .ref (gm g 0))]) (by decide) rfl rfl ?_
  refine j_aload_n 25 C dX6_load_24 1 rfl rfl ?_
  refine j_iload_n 26 C dX6_load_25 0 rfl rfl ?_
  refine j_if_eq 29 33 C dX6_load_26 (by decide) rfl (fun hc107 => ?_) (fun hc107 => ?_)
  · replace h := it_t hc107 h
    refine j_iconst 34 C dX6_load_33 ic_1 rfl ?_
    refine j_sub [1] (lo' := [(0, .ref (gm g 0))]) rfl ?_
    exact wn_X6_load_34 C K M  lay σ (1 : Int32) h
  · replace h := it_f hc107 h
    refine j_iconst 30 C dX6_load_29 ic_0 rfl ?_
    refine j_goto 34 C dX6_load_30 (by decide) ?_
    refine j_sub [1] (lo' := [(0, .ref (gm g 0))]) rfl ?_
    exact wn_X6_load_34 C K M  lay σ (0 : Int32) h
set_option maxHeartbeats 4000000 in
set_option maxRecDepth 100000 in
theorem wn_X6_load_22 {l : Launch} {p : Program} {e : Env} {s : State} {m : MethodId} {args : Array Value} {below : List Frame} {meth : Method} {c : Code} {g : GG} {A : Nat → Prop} (C : KX p m c cX6_load 4 s args RX6) (K : KC l g A s) (M : KM meth (some .int)) {σ' : RS} {r : Int32}      (lay : Nat → Nat) (σ : RS)   (h : B_X6_load_22  σ  = some (σ', r)) : JJ p l e (rmk 5 113 0 0) s m args below meth c (MQ below (va_Qi (fun (r0 : Int32) (u : RS) => r0 = r ∧ u = σ') (BC (RH g A)) A) args s 0 0 A) A 4 (RH g A lay σ) 0 0 22 [(0, .ref (gm g 0))] [] := by
  unfold B_X6_load_22 at h
  refine j_iconst 23 C dX6_load_22 ic_0 rfl ?_
  exact wn_X6_load_23 C K M  lay σ (0 : Int32) h
set_option maxHeartbeats 4000000 in
set_option maxRecDepth 100000 in
theorem c_X6_load {l : Launch} (hst : l.stackTraces = false) (g : GG) (A : Nat → Prop) (lay : Nat → Nat) {σ : RS} {σ' : RS} {r : Int32}   (h : F_X6_load σ  = some (σ', r)) : MI l yX6_load cX6_load 4 .int 5 113 0 0 [.ref (gm g 0)] (RH g A) g A lay σ σ' r := by
  unfold F_X6_load at h
  refine e_i (own := RX6) (lo := [(0, .ref (gm g 0))]) hst (plainFor_of_name (by decide)) rfl rfl (Nat.le_of_ble_eq_true rfl) ?_
  intro p e s m args below meth c C K M
  refine j_aload_n 1 C dX6_load_0 0 rfl rfl ?_
  obtain ⟨σ101, r102, hF, h⟩ := bd_e h
  refine k_Vi 4 C K (c_X6_rightLength K.2.2.2 g A lay  hF) cp_X6_rightLength (rv_M) mw_1217 dX6_load_1 rfl rfl (Nat.le_of_ble_eq_true rfl) ⟨Nat.le_of_ble_eq_true rfl, Nat.le_of_ble_eq_true rfl⟩ ⟨Nat.le_of_ble_eq_true rfl, Nat.le_of_ble_eq_true rfl⟩ rfl (fun lay => ?_)
  refine j_aload_n 5 C dX6_load_4 0 rfl rfl ?_
  refine g_M 8 C K 27 (by decide) mw_990 rfl dX6_load_5 rfl ?_
  refine j_icmp_ne 11 22 C dX6_load_8 (by decide) rfl (fun hc103 => ?_) (fun hc103 => ?_)
  · replace h := it_f hc103 h
    exact wn_X6_load_22 C K M  lay σ101  h
  · replace h := it_t hc103 h
    refine j_aload_n 12 C dX6_load_11 0 rfl rfl ?_
    obtain ⟨σ104, r105, hF, h⟩ := bd_e h
    refine k_Vi 15 C K (c_X6_mayEnd K.2.2.2 g A lay  hF) cp_X6_mayEnd (rv_M) mw_1225 dX6_load_12 rfl rfl (Nat.le_of_ble_eq_true rfl) ⟨Nat.le_of_ble_eq_true rfl, Nat.le_of_ble_eq_true rfl⟩ ⟨Nat.le_of_ble_eq_true rfl, Nat.le_of_ble_eq_true rfl⟩ rfl (fun lay => ?_)
    refine j_if_eq 18 22 C dX6_load_15 (by decide) rfl (fun hc106 => ?_) (fun hc106 => ?_)
    · replace h := it_t hc106 h
      exact wn_X6_load_22 C K M  lay σ104  h
    · replace h := it_f hc106 h
      refine j_iconst 19 C dX6_load_18 ic_1 rfl ?_
      refine j_goto 23 C dX6_load_19 (by decide) ?_
      exact wn_X6_load_23 C K M  lay σ104 (1 : Int32) h
theorem cp_X6_holds : CPv yX6_holds cX6_holds 3 (some .boolean) RX6 2 := ⟨mw_1315, mw_86, mw_105, mw_1316, rfl, by decide, by decide, by decide +kernel⟩
set_option maxHeartbeats 4000000 in
set_option maxRecDepth 100000 in
theorem wn_X6_holds_51 {l : Launch} {p : Program} {e : Env} {s : State} {m : MethodId} {args : Array Value} {below : List Frame} {meth : Method} {c : Code} {g : GG} {A : Nat → Prop} (C : KX p m c cX6_holds 3 s args RX6) (K : KC l g A s) (M : KM meth (some .boolean)) {σ' : RS} {r : Int32} {x1 : Int32} {x2 : Int32}     (lay : Nat → Nat) (σ : RS)   (h : B_X6_holds_51 x1 x2 σ  = some (σ', r)) : JJ p l e (rmk 1 21 0 0) s m args below meth c (MQ below (va_Qi (fun (r0 : Int32) (u : RS) => r0 = r ∧ u = σ') (BC (RH g A)) A) args s 0 0 A) A 3 (RH g A lay σ) 0 0 51 [] [] := by
  unfold B_X6_holds_51 at h
  refine j_iconst 52 C dX6_holds_51 ic_0 rfl ?_
  cases h
  exact x_z C M dX6_holds_52 (by decide)
set_option maxHeartbeats 4000000 in
set_option maxRecDepth 100000 in
theorem c_X6_holds {l : Launch} (hst : l.stackTraces = false) (g : GG) (A : Nat → Prop) (lay : Nat → Nat) {σ : RS} {σ' : RS} {r : Int32} {x1 : Int32} {x2 : Int32}  (h : F_X6_holds σ x1 x2 = some (σ', r)) : MI l yX6_holds cX6_holds 3 .boolean 1 21 0 0 [.ref (gm g 0), .int x1, .int x2] (RH g A) g A lay σ σ' r := by
  unfold F_X6_holds at h
  refine e_i (own := RX6) (lo := [(0, .ref (gm g 0)), (1, .int x1), (2, .int x2)]) hst (plainFor_of_name (by decide)) rfl rfl (Nat.le_of_ble_eq_true rfl) ?_
  intro p e s m args below meth c C K M
  refine j_aload_n 1 C dX6_holds_0 0 rfl rfl ?_
  refine g_M 4 C K 20 (by decide) mw_983 rfl dX6_holds_1 rfl ?_
  refine j_iload_n 5 C dX6_holds_4 2 rfl rfl ?_
  obtain ⟨hz101, h⟩ := gd_e h
  refine m_ild 6 C K ra_20 hz101 dX6_holds_5 rfl ?_
  refine j_if_le 9 51 C dX6_holds_6 (by decide) rfl (fun hc102 => ?_) (fun hc102 => ?_)
  · replace h := it_t hc102 h
    refine j_sub [] (lo' := []) rfl ?_
    exact wn_X6_holds_51 C K M  lay σ  h
  · replace h := it_f hc102 h
    refine j_aload_n 10 C dX6_holds_9 0 rfl rfl ?_
    refine g_M 13 C K 13 (by decide) mw_976 rfl dX6_holds_10 rfl ?_
    refine j_iload_n 14 C dX6_holds_13 1 rfl rfl ?_
    refine j_iload_n 15 C dX6_holds_14 2 rfl rfl ?_
    obtain ⟨σ103, r104, hF, h⟩ := bd_e h
    refine k_Si 18 C K (c_X6_at K.2.2.2 g A lay  hF) cp_X6_at mw_956 dX6_holds_15 rfl rfl (Nat.le_of_ble_eq_true rfl) ⟨Nat.le_of_ble_eq_true rfl, Nat.le_of_ble_eq_true rfl⟩ ⟨Nat.le_of_ble_eq_true rfl, Nat.le_of_ble_eq_true rfl⟩ rfl (fun lay => ?_)
    obtain ⟨hz105, h⟩ := gd_e h
    refine m_ild 19 C K ra_13 hz105 dX6_holds_18 rfl ?_
    refine j_aload_n 20 C dX6_holds_19 0 rfl rfl ?_
    refine g_M 23 C K 22 (by decide) mw_985 rfl dX6_holds_20 rfl ?_
    refine j_iload_n 24 C dX6_holds_23 2 rfl rfl ?_
    obtain ⟨hz106, h⟩ := gd_e h
    refine m_ild 25 C K ra_22 hz106 dX6_holds_24 rfl ?_
    refine j_icmp_ne 28 51 C dX6_holds_25 (by decide) rfl (fun hc107 => ?_) (fun hc107 => ?_)
    · replace h := it_f hc107 h
      refine j_sub [] (lo' := []) rfl ?_
      exact wn_X6_holds_51 C K M  lay σ103  h
    · replace h := it_t hc107 h
      refine j_aload_n 29 C dX6_holds_28 0 rfl rfl ?_
      refine g_M 32 C K 12 (by decide) mw_975 rfl dX6_holds_29 rfl ?_
      refine j_iload_n 33 C dX6_holds_32 1 rfl rfl ?_
      refine j_iload_n 34 C dX6_holds_33 2 rfl rfl ?_
      obtain ⟨σ108, r109, hF, h⟩ := bd_e h
      refine k_Si 37 C K (c_X6_at K.2.2.2 g A lay  hF) cp_X6_at mw_956 dX6_holds_34 rfl rfl (Nat.le_of_ble_eq_true rfl) ⟨Nat.le_of_ble_eq_true rfl, Nat.le_of_ble_eq_true rfl⟩ ⟨Nat.le_of_ble_eq_true rfl, Nat.le_of_ble_eq_true rfl⟩ rfl (fun lay => ?_)
      obtain ⟨hz110, h⟩ := gd_e h
      refine m_ild 38 C K ra_12 hz110 dX6_holds_37 rfl ?_
      refine j_aload_n 39 C dX6_holds_38 0 rfl rfl ?_
      refine g_M 42 C K 21 (by decide) mw_984 rfl dX6_holds_39 rfl ?_
      refine j_iload_n 43 C dX6_holds_42 2 rfl rfl ?_
      obtain ⟨hz111, h⟩ := gd_e h
      refine m_ild 44 C K ra_21 hz111 dX6_holds_43 rfl ?_
      refine j_icmp_lt 47 51 C dX6_holds_44 (by decide) rfl (fun hc112 => ?_) (fun hc112 => ?_)
      · replace h := it_t hc112 h
        refine j_sub [] (lo' := []) rfl ?_
        exact wn_X6_holds_51 C K M  lay σ108  h
      · replace h := it_f hc112 h
        refine j_iconst 48 C dX6_holds_47 ic_1 rfl ?_
        refine j_goto 52 C dX6_holds_48 (by decide) ?_
        cases h
        exact x_z C M dX6_holds_52 (by decide)
theorem cp_X6_holdsOnDisk : CPv yX6_holdsOnDisk cX6_holdsOnDisk 3 (some .boolean) RX6 2 := ⟨mw_1311, mw_85, mw_105, mw_1312, rfl, by decide, by decide, by decide +kernel⟩
set_option maxHeartbeats 4000000 in
set_option maxRecDepth 100000 in
theorem wn_X6_holdsOnDisk_51 {l : Launch} {p : Program} {e : Env} {s : State} {m : MethodId} {args : Array Value} {below : List Frame} {meth : Method} {c : Code} {g : GG} {A : Nat → Prop} (C : KX p m c cX6_holdsOnDisk 3 s args RX6) (K : KC l g A s) (M : KM meth (some .boolean)) {σ' : RS} {r : Int32} {x1 : Int32} {x2 : Int32}     (lay : Nat → Nat) (σ : RS)   (h : B_X6_holdsOnDisk_51 x1 x2 σ  = some (σ', r)) : JJ p l e (rmk 1 21 0 0) s m args below meth c (MQ below (va_Qi (fun (r0 : Int32) (u : RS) => r0 = r ∧ u = σ') (BC (RH g A)) A) args s 0 0 A) A 3 (RH g A lay σ) 0 0 51 [] [] := by
  unfold B_X6_holdsOnDisk_51 at h
  refine j_iconst 52 C dX6_holdsOnDisk_51 ic_0 rfl ?_
  cases h
  exact x_z C M dX6_holdsOnDisk_52 (by decide)
set_option maxHeartbeats 4000000 in
set_option maxRecDepth 100000 in
theorem c_X6_holdsOnDisk {l : Launch} (hst : l.stackTraces = false) (g : GG) (A : Nat → Prop) (lay : Nat → Nat) {σ : RS} {σ' : RS} {r : Int32} {x1 : Int32} {x2 : Int32}  (h : F_X6_holdsOnDisk σ x1 x2 = some (σ', r)) : MI l yX6_holdsOnDisk cX6_holdsOnDisk 3 .boolean 1 21 0 0 [.ref (gm g 0), .int x1, .int x2] (RH g A) g A lay σ σ' r := by
  unfold F_X6_holdsOnDisk at h
  refine e_i (own := RX6) (lo := [(0, .ref (gm g 0)), (1, .int x1), (2, .int x2)]) hst (plainFor_of_name (by decide)) rfl rfl (Nat.le_of_ble_eq_true rfl) ?_
  intro p e s m args below meth c C K M
  refine j_aload_n 1 C dX6_holdsOnDisk_0 0 rfl rfl ?_
  refine g_M 4 C K 20 (by decide) mw_983 rfl dX6_holdsOnDisk_1 rfl ?_
  refine j_iload_n 5 C dX6_holdsOnDisk_4 2 rfl rfl ?_
  obtain ⟨hz101, h⟩ := gd_e h
  refine m_ild 6 C K ra_20 hz101 dX6_holdsOnDisk_5 rfl ?_
  refine j_if_le 9 51 C dX6_holdsOnDisk_6 (by decide) rfl (fun hc102 => ?_) (fun hc102 => ?_)
  · replace h := it_t hc102 h
    refine j_sub [] (lo' := []) rfl ?_
    exact wn_X6_holdsOnDisk_51 C K M  lay σ  h
  · replace h := it_f hc102 h
    refine j_aload_n 10 C dX6_holdsOnDisk_9 0 rfl rfl ?_
    refine g_M 13 C K 10 (by decide) mw_973 rfl dX6_holdsOnDisk_10 rfl ?_
    refine j_iload_n 14 C dX6_holdsOnDisk_13 1 rfl rfl ?_
    refine j_iload_n 15 C dX6_holdsOnDisk_14 2 rfl rfl ?_
    obtain ⟨σ103, r104, hF, h⟩ := bd_e h
    refine k_Si 18 C K (c_X6_at K.2.2.2 g A lay  hF) cp_X6_at mw_956 dX6_holdsOnDisk_15 rfl rfl (Nat.le_of_ble_eq_true rfl) ⟨Nat.le_of_ble_eq_true rfl, Nat.le_of_ble_eq_true rfl⟩ ⟨Nat.le_of_ble_eq_true rfl, Nat.le_of_ble_eq_true rfl⟩ rfl (fun lay => ?_)
    obtain ⟨hz105, h⟩ := gd_e h
    refine m_ild 19 C K ra_10 hz105 dX6_holdsOnDisk_18 rfl ?_
    refine j_aload_n 20 C dX6_holdsOnDisk_19 0 rfl rfl ?_
    refine g_M 23 C K 22 (by decide) mw_985 rfl dX6_holdsOnDisk_20 rfl ?_
    refine j_iload_n 24 C dX6_holdsOnDisk_23 2 rfl rfl ?_
    obtain ⟨hz106, h⟩ := gd_e h
    refine m_ild 25 C K ra_22 hz106 dX6_holdsOnDisk_24 rfl ?_
    refine j_icmp_ne 28 51 C dX6_holdsOnDisk_25 (by decide) rfl (fun hc107 => ?_) (fun hc107 => ?_)
    · replace h := it_f hc107 h
      refine j_sub [] (lo' := []) rfl ?_
      exact wn_X6_holdsOnDisk_51 C K M  lay σ103  h
    · replace h := it_t hc107 h
      refine j_aload_n 29 C dX6_holdsOnDisk_28 0 rfl rfl ?_
      refine g_M 32 C K 9 (by decide) mw_972 rfl dX6_holdsOnDisk_29 rfl ?_
      refine j_iload_n 33 C dX6_holdsOnDisk_32 1 rfl rfl ?_
      refine j_iload_n 34 C dX6_holdsOnDisk_33 2 rfl rfl ?_
      obtain ⟨σ108, r109, hF, h⟩ := bd_e h
      refine k_Si 37 C K (c_X6_at K.2.2.2 g A lay  hF) cp_X6_at mw_956 dX6_holdsOnDisk_34 rfl rfl (Nat.le_of_ble_eq_true rfl) ⟨Nat.le_of_ble_eq_true rfl, Nat.le_of_ble_eq_true rfl⟩ ⟨Nat.le_of_ble_eq_true rfl, Nat.le_of_ble_eq_true rfl⟩ rfl (fun lay => ?_)
      obtain ⟨hz110, h⟩ := gd_e h
      refine m_ild 38 C K ra_9 hz110 dX6_holdsOnDisk_37 rfl ?_
      refine j_aload_n 39 C dX6_holdsOnDisk_38 0 rfl rfl ?_
      refine g_M 42 C K 21 (by decide) mw_984 rfl dX6_holdsOnDisk_39 rfl ?_
      refine j_iload_n 43 C dX6_holdsOnDisk_42 2 rfl rfl ?_
      obtain ⟨hz111, h⟩ := gd_e h
      refine m_ild 44 C K ra_21 hz111 dX6_holdsOnDisk_43 rfl ?_
      refine j_icmp_lt 47 51 C dX6_holdsOnDisk_44 (by decide) rfl (fun hc112 => ?_) (fun hc112 => ?_)
      · replace h := it_t hc112 h
        refine j_sub [] (lo' := []) rfl ?_
        exact wn_X6_holdsOnDisk_51 C K M  lay σ108  h
      · replace h := it_f hc112 h
        refine j_iconst 48 C dX6_holdsOnDisk_47 ic_1 rfl ?_
        refine j_goto 52 C dX6_holdsOnDisk_48 (by decide) ?_
        cases h
        exact x_z C M dX6_holdsOnDisk_52 (by decide)
theorem cp_X6_holders : CPv yX6_holders cX6_holders 5 (some .int) RX6 2 := ⟨mw_1307, mw_84, mw_105, mw_1308, rfl, by decide, by decide, by decide +kernel⟩
set_option maxHeartbeats 4000000 in
set_option maxRecDepth 100000 in
theorem wn_X6_holders_47 {l : Launch} {p : Program} {e : Env} {s : State} {m : MethodId} {args : Array Value} {below : List Frame} {meth : Method} {c : Code} {g : GG} {A : Nat → Prop} (C : KX p m c cX6_holders 5 s args RX6) (K : KC l g A s) (M : KM meth (some .int)) {σ' : RS} {r : Int32} {x1 : Int32} {x2 : Int32}   {self5 : RS → Int32 → Int32 → Option (RS × Int32)} (ih5 : ∀ (lay : Nat → Nat) (σ : RS) (v3 : Int32) (v4 : Int32), self5 σ v3 v4 = some (σ', r) → JJ p l e (rmk 2 43 0 0) s m args below meth c (MQ below (va_Qi (fun (r0 : Int32) (u : RS) => r0 = r ∧ u = σ') (BC (RH g A)) A) args s 0 0 A) A 5 (RH g A lay σ) 0 0 5 [(0, .ref (gm g 0)), (1, .int x1), (2, .int x2), (3, .int v3), (4, .int v4)] []) (lay : Nat → Nat) (σ : RS) (v4 : Int32) (w0 : Int32) (w1 : Int32)  (h : B_X6_holders_47 x1 x2 self5 σ v4 w0 w1 = some (σ', r)) : JJ p l e (rmk 2 43 0 0) s m args below meth c (MQ below (va_Qi (fun (r0 : Int32) (u : RS) => r0 = r ∧ u = σ') (BC (RH g A)) A) args s 0 0 A) A 5 (RH g A lay σ) 0 0 47 [(0, .ref (gm g 0)), (1, .int x1), (2, .int x2), (4, .int v4)] [.int w0, .int w1] := by
  unfold B_X6_holders_47 at h
  refine j_iadd 48 C dX6_holders_47 rfl ?_
  refine j_topi (fun x109 ex109 => ?_)
  replace h := lt_e h x109 ex109
  refine j_istore_n 49 C dX6_holders_48 (lo' := [(3, .int x109), (0, .ref (gm g 0)), (1, .int x1), (2, .int x2), (4, .int v4)]) (by decide) rfl rfl ?_
  obtain ⟨x110, ex110⟩ : ∃ z : Int32, z = v4 + 1 := ⟨_, rfl⟩
  replace h := lt_e h x110 ex110
  refine j_iinc 52 C dX6_holders_49 4 rfl (v := x110) ((ii_1 _).trans ex110.symm) (lo' := [(4, .int x110), (3, .int x109), (0, .ref (gm g 0)), (1, .int x1), (2, .int x2)]) (by decide) rfl rfl ?_
  refine j_goto 5 C dX6_holders_52 (by decide) ?_
  refine j_sub [2, 3, 4, 1, 0] (lo' := [(0, .ref (gm g 0)), (1, .int x1), (2, .int x2), (3, .int x109), (4, .int x110)]) rfl ?_
  exact ih5 lay σ x109 x110 h
set_option maxHeartbeats 4000000 in
set_option maxRecDepth 100000 in
theorem wn_X6_holders_46 {l : Launch} {p : Program} {e : Env} {s : State} {m : MethodId} {args : Array Value} {below : List Frame} {meth : Method} {c : Code} {g : GG} {A : Nat → Prop} (C : KX p m c cX6_holders 5 s args RX6) (K : KC l g A s) (M : KM meth (some .int)) {σ' : RS} {r : Int32} {x1 : Int32} {x2 : Int32}   {self5 : RS → Int32 → Int32 → Option (RS × Int32)} (ih5 : ∀ (lay : Nat → Nat) (σ : RS) (v3 : Int32) (v4 : Int32), self5 σ v3 v4 = some (σ', r) → JJ p l e (rmk 2 43 0 0) s m args below meth c (MQ below (va_Qi (fun (r0 : Int32) (u : RS) => r0 = r ∧ u = σ') (BC (RH g A)) A) args s 0 0 A) A 5 (RH g A lay σ) 0 0 5 [(0, .ref (gm g 0)), (1, .int x1), (2, .int x2), (3, .int v3), (4, .int v4)] []) (lay : Nat → Nat) (σ : RS) (v4 : Int32) (w0 : Int32)  (h : B_X6_holders_46 x1 x2 self5 σ v4 w0 = some (σ', r)) : JJ p l e (rmk 2 43 0 0) s m args below meth c (MQ below (va_Qi (fun (r0 : Int32) (u : RS) => r0 = r ∧ u = σ') (BC (RH g A)) A) args s 0 0 A) A 5 (RH g A lay σ) 0 0 46 [(0, .ref (gm g 0)), (1, .int x1), (2, .int x2), (4, .int v4)] [.int w0] := by
  unfold B_X6_holders_46 at h
  refine j_iconst 47 C dX6_holders_46 ic_0 rfl ?_
  exact wn_X6_holders_47 C K M ih5 lay σ v4 (0 : Int32) w0 h
set_option maxHeartbeats 4000000 in
set_option maxRecDepth 100000 in
theorem wn_X6_holders_42 {l : Launch} {p : Program} {e : Env} {s : State} {m : MethodId} {args : Array Value} {below : List Frame} {meth : Method} {c : Code} {g : GG} {A : Nat → Prop} (C : KX p m c cX6_holders 5 s args RX6) (K : KC l g A s) (M : KM meth (some .int)) {σ' : RS} {r : Int32} {x1 : Int32} {x2 : Int32}   {self5 : RS → Int32 → Int32 → Option (RS × Int32)} (ih5 : ∀ (lay : Nat → Nat) (σ : RS) (v3 : Int32) (v4 : Int32), self5 σ v3 v4 = some (σ', r) → JJ p l e (rmk 2 43 0 0) s m args below meth c (MQ below (va_Qi (fun (r0 : Int32) (u : RS) => r0 = r ∧ u = σ') (BC (RH g A)) A) args s 0 0 A) A 5 (RH g A lay σ) 0 0 5 [(0, .ref (gm g 0)), (1, .int x1), (2, .int x2), (3, .int v3), (4, .int v4)] []) (lay : Nat → Nat) (σ : RS) (v4 : Int32) (w0 : Int32)  (h : B_X6_holders_42 x1 x2 self5 σ v4 w0 = some (σ', r)) : JJ p l e (rmk 2 43 0 0) s m args below meth c (MQ below (va_Qi (fun (r0 : Int32) (u : RS) => r0 = r ∧ u = σ') (BC (RH g A)) A) args s 0 0 A) A 5 (RH g A lay σ) 0 0 42 [(0, .ref (gm g 0)), (1, .int x1), (2, .int x2), (4, .int v4)] [.int w0] := by
  unfold B_X6_holders_42 at h
  refine j_iconst 43 C dX6_holders_42 ic_1 rfl ?_
  refine j_goto 47 C dX6_holders_43 (by decide) ?_
  exact wn_X6_holders_47 C K M ih5 lay σ v4 (1 : Int32) w0 h
set_option maxHeartbeats 4000000 in
set_option maxRecDepth 100000 in
theorem wn_X6_holders_5 {l : Launch} {p : Program} {e : Env} {s : State} {m : MethodId} {args : Array Value} {below : List Frame} {meth : Method} {c : Code} {g : GG} {A : Nat → Prop} (C : KX p m c cX6_holders 5 s args RX6) (K : KC l g A s) (M : KM meth (some .int)) {σ' : RS} {r : Int32} {x1 : Int32} {x2 : Int32}     : ∀ (fu : Nat) (lay : Nat → Nat) (σ : RS) (v3 : Int32) (v4 : Int32), B_X6_holders_5 x1 x2 fu σ v3 v4 = some (σ', r) → JJ p l e (rmk 2 43 0 0) s m args below meth c (MQ below (va_Qi (fun (r0 : Int32) (u : RS) => r0 = r ∧ u = σ') (BC (RH g A)) A) args s 0 0 A) A 5 (RH g A lay σ) 0 0 5 [(0, .ref (gm g 0)), (1, .int x1), (2, .int x2), (3, .int v3), (4, .int v4)] [] := by
  intro fu
  induction fu with
  | zero =>
    intro lay σ v3 v4 h
    exact nomatch (show (none : Option _) = some _ from h)
  | succ fu ih5 =>
    intro lay σ v3 v4 h
    unfold B_X6_holders_5 at h
    rw [lo3_s] at h
    refine j_iload 7 C dX6_holders_5 4 rfl rfl ?_
    refine j_aload_n 8 C dX6_holders_7 0 rfl rfl ?_
    refine g_M 11 C K 1 (by decide) mw_964 rfl dX6_holders_8 rfl ?_
    refine j_icmp_ge 14 55 C dX6_holders_11 (by decide) rfl (fun hc101 => ?_) (fun hc101 => ?_)
    · replace h := it_t hc101 h
      refine j_iload_n 56 C dX6_holders_55 3 rfl rfl ?_
      cases h
      exact x_i C M dX6_holders_56
    · replace h := it_f hc101 h
      refine j_iload_n 15 C dX6_holders_14 3 rfl rfl ?_
      refine j_iload_n 16 C dX6_holders_15 2 rfl rfl ?_
      refine j_if_eq 19 32 C dX6_holders_16 (by decide) rfl (fun hc102 => ?_) (fun hc102 => ?_)
      · replace h := it_t hc102 h
        refine j_aload_n 33 C dX6_holders_32 0 rfl rfl ?_
        refine j_iload 35 C dX6_holders_33 4 rfl rfl ?_
        refine j_iload_n 36 C dX6_holders_35 1 rfl rfl ?_
        obtain ⟨σ103, r104, hF, h⟩ := bd_e h
        refine k_Vi 39 C K (c_X6_holds K.2.2.2 g A lay  hF) cp_X6_holds (rv_M) mw_1313 dX6_holders_36 rfl rfl (Nat.le_of_ble_eq_true rfl) ⟨Nat.le_of_ble_eq_true rfl, Nat.le_of_ble_eq_true rfl⟩ ⟨Nat.le_of_ble_eq_true rfl, Nat.le_of_ble_eq_true rfl⟩ rfl (fun lay => ?_)
        refine j_if_eq 42 46 C dX6_holders_39 (by decide) rfl (fun hc105 => ?_) (fun hc105 => ?_)
        · replace h := it_t hc105 h
          refine j_sub [0, 1, 2, 4] (lo' := [(0, .ref (gm g 0)), (1, .int x1), (2, .int x2), (4, .int v4)]) rfl ?_
          exact wn_X6_holders_46 C K M ih5 lay σ103 v4 v3 h
        · replace h := it_f hc105 h
          refine j_sub [0, 1, 2, 4] (lo' := [(0, .ref (gm g 0)), (1, .int x1), (2, .int x2), (4, .int v4)]) rfl ?_
          exact wn_X6_holders_42 C K M ih5 lay σ103 v4 v3 h
      · replace h := it_f hc102 h
        refine j_aload_n 20 C dX6_holders_19 0 rfl rfl ?_
        refine j_iload 22 C dX6_holders_20 4 rfl rfl ?_
        refine j_iload_n 23 C dX6_holders_22 1 rfl rfl ?_
        obtain ⟨σ106, r107, hF, h⟩ := bd_e h
        refine k_Vi 26 C K (c_X6_holdsOnDisk K.2.2.2 g A lay  hF) cp_X6_holdsOnDisk (rv_M) mw_1309 dX6_holders_23 rfl rfl (Nat.le_of_ble_eq_true rfl) ⟨Nat.le_of_ble_eq_true rfl, Nat.le_of_ble_eq_true rfl⟩ ⟨Nat.le_of_ble_eq_true rfl, Nat.le_of_ble_eq_true rfl⟩ rfl (fun lay => ?_)
        refine j_if_eq 29 46 C dX6_holders_26 (by decide) rfl (fun hc108 => ?_) (fun hc108 => ?_)
        · replace h := it_t hc108 h
          refine j_sub [0, 1, 2, 4] (lo' := [(0, .ref (gm g 0)), (1, .int x1), (2, .int x2), (4, .int v4)]) rfl ?_
          exact wn_X6_holders_46 C K M ih5 lay σ106 v4 v3 h
        · replace h := it_f hc108 h
          refine j_goto 42 C dX6_holders_29 (by decide) ?_
          refine j_sub [0, 1, 2, 4] (lo' := [(0, .ref (gm g 0)), (1, .int x1), (2, .int x2), (4, .int v4)]) rfl ?_
          exact wn_X6_holders_42 C K M ih5 lay σ106 v4 v3 h
set_option maxHeartbeats 4000000 in
set_option maxRecDepth 100000 in
theorem c_X6_holders {l : Launch} (hst : l.stackTraces = false) (g : GG) (A : Nat → Prop) (lay : Nat → Nat) {σ : RS} {σ' : RS} {r : Int32} {x1 : Int32} {x2 : Int32}  (h : F_X6_holders σ x1 x2 = some (σ', r)) : MI l yX6_holders cX6_holders 5 .int 2 43 0 0 [.ref (gm g 0), .int x1, .int x2] (RH g A) g A lay σ σ' r := by
  unfold F_X6_holders at h
  refine e_i (own := RX6) (lo := [(0, .ref (gm g 0)), (1, .int x1), (2, .int x2)]) hst (plainFor_of_name (by decide)) rfl rfl (Nat.le_of_ble_eq_true rfl) ?_
  intro p e s m args below meth c C K M
  refine j_iconst 1 C dX6_holders_0 ic_0 rfl ?_
  refine j_istore_n 2 C dX6_holders_1 (lo' := [(3, .int (0 : Int32)), (0, .ref (gm g 0)), (1, .int x1), (2, .int x2)]) (by decide) rfl rfl ?_
  refine j_iconst 3 C dX6_holders_2 ic_0 rfl ?_
  refine j_istore 5 C dX6_holders_3 (lo' := [(4, .int (0 : Int32)), (3, .int (0 : Int32)), (0, .ref (gm g 0)), (1, .int x1), (2, .int x2)]) (by decide) rfl rfl ?_
  refine j_sub [2, 3, 4, 1, 0] (lo' := [(0, .ref (gm g 0)), (1, .int x1), (2, .int x2), (3, .int (0 : Int32)), (4, .int (0 : Int32))]) rfl ?_
  exact wn_X6_holders_5 C K M  4096 lay σ (0 : Int32) (0 : Int32) h
