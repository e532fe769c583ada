theorem cp_X5_forgetAll : CPv yX5_forgetAll cX5_forgetAll 2 none RX5 0 := ⟨mw_654, mw_27, mw_98, mw_655, rfl, by decide, by decide, by decide +kernel⟩
set_option maxHeartbeats 4000000 in
set_option maxRecDepth 100000 in
theorem wn_X5_forgetAll_25 {l : Launch} {p : Program} {e : Env} {s : State} {m : MethodId} {args : Array Value} {below : List Frame} {meth : Method} {c : Code} {g : GG} {A : Nat → Prop} (C : KX p m c cX5_forgetAll 2 s args RX5) (K : KC l g A s) (M : KM meth none) {σ' : CS} {r : Unit}      : ∀ (fu : Nat) (lay : Nat → Nat) (σ : CS) (v1 : Int32), B_X5_forgetAll_25  fu σ v1 = some (σ', r) → JJ p l e (rmk 3 63 0 0) s m args below meth c (MQ below (va_Qv (fun u : CS => u = σ') (BC (CH g A)) A) args s 0 0 A) A 2 (CH g A lay σ) 0 0 25 [(0, .ref (ga g 0)), (1, .int v1)] [] := by
  intro fu
  induction fu with
  | zero =>
    intro lay σ v1 h
    exact nomatch (show (none : Option _) = some _ from h)
  | succ fu ih25 =>
    intro lay σ v1 h
    unfold B_X5_forgetAll_25 at h
    rw [lo2_s] at h
    refine j_iload_n 26 C dX5_forgetAll_25 1 rfl rfl ?_
    refine j_iconst 27 C dX5_forgetAll_26 ic_4 rfl ?_
    refine j_icmp_ge 30 45 C dX5_forgetAll_27 (by decide) rfl (fun hc107 => ?_) (fun hc107 => ?_)
    · replace h := it_t hc107 h
      refine j_aload_n 46 C dX5_forgetAll_45 0 rfl rfl ?_
      refine j_iconst 47 C dX5_forgetAll_46 ic_0 rfl ?_
      refine p_F 50 C K 9 (by decide) mw_289 rfl rfl dX5_forgetAll_47 rfl (fun σ108 eσ108 => ?_)
      replace h := lt_e h σ108 eσ108
      refine j_aload_n 51 C dX5_forgetAll_50 0 rfl rfl ?_
      refine j_iconst 52 C dX5_forgetAll_51 ic_0 rfl ?_
      refine p_F 55 C K 10 (by decide) mw_290 rfl rfl dX5_forgetAll_52 rfl (fun σ109 eσ109 => ?_)
      replace h := lt_e h σ109 eσ109
      refine j_aload_n 56 C dX5_forgetAll_55 0 rfl rfl ?_
      refine j_iconst 57 C dX5_forgetAll_56 ic_0 rfl ?_
      refine p_F 60 C K 11 (by decide) mw_291 rfl rfl dX5_forgetAll_57 rfl (fun σ110 eσ110 => ?_)
      replace h := lt_e h σ110 eσ110
      cases h
      exact x_v C M dX5_forgetAll_60
    · replace h := it_f hc107 h
      refine j_aload_n 31 C dX5_forgetAll_30 0 rfl rfl ?_
      refine g_F 34 C K 1 (by decide) mw_281 rfl dX5_forgetAll_31 rfl ?_
      refine j_iload_n 35 C dX5_forgetAll_34 1 rfl rfl ?_
      obtain ⟨hz111, h⟩ := gd_e h
      have hb112 : tn v1 < 4 := inb_lt hz111
      refine r_decs 36 C K hz111 dX5_forgetAll_35 rfl ?_
      obtain ⟨σ113, u114, hF, h⟩ := bd_e h
      refine k_Vv 39 C K (c_X0_reset K.2.2.2 g A lay hb112 hF) cp_X0_reset (rv_C hb112) mw_664 dX5_forgetAll_36 rfl rfl (Nat.le_of_ble_eq_true rfl) ⟨Nat.le_of_ble_eq_true rfl, Nat.le_of_ble_eq_true rfl⟩ ⟨Nat.le_of_ble_eq_true rfl, Nat.le_of_ble_eq_true rfl⟩ rfl (fun lay => ?_)
      obtain ⟨x115, ex115⟩ : ∃ z : Int32, z = v1 + 1 := ⟨_, rfl⟩
      replace h := lt_e h x115 ex115
      refine j_iinc 42 C dX5_forgetAll_39 1 rfl (v := x115) ((ii_1 _).trans ex115.symm) (lo' := [(1, .int x115), (0, .ref (ga g 0))]) (by decide) rfl rfl ?_
      refine j_goto 25 C dX5_forgetAll_42 (by decide) ?_
      refine j_sub [1, 0] (lo' := [(0, .ref (ga g 0)), (1, .int x115)]) rfl ?_
      exact ih25 lay σ113 x115 h
set_option maxHeartbeats 4000000 in
set_option maxRecDepth 100000 in
theorem wn_X5_forgetAll_2 {l : Launch} {p : Program} {e : Env} {s : State} {m : MethodId} {args : Array Value} {below : List Frame} {meth : Method} {c : Code} {g : GG} {A : Nat → Prop} (C : KX p m c cX5_forgetAll 2 s args RX5) (K : KC l g A s) (M : KM meth none) {σ' : CS} {r : Unit}      : ∀ (fu : Nat) (lay : Nat → Nat) (σ : CS) (v1 : Int32), B_X5_forgetAll_2  fu σ v1 = some (σ', r) → JJ p l e (rmk 3 63 0 0) s m args below meth c (MQ below (va_Qv (fun u : CS => u = σ') (BC (CH g A)) A) args s 0 0 A) A 2 (CH g A lay σ) 0 0 2 [(0, .ref (ga g 0)), (1, .int v1)] [] := by
  intro fu
  induction fu with
  | zero =>
    intro lay σ v1 h
    exact nomatch (show (none : Option _) = some _ from h)
  | succ fu ih2 =>
    intro lay σ v1 h
    unfold B_X5_forgetAll_2 at h
    rw [lo2_s] at h
    refine j_iload_n 3 C dX5_forgetAll_2 1 rfl rfl ?_
    refine j_bipush 5 C dX5_forgetAll_3 bp_7 rfl ?_
    refine j_icmp_ge 8 23 C dX5_forgetAll_5 (by decide) rfl (fun hc101 => ?_) (fun hc101 => ?_)
    · replace h := it_t hc101 h
      refine j_iconst 24 C dX5_forgetAll_23 ic_0 rfl ?_
      refine j_istore_n 25 C dX5_forgetAll_24 (lo' := [(1, .int (0 : Int32)), (0, .ref (ga g 0))]) (by decide) rfl rfl ?_
      refine j_sub [1, 0] (lo' := [(0, .ref (ga g 0)), (1, .int (0 : Int32))]) rfl ?_
      exact wn_X5_forgetAll_25 C K M  4096 lay σ (0 : Int32) h
    · replace h := it_f hc101 h
      refine j_aload_n 9 C dX5_forgetAll_8 0 rfl rfl ?_
      refine g_F 12 C K 0 (by decide) mw_280 rfl dX5_forgetAll_9 rfl ?_
      refine j_iload_n 13 C dX5_forgetAll_12 1 rfl rfl ?_
      obtain ⟨hz102, h⟩ := gd_e h
      have hb103 : tn v1 < 7 := inb_lt hz102
      refine r_nodes 14 C K hz102 dX5_forgetAll_13 rfl ?_
      obtain ⟨σ104, u105, hF, h⟩ := bd_e h
      refine k_Vv 17 C K (c_X3_reset K.2.2.2 g A lay hb103 hF) cp_X3_reset (rv_N hb103) mw_656 dX5_forgetAll_14 rfl rfl (Nat.le_of_ble_eq_true rfl) ⟨Nat.le_of_ble_eq_true rfl, Nat.le_of_ble_eq_true rfl⟩ ⟨Nat.le_of_ble_eq_true rfl, Nat.le_of_ble_eq_true rfl⟩ rfl (fun lay => ?_)
      obtain ⟨x106, ex106⟩ : ∃ z : Int32, z = v1 + 1 := ⟨_, rfl⟩
      replace h := lt_e h x106 ex106
      refine j_iinc 20 C dX5_forgetAll_17 1 rfl (v := x106) ((ii_1 _).trans ex106.symm) (lo' := [(1, .int x106), (0, .ref (ga g 0))]) (by decide) rfl rfl ?_
      refine j_goto 2 C dX5_forgetAll_20 (by decide) ?_
      refine j_sub [1, 0] (lo' := [(0, .ref (ga g 0)), (1, .int x106)]) rfl ?_
      exact ih2 lay σ104 x106 h
set_option maxHeartbeats 4000000 in
set_option maxRecDepth 100000 in
theorem c_X5_forgetAll {l : Launch} (hst : l.stackTraces = false) (g : GG) (A : Nat → Prop) (lay : Nat → Nat) {σ : CS} {σ' : CS} {r : Unit}   (h : F_X5_forgetAll σ  = some (σ', r)) : MV l yX5_forgetAll cX5_forgetAll 2 3 63 0 0 [.ref (ga g 0)] (CH g A) g A lay σ σ' := by
  unfold F_X5_forgetAll at h
  refine e_v (own := RX5) (lo := [(0, .ref (ga g 0))]) hst (plainFor_of_name (by decide)) rfl rfl (Nat.le_of_ble_eq_true rfl) ?_
  intro p e s m args below meth c C K M
  refine j_iconst 1 C dX5_forgetAll_0 ic_0 rfl ?_
  refine j_istore_n 2 C dX5_forgetAll_1 (lo' := [(1, .int (0 : Int32)), (0, .ref (ga g 0))]) (by decide) rfl rfl ?_
  refine j_sub [1, 0] (lo' := [(0, .ref (ga g 0)), (1, .int (0 : Int32))]) rfl ?_
  exact wn_X5_forgetAll_2 C K M  4096 lay σ (0 : Int32) h
theorem cp_X5_begin : CPv yX5_begin cX5_begin 4 (some .int) RX5 2 := ⟨mw_647, mw_648, mw_98, mw_649, rfl, by decide, by decide, by decide +kernel⟩
set_option maxHeartbeats 4000000 in
set_option maxRecDepth 100000 in
theorem wn_X5_begin_31 {l : Launch} {p : Program} {e : Env} {s : State} {m : MethodId} {args : Array Value} {below : List Frame} {meth : Method} {c : Code} {g : GG} {A : Nat → Prop} (C : KX p m c cX5_begin 4 s args RX5) (K : KC l g A s) (M : KM meth (some .int)) {σ' : CS} {r : Int32} {x1 : Int32} {x2 : Int32}     (lay : Nat → Nat) (σ : CS)   (h : B_X5_begin_31 x1 x2 σ  = some (σ', .inl r)) : JJ p l e (rmk 6 90 0 0) s m args below meth c (MQ below (va_Qi (fun (r0 : Int32) (u : CS) => r0 = r ∧ u = σ') (BC (CH g A)) A) args s 0 0 A) A 4 (CH g A lay σ) 0 0 31 [] [] := by
  unfold B_X5_begin_31 at h
  cases h
set_option maxHeartbeats 4000000 in
set_option maxRecDepth 100000 in
theorem wn_X5_begin_11 {l : Launch} {p : Program} {e : Env} {s : State} {m : MethodId} {args : Array Value} {below : List Frame} {meth : Method} {c : Code} {g : GG} {A : Nat → Prop} (C : KX p m c cX5_begin 4 s args RX5) (K : KC l g A s) (M : KM meth (some .int)) {σ' : CS} {r : Int32} {x1 : Int32} {x2 : Int32}     (lay : Nat → Nat) (σ : CS)   (h : B_X5_begin_11 x1 x2 σ  = some (σ', .inl r)) : JJ p l e (rmk 6 90 0 0) s m args below meth c (MQ below (va_Qi (fun (r0 : Int32) (u : CS) => r0 = r ∧ u = σ') (BC (CH g A)) A) args s 0 0 A) A 4 (CH g A lay σ) 0 0 11 [] [] := by
  unfold B_X5_begin_11 at h
  cases h
set_option maxHeartbeats 4000000 in
set_option maxRecDepth 100000 in
theorem c_X5_begin {l : Launch} (hst : l.stackTraces = false) (g : GG) (A : Nat → Prop) (lay : Nat → Nat) {σ : CS} {σ' : CS} {r : Int32} {x1 : Int32} {x2 : Int32}  (h : F_X5_begin σ x1 x2 = some (σ', .inl r)) : MI l yX5_begin cX5_begin 4 .int 6 90 0 0 [.ref (ga g 0), .int x1, .int x2] (CH g A) g A lay σ σ' r := by
  unfold F_X5_begin at h
  refine e_i (own := RX5) (lo := [(0, .ref (ga g 0)), (1, .int x1), (2, .int x2)]) hst (plainFor_of_name (by decide)) rfl rfl (Nat.le_of_ble_eq_true rfl) ?_
  intro p e s m args below meth c C K M
  refine j_iload_n 1 C dX5_begin_0 1 rfl rfl ?_
  refine j_iconst 2 C dX5_begin_1 ic_3 rfl ?_
  refine j_icmp_lt 5 11 C dX5_begin_2 (by decide) rfl (fun hc101 => ?_) (fun hc101 => ?_)
  · replace h := it_t hc101 h
    refine j_sub [] (lo' := []) rfl ?_
    exact wn_X5_begin_11 C K M  lay σ  h
  · replace h := it_f hc101 h
    refine j_iload_n 6 C dX5_begin_5 1 rfl rfl ?_
    refine j_bipush 8 C dX5_begin_6 bp_7 rfl ?_
    refine j_icmp_le 11 21 C dX5_begin_8 (by decide) rfl (fun hc102 => ?_) (fun hc102 => ?_)
    · replace h := it_t hc102 h
      refine j_iload_n 22 C dX5_begin_21 2 rfl rfl ?_
      refine j_iconst 23 C dX5_begin_22 ic_1 rfl ?_
      refine j_icmp_lt 26 31 C dX5_begin_23 (by decide) rfl (fun hc103 => ?_) (fun hc103 => ?_)
      · replace h := it_t hc103 h
        refine j_sub [] (lo' := []) rfl ?_
        exact wn_X5_begin_31 C K M  lay σ  h
      · replace h := it_f hc103 h
        refine j_iload_n 27 C dX5_begin_26 2 rfl rfl ?_
        refine j_iconst 28 C dX5_begin_27 ic_4 rfl ?_
        refine j_icmp_le 31 41 C dX5_begin_28 (by decide) rfl (fun hc104 => ?_) (fun hc104 => ?_)
        · replace h := it_t hc104 h
          refine j_aload_n 42 C dX5_begin_41 0 rfl rfl ?_
          refine g_F 45 C K 6 (by decide) mw_286 rfl dX5_begin_42 rfl ?_
          refine j_topi (fun x105 ex105 => ?_)
          replace h := lt_e h x105 ex105
          refine j_istore_n 46 C dX5_begin_45 (lo' := [(3, .int x105), (0, .ref (ga g 0)), (1, .int x1), (2, .int x2)]) (by decide) rfl rfl ?_
          refine j_aload_n 47 C dX5_begin_46 1 rfl rfl ?_
          refine j_iload_n 48 C dX5_begin_47 2 rfl rfl ?_
          refine p_F 51 C K 6 (by decide) mw_286 rfl rfl dX5_begin_48 rfl (fun σ106 eσ106 => ?_)
          replace h := lt_e h σ106 eσ106
          refine j_aload_n 52 C dX5_begin_51 1 rfl rfl ?_
          refine j_iload_n 53 C dX5_begin_52 3 rfl rfl ?_
          refine p_F 56 C K 7 (by decide) mw_287 rfl rfl dX5_begin_53 rfl (fun σ107 eσ107 => ?_)
          replace h := lt_e h σ107 eσ107
          refine j_aload_n 57 C dX5_begin_56 1 rfl rfl ?_
          obtain ⟨σ108, u109, hF, h⟩ := bd_e h
          refine k_Vv 60 C K (c_X5_forgetAll K.2.2.2 g A lay  hF) cp_X5_forgetAll (rv_F) mw_652 dX5_begin_57 rfl rfl (Nat.le_of_ble_eq_true rfl) ⟨Nat.le_of_ble_eq_true rfl, Nat.le_of_ble_eq_true rfl⟩ ⟨Nat.le_of_ble_eq_true rfl, Nat.le_of_ble_eq_true rfl⟩ rfl (fun lay => ?_)
          refine j_iload_n 61 C dX5_begin_60 0 rfl rfl ?_
          cases h
          exact x_i C M dX5_begin_61
        · replace h := it_f hc104 h
          refine j_sub [] (lo' := []) rfl ?_
          exact wn_X5_begin_31 C K M  lay σ  h
    · replace h := it_f hc102 h
      refine j_sub [] (lo' := []) rfl ?_
      exact wn_X5_begin_11 C K M  lay σ  h
set_option maxHeartbeats 4000000 in
set_option maxRecDepth 100000 in
theorem wx_X5_begin_31 {l : Launch} {p : Program} {e : Env} {s : State} {m : MethodId} {args : Array Value} {below : List Frame} {meth : Method} {c : Code} {g : GG} {A : Nat → Prop} (C : KX p m c cX5_begin 4 s args RX5) (K : KC l g A s) (M : KM meth (some .int)) (hx : ∀ x ∈ c.exceptionTable.toList, False) {σ' : CS} {ex : Nat} {x1 : Int32} {x2 : Int32}     (lay : Nat → Nat) (σ : CS)   (h : B_X5_begin_31 x1 x2 σ  = some (σ', .inr ex)) : JJ p l e (rmk 6 90 1 6) s m args below meth c (vx_MQ below (va_Qi (fun (_ : Int32) (_ : CS) => False) (BC (CH g A)) A) (xxX (BC (CH g A)) A σ' ex) args s 1 6 A) A 4 (CH g A lay σ) 0 0 31 [] [] := by
  unfold B_X5_begin_31 at h
  cases h
  exact jx_2 C K M hx CH_kept mw_432 xs_61 xat_X5_58 dX5_begin_31 dX5_begin_34 dX5_begin_35 dX5_begin_37 dX5_begin_40 (Nat.le_of_ble_eq_true rfl) (Nat.le_of_ble_eq_true rfl) ⟨Nat.le_of_ble_eq_true rfl, Nat.le_of_ble_eq_true rfl⟩
set_option maxHeartbeats 4000000 in
set_option maxRecDepth 100000 in
theorem wx_X5_begin_11 {l : Launch} {p : Program} {e : Env} {s : State} {m : MethodId} {args : Array Value} {below : List Frame} {meth : Method} {c : Code} {g : GG} {A : Nat → Prop} (C : KX p m c cX5_begin 4 s args RX5) (K : KC l g A s) (M : KM meth (some .int)) (hx : ∀ x ∈ c.exceptionTable.toList, False) {σ' : CS} {ex : Nat} {x1 : Int32} {x2 : Int32}     (lay : Nat → Nat) (σ : CS)   (h : B_X5_begin_11 x1 x2 σ  = some (σ', .inr ex)) : JJ p l e (rmk 6 90 1 6) s m args below meth c (vx_MQ below (va_Qi (fun (_ : Int32) (_ : CS) => False) (BC (CH g A)) A) (xxX (BC (CH g A)) A σ' ex) args s 1 6 A) A 4 (CH g A lay σ) 0 0 11 [] [] := by
  unfold B_X5_begin_11 at h
  cases h
  exact jx_2 C K M hx CH_kept mw_432 xs_56 xat_X5_58 dX5_begin_11 dX5_begin_14 dX5_begin_15 dX5_begin_17 dX5_begin_20 (Nat.le_of_ble_eq_true rfl) (Nat.le_of_ble_eq_true rfl) ⟨Nat.le_of_ble_eq_true rfl, Nat.le_of_ble_eq_true rfl⟩
set_option maxHeartbeats 4000000 in
set_option maxRecDepth 100000 in
theorem x_X5_begin {l : Launch} (hst : l.stackTraces = false) (g : GG) (A : Nat → Prop) (lay : Nat → Nat) {σ : CS} {σ' : CS} {ex : Nat} {x1 : Int32} {x2 : Int32}  (h : F_X5_begin σ x1 x2 = some (σ', .inr ex)) : XI l yX5_begin cX5_begin 4 .int 6 90 [.ref (ga g 0), .int x1, .int x2] (CH g A) g A lay σ σ' ex := by
  unfold F_X5_begin at h
  refine ex_i (own := RX5) (lo := [(0, .ref (ga g 0)), (1, .int x1), (2, .int x2)]) hst (by decide) rfl rfl (Nat.le_of_ble_eq_true rfl) ?_
  intro p e s m args below meth c C K M hx
  refine j_iload_n 1 C dX5_begin_0 1 rfl rfl ?_
  refine j_iconst 2 C dX5_begin_1 ic_3 rfl ?_
  refine j_icmp_lt 5 11 C dX5_begin_2 (by decide) rfl (fun hc101 => ?_) (fun hc101 => ?_)
  · replace h := it_t hc101 h
    refine j_sub [] (lo' := []) rfl ?_
    exact wx_X5_begin_11 C K M hx  lay σ  h
  · replace h := it_f hc101 h
    refine j_iload_n 6 C dX5_begin_5 1 rfl rfl ?_
    refine j_bipush 8 C dX5_begin_6 bp_7 rfl ?_
    refine j_icmp_le 11 21 C dX5_begin_8 (by decide) rfl (fun hc102 => ?_) (fun hc102 => ?_)
    · replace h := it_t hc102 h
      refine j_iload_n 22 C dX5_begin_21 2 rfl rfl ?_
      refine j_iconst 23 C dX5_begin_22 ic_1 rfl ?_
      refine j_icmp_lt 26 31 C dX5_begin_23 (by decide) rfl (fun hc103 => ?_) (fun hc103 => ?_)
      · replace h := it_t hc103 h
        refine j_sub [] (lo' := []) rfl ?_
        exact wx_X5_begin_31 C K M hx  lay σ  h
      · replace h := it_f hc103 h
        refine j_iload_n 27 C dX5_begin_26 2 rfl rfl ?_
        refine j_iconst 28 C dX5_begin_27 ic_4 rfl ?_
        refine j_icmp_le 31 41 C dX5_begin_28 (by decide) rfl (fun hc104 => ?_) (fun hc104 => ?_)
        · replace h := it_t hc104 h
          refine j_aload_n 42 C dX5_begin_41 0 rfl rfl ?_
          refine g_F 45 C K 6 (by decide) mw_286 rfl dX5_begin_42 rfl ?_
          refine j_topi (fun x105 ex105 => ?_)
          replace h := lt_e h x105 ex105
          refine j_istore_n 46 C dX5_begin_45 (lo' := [(3, .int x105), (0, .ref (ga g 0)), (1, .int x1), (2, .int x2)]) (by decide) rfl rfl ?_
          refine j_aload_n 47 C dX5_begin_46 1 rfl rfl ?_
          refine j_iload_n 48 C dX5_begin_47 2 rfl rfl ?_
          refine p_F 51 C K 6 (by decide) mw_286 rfl rfl dX5_begin_48 rfl (fun σ106 eσ106 => ?_)
          replace h := lt_e h σ106 eσ106
          refine j_aload_n 52 C dX5_begin_51 1 rfl rfl ?_
          refine j_iload_n 53 C dX5_begin_52 3 rfl rfl ?_
          refine p_F 56 C K 7 (by decide) mw_287 rfl rfl dX5_begin_53 rfl (fun σ107 eσ107 => ?_)
          replace h := lt_e h σ107 eσ107
          refine j_aload_n 57 C dX5_begin_56 1 rfl rfl ?_
          obtain ⟨σ108, u109, hF, h⟩ := bd_e h
          refine k_Vv 60 C K (c_X5_forgetAll K.2.2.2 g A lay  hF) cp_X5_forgetAll (rv_F) mw_652 dX5_begin_57 rfl rfl (Nat.le_of_ble_eq_true rfl) ⟨Nat.le_of_ble_eq_true rfl, Nat.le_of_ble_eq_true rfl⟩ ⟨Nat.le_of_ble_eq_true rfl, Nat.le_of_ble_eq_true rfl⟩ rfl (fun lay => ?_)
          refine j_iload_n 61 C dX5_begin_60 0 rfl rfl ?_
          cases h
        · replace h := it_f hc104 h
          refine j_sub [] (lo' := []) rfl ?_
          exact wx_X5_begin_31 C K M hx  lay σ  h
    · replace h := it_f hc102 h
      refine j_sub [] (lo' := []) rfl ?_
      exact wx_X5_begin_11 C K M hx  lay σ  h
theorem cp_X5_setBarriers : CPv yX5_setBarriers cX5_setBarriers 3 (some .int) RX5 1 := ⟨mw_318, mw_319, mw_98, mw_320, rfl, by decide, by decide, by decide +kernel⟩
set_option maxHeartbeats 4000000 in
set_option maxRecDepth 100000 in
theorem c_X5_setBarriers {l : Launch} (hst : l.stackTraces = false) (g : GG) (A : Nat → Prop) (lay : Nat → Nat) {σ : CS} {σ' : CS} {r : Int32} {x1 : Int32}  (h : F_X5_setBarriers σ x1 = some (σ', r)) : MI l yX5_setBarriers cX5_setBarriers 3 .int 1 20 0 0 [.ref (ga g 0), .int x1] (CH g A) g A lay σ σ' r := by
  unfold F_X5_setBarriers at h
  refine e_i (own := RX5) (lo := [(0, .ref (ga g 0)), (1, .int x1)]) hst (plainFor_of_name (by decide)) rfl rfl (Nat.le_of_ble_eq_true rfl) ?_
  intro p e s m args below meth c C K M
  refine j_aload_n 1 C dX5_setBarriers_0 0 rfl rfl ?_
  refine g_F 4 C K 8 (by decide) mw_288 rfl dX5_setBarriers_1 rfl ?_
  obtain ⟨σ101, r102, hF, h⟩ := bd_e h
  refine k_Si 7 C K (c_X5_asNumber K.2.2.2 g A lay  hF) cp_X5_asNumber mw_321 dX5_setBarriers_4 rfl rfl (Nat.le_of_ble_eq_true rfl) ⟨Nat.le_of_ble_eq_true rfl, Nat.le_of_ble_eq_true rfl⟩ ⟨Nat.le_of_ble_eq_true rfl, Nat.le_of_ble_eq_true rfl⟩ rfl (fun lay => ?_)
  refine j_istore_n 8 C dX5_setBarriers_7 (lo' := [(2, .int r102), (0, .ref (ga g 0)), (1, .int x1)]) (by decide) rfl rfl ?_
  refine j_aload_n 9 C dX5_setBarriers_8 1 rfl rfl ?_
  refine j_iload_n 10 C dX5_setBarriers_9 2 rfl rfl ?_
  obtain ⟨hz104, h⟩ := gd_e h
  refine p_F 13 C K 8 (by decide) mw_288 (isb_n hz104) (isb_f hz104) dX5_setBarriers_10 rfl (fun σ103 eσ103 => ?_)
  replace h := lt_e h σ103 eσ103
  refine j_iload_n 14 C dX5_setBarriers_13 0 rfl rfl ?_
  cases h
  exact x_i C M dX5_setBarriers_14
theorem cp_X5_isNode : CPv yX5_isNode cX5_isNode 2 (some .boolean) RX5 1 := ⟨mw_514, mw_17, mw_98, mw_515, rfl, by decide, by decide, by decide +kernel⟩
set_option maxHeartbeats 4000000 in
set_option maxRecDepth 100000 in
theorem wn_X5_isNode_16 {l : Launch} {p : Program} {e : Env} {s : State} {m : MethodId} {args : Array Value} {below : List Frame} {meth : Method} {c : Code} {g : GG} {A : Nat → Prop} (C : KX p m c cX5_isNode 2 s args RX5) (K : KC l g A s) (M : KM meth (some .boolean)) {σ' : CS} {r : Int32} {x1 : Int32}     (lay : Nat → Nat) (σ : CS)   (h : B_X5_isNode_16 x1 σ  = some (σ', r)) : JJ p l e (rmk 0 0 0 0) s m args below meth c (MQ below (va_Qi (fun (r0 : Int32) (u : CS) => r0 = r ∧ u = σ') (BC (CH g A)) A) args s 0 0 A) A 2 (CH g A lay σ) 0 0 16 [] [] := by
  unfold B_X5_isNode_16 at h
  refine j_iconst 17 C dX5_isNode_16 ic_0 rfl ?_
  cases h
  exact x_z C M dX5_isNode_17 (by decide)
set_option maxHeartbeats 4000000 in
set_option maxRecDepth 100000 in
theorem c_X5_isNode {l : Launch} (hst : l.stackTraces = false) (g : GG) (A : Nat → Prop) (lay : Nat → Nat) {σ : CS} {σ' : CS} {r : Int32} {x1 : Int32}  (h : F_X5_isNode σ x1 = some (σ', r)) : MI l yX5_isNode cX5_isNode 2 .boolean 0 0 0 0 [.ref (ga g 0), .int x1] (CH g A) g A lay σ σ' r := by
  unfold F_X5_isNode at h
  refine e_i (own := RX5) (lo := [(0, .ref (ga g 0)), (1, .int x1)]) hst (plainFor_of_name (by decide)) rfl rfl (Nat.le_of_ble_eq_true rfl) ?_
  intro p e s m args below meth c C K M
  refine j_iload_n 1 C dX5_isNode_0 1 rfl rfl ?_
  refine j_if_lt 4 16 C dX5_isNode_1 (by decide) rfl (fun hc101 => ?_) (fun hc101 => ?_)
  · replace h := it_t hc101 h
    refine j_sub [] (lo' := []) rfl ?_
    exact wn_X5_isNode_16 C K M  lay σ  h
  · replace h := it_f hc101 h
    refine j_iload_n 5 C dX5_isNode_4 1 rfl rfl ?_
    refine j_aload_n 6 C dX5_isNode_5 0 rfl rfl ?_
    refine g_F 9 C K 6 (by decide) mw_286 rfl dX5_isNode_6 rfl ?_
    refine j_icmp_ge 12 16 C dX5_isNode_9 (by decide) rfl (fun hc102 => ?_) (fun hc102 => ?_)
    · replace h := it_t hc102 h
      refine j_sub [] (lo' := []) rfl ?_
      exact wn_X5_isNode_16 C K M  lay σ  h
    · replace h := it_f hc102 h
      refine j_iconst 13 C dX5_isNode_12 ic_1 rfl ?_
      refine j_goto 17 C dX5_isNode_13 (by decide) ?_
      cases h
      exact x_z C M dX5_isNode_17 (by decide)
theorem cp_X5_requireNode : CPv yX5_requireNode cX5_requireNode 2 none RX5 1 := ⟨mw_510, mw_16, mw_98, mw_511, rfl, by decide, by decide, by decide +kernel⟩
set_option maxHeartbeats 4000000 in
set_option maxRecDepth 100000 in
theorem c_X5_requireNode {l : Launch} (hst : l.stackTraces = false) (g : GG) (A : Nat → Prop) (lay : Nat → Nat) {σ : CS} {σ' : CS} {r : Unit} {x1 : Int32}  (h : F_X5_requireNode σ x1 = some (σ', .inl r)) : MV l yX5_requireNode cX5_requireNode 2 6 90 0 0 [.ref (ga g 0), .int x1] (CH g A) g A lay σ σ' := by
  unfold F_X5_requireNode at h
  refine e_v (own := RX5) (lo := [(0, .ref (ga g 0)), (1, .int x1)]) hst (plainFor_of_name (by decide)) rfl rfl (Nat.le_of_ble_eq_true rfl) ?_
  intro p e s m args below meth c C K M
  refine j_aload_n 1 C dX5_requireNode_0 0 rfl rfl ?_
  refine j_iload_n 2 C dX5_requireNode_1 1 rfl rfl ?_
  obtain ⟨σ101, r102, hF, h⟩ := bd_e h
  refine k_Vi 5 C K (c_X5_isNode K.2.2.2 g A lay  hF) cp_X5_isNode (rv_F) mw_512 dX5_requireNode_2 rfl rfl (Nat.le_of_ble_eq_true rfl) ⟨Nat.le_of_ble_eq_true rfl, Nat.le_of_ble_eq_true rfl⟩ ⟨Nat.le_of_ble_eq_true rfl, Nat.le_of_ble_eq_true rfl⟩ rfl (fun lay => ?_)
  refine j_if_ne 8 19 C dX5_requireNode_5 (by decide) rfl (fun hc103 => ?_) (fun hc103 => ?_)
  · replace h := it_f hc103 h
    cases h
    exact x_v C M dX5_requireNode_19
  · replace h := it_t hc103 h
    cases h
set_option maxHeartbeats 4000000 in
set_option maxRecDepth 100000 in
theorem x_X5_requireNode {l : Launch} (hst : l.stackTraces = false) (g : GG) (A : Nat → Prop) (lay : Nat → Nat) {σ : CS} {σ' : CS} {ex : Nat} {x1 : Int32}  (h : F_X5_requireNode σ x1 = some (σ', .inr ex)) : XV l yX5_requireNode cX5_requireNode 2 6 90 [.ref (ga g 0), .int x1] (CH g A) g A lay σ σ' ex := by
  unfold F_X5_requireNode at h
  refine ex_v (own := RX5) (lo := [(0, .ref (ga g 0)), (1, .int x1)]) hst (by decide) rfl rfl (Nat.le_of_ble_eq_true rfl) ?_
  intro p e s m args below meth c C K M hx
  refine j_aload_n 1 C dX5_requireNode_0 0 rfl rfl ?_
  refine j_iload_n 2 C dX5_requireNode_1 1 rfl rfl ?_
  obtain ⟨σ101, r102, hF, h⟩ := bd_e h
  refine k_Vi 5 C K (c_X5_isNode K.2.2.2 g A lay  hF) cp_X5_isNode (rv_F) mw_512 dX5_requireNode_2 rfl rfl (Nat.le_of_ble_eq_true rfl) ⟨Nat.le_of_ble_eq_true rfl, Nat.le_of_ble_eq_true rfl⟩ ⟨Nat.le_of_ble_eq_true rfl, Nat.le_of_ble_eq_true rfl⟩ rfl (fun lay => ?_)
  refine j_if_ne 8 19 C dX5_requireNode_5 (by decide) rfl (fun hc103 => ?_) (fun hc103 => ?_)
  · replace h := it_f hc103 h
    cases h
  · replace h := it_t hc103 h
    cases h
    exact jx_w1 C K M hx CH_kept mw_516 xs_324 xat_X5_235 dX5_requireNode_8 dX5_requireNode_11 dX5_requireNode_12 dX5_requireNode_15 dX5_requireNode_18 (Nat.le_of_ble_eq_true rfl) (Nat.le_of_ble_eq_true rfl) ⟨Nat.le_of_ble_eq_true rfl, Nat.le_of_ble_eq_true rfl⟩
theorem cp_X5_requireReached : CPv yX5_requireReached cX5_requireReached 2 none RX5 1 := ⟨mw_679, mw_28, mw_98, mw_680, rfl, by decide, by decide, by decide +kernel⟩
set_option maxHeartbeats 4000000 in
set_option maxRecDepth 100000 in
theorem wn_X5_requireReached_15 {l : Launch} {p : Program} {e : Env} {s : State} {m : MethodId} {args : Array Value} {below : List Frame} {meth : Method} {c : Code} {g : GG} {A : Nat → Prop} (C : KX p m c cX5_requireReached 2 s args RX5) (K : KC l g A s) (M : KM meth none) {σ' : CS} {r : Unit} {x1 : Int32}     (lay : Nat → Nat) (σ : CS)   (h : B_X5_requireReached_15 x1 σ  = some (σ', .inl r)) : JJ p l e (rmk 6 90 0 0) s m args below meth c (MQ below (va_Qv (fun u : CS => u = σ') (BC (CH g A)) A) args s 0 0 A) A 2 (CH g A lay σ) 0 0 15 [] [] := by
  unfold B_X5_requireReached_15 at h
  cases h
set_option maxHeartbeats 4000000 in
set_option maxRecDepth 100000 in
theorem c_X5_requireReached {l : Launch} (hst : l.stackTraces = false) (g : GG) (A : Nat → Prop) (lay : Nat → Nat) {σ : CS} {σ' : CS} {r : Unit} {x1 : Int32}  (h : F_X5_requireReached σ x1 = some (σ', .inl r)) : MV l yX5_requireReached cX5_requireReached 2 6 90 0 0 [.ref (ga g 0), .int x1] (CH g A) g A lay σ σ' := by
  unfold F_X5_requireReached at h
  refine e_v (own := RX5) (lo := [(0, .ref (ga g 0)), (1, .int x1)]) hst (plainFor_of_name (by decide)) rfl rfl (Nat.le_of_ble_eq_true rfl) ?_
  intro p e s m args below meth c C K M
  refine j_iload_n 1 C dX5_requireReached_0 1 rfl rfl ?_
  refine j_iconst 2 C dX5_requireReached_1 ic_1 rfl ?_
  refine j_icmp_lt 5 15 C dX5_requireReached_2 (by decide) rfl (fun hc101 => ?_) (fun hc101 => ?_)
  · replace h := it_t hc101 h
    refine j_sub [] (lo' := []) rfl ?_
    exact wn_X5_requireReached_15 C K M  lay σ  h
  · replace h := it_f hc101 h
    refine j_iload_n 6 C dX5_requireReached_5 1 rfl rfl ?_
    refine j_iconst 7 C dX5_requireReached_6 ic_1 rfl ?_
    refine j_aload_n 8 C dX5_requireReached_7 0 rfl rfl ?_
    refine g_F 11 C K 6 (by decide) mw_286 rfl dX5_requireReached_8 rfl ?_
    refine j_ishl 12 C dX5_requireReached_11 rfl ?_
    refine j_icmp_lt 15 26 C dX5_requireReached_12 (by decide) rfl (fun hc102 => ?_) (fun hc102 => ?_)
    · replace h := it_t hc102 h
      cases h
      exact x_v C M dX5_requireReached_26
    · replace h := it_f hc102 h
      refine j_sub [] (lo' := []) rfl ?_
      exact wn_X5_requireReached_15 C K M  lay σ  h
set_option maxHeartbeats 4000000 in
set_option maxRecDepth 100000 in
theorem wx_X5_requireReached_15 {l : Launch} {p : Program} {e : Env} {s : State} {m : MethodId} {args : Array Value} {below : List Frame} {meth : Method} {c : Code} {g : GG} {A : Nat → Prop} (C : KX p m c cX5_requireReached 2 s args RX5) (K : KC l g A s) (M : KM meth none) (hx : ∀ x ∈ c.exceptionTable.toList, False) {σ' : CS} {ex : Nat} {x1 : Int32}     (lay : Nat → Nat) (σ : CS)   (h : B_X5_requireReached_15 x1 σ  = some (σ', .inr ex)) : JJ p l e (rmk 6 90 1 6) s m args below meth c (vx_MQ below (va_Qv (fun _ : CS => False) (BC (CH g A)) A) (xxX (BC (CH g A)) A σ' ex) args s 1 6 A) A 2 (CH g A lay σ) 0 0 15 [] [] := by
  unfold B_X5_requireReached_15 at h
  cases h
  exact jx_w2 C K M hx CH_kept mw_432 xs_331 xat_X5_58 dX5_requireReached_15 dX5_requireReached_18 dX5_requireReached_19 dX5_requireReached_22 dX5_requireReached_25 (Nat.le_of_ble_eq_true rfl) (Nat.le_of_ble_eq_true rfl) ⟨Nat.le_of_ble_eq_true rfl, Nat.le_of_ble_eq_true rfl⟩
set_option maxHeartbeats 4000000 in
set_option maxRecDepth 100000 in
theorem x_X5_requireReached {l : Launch} (hst : l.stackTraces = false) (g : GG) (A : Nat → Prop) (lay : Nat → Nat) {σ : CS} {σ' : CS} {ex : Nat} {x1 : Int32}  (h : F_X5_requireReached σ x1 = some (σ', .inr ex)) : XV l yX5_requireReached cX5_requireReached 2 6 90 [.ref (ga g 0), .int x1] (CH g A) g A lay σ σ' ex := by
  unfold F_X5_requireReached at h
  refine ex_v (own := RX5) (lo := [(0, .ref (ga g 0)), (1, .int x1)]) hst (by decide) rfl rfl (Nat.le_of_ble_eq_true rfl) ?_
  intro p e s m args below meth c C K M hx
  refine j_iload_n 1 C dX5_requireReached_0 1 rfl rfl ?_
  refine j_iconst 2 C dX5_requireReached_1 ic_1 rfl ?_
  refine j_icmp_lt 5 15 C dX5_requireReached_2 (by decide) rfl (fun hc101 => ?_) (fun hc101 => ?_)
  · replace h := it_t hc101 h
    refine j_sub [] (lo' := []) rfl ?_
    exact wx_X5_requireReached_15 C K M hx  lay σ  h
  · replace h := it_f hc101 h
    refine j_iload_n 6 C dX5_requireReached_5 1 rfl rfl ?_
    refine j_iconst 7 C dX5_requireReached_6 ic_1 rfl ?_
    refine j_aload_n 8 C dX5_requireReached_7 0 rfl rfl ?_
    refine g_F 11 C K 6 (by decide) mw_286 rfl dX5_requireReached_8 rfl ?_
    refine j_ishl 12 C dX5_requireReached_11 rfl ?_
    refine j_icmp_lt 15 26 C dX5_requireReached_12 (by decide) rfl (fun hc102 => ?_) (fun hc102 => ?_)
    · replace h := it_t hc102 h
      cases h
    · replace h := it_f hc102 h
      refine j_sub [] (lo' := []) rfl ?_
      exact wx_X5_requireReached_15 C K M hx  lay σ  h
theorem cp_X5_isIn : CPs yX5_isIn cX5_isIn 2 (some .boolean) 2 := ⟨mw_571, mw_98, mw_572, by decide, by decide, by decide +kernel⟩
set_option maxHeartbeats 4000000 in
set_option maxRecDepth 100000 in
theorem c_X5_isIn {l : Launch} (hst : l.stackTraces = false) (g : GG) (A : Nat → Prop) (lay : Nat → Nat) {σ : CS} {σ' : CS} {r : Int32} {x0 : Int32} {x1 : Int32}  (h : F_X5_isIn σ x0 x1 = some (σ', r)) : MI l yX5_isIn cX5_isIn 2 .boolean 0 0 0 0 [.int x0, .int x1] (CH g A) g A lay σ σ' r := by
  unfold F_X5_isIn at h
  refine e_i (own := RX5) (lo := [(0, .int x0), (1, .int x1)]) hst (plainFor_of_name (by decide)) rfl rfl (Nat.le_of_ble_eq_true rfl) ?_
  intro p e s m args below meth c C K M
  refine j_iload_n 1 C dX5_isIn_0 0 rfl rfl ?_
  refine j_iload_n 2 C dX5_isIn_1 1 rfl rfl ?_
  refine j_ishr 3 C dX5_isIn_2 rfl ?_
  refine j_iconst 4 C dX5_isIn_3 ic_1 rfl ?_
  refine j_iand 5 C dX5_isIn_4 rfl ?_
  refine j_iconst 6 C dX5_isIn_5 ic_1 rfl ?_
  refine j_icmp_ne 9 13 C dX5_isIn_6 (by decide) rfl (fun hc101 => ?_) (fun hc101 => ?_)
  · replace h := it_f hc101 h
    refine j_iconst 14 C dX5_isIn_13 ic_0 rfl ?_
    cases h
    exact x_z C M dX5_isIn_14 (by decide)
  · replace h := it_t hc101 h
    refine j_iconst 10 C dX5_isIn_9 ic_1 rfl ?_
    refine j_goto 14 C dX5_isIn_10 (by decide) ?_
    cases h
    exact x_z C M dX5_isIn_14 (by decide)
theorem cp_X5_gets : CPv yX5_gets cX5_gets 3 (some .boolean) RX5 2 := ⟨mw_698, mw_30, mw_98, mw_699, rfl, by decide, by decide, by decide +kernel⟩
set_option maxHeartbeats 4000000 in
set_option maxRecDepth 100000 in
theorem wn_X5_gets_24 {l : Launch} {p : Program} {e : Env} {s : State} {m : MethodId} {args : Array Value} {below : List Frame} {meth : Method} {c : Code} {g : GG} {A : Nat → Prop} (C : KX p m c cX5_gets 3 s args RX5) (K : KC l g A s) (M : KM meth (some .boolean)) {σ' : CS} {r : Int32} {x1 : Int32} {x2 : Int32}     (lay : Nat → Nat) (σ : CS)   (h : B_X5_gets_24 x1 x2 σ  = some (σ', r)) : JJ p l e (rmk 1 21 0 0) s m args below meth c (MQ below (va_Qi (fun (r0 : Int32) (u : CS) => r0 = r ∧ u = σ') (BC (CH g A)) A) args s 0 0 A) A 3 (CH g A lay σ) 0 0 24 [] [] := by
  unfold B_X5_gets_24 at h
  refine j_iconst 25 C dX5_gets_24 ic_0 rfl ?_
  cases h
  exact x_z C M dX5_gets_25 (by decide)
set_option maxHeartbeats 4000000 in
set_option maxRecDepth 100000 in
theorem c_X5_gets {l : Launch} (hst : l.stackTraces = false) (g : GG) (A : Nat → Prop) (lay : Nat → Nat) {σ : CS} {σ' : CS} {r : Int32} {x1 : Int32} {x2 : Int32}  (h : F_X5_gets σ x1 x2 = some (σ', r)) : MI l yX5_gets cX5_gets 3 .boolean 1 21 0 0 [.ref (ga g 0), .int x1, .int x2] (CH g A) g A lay σ σ' r := by
  unfold F_X5_gets at h
  refine e_i (own := RX5) (lo := [(0, .ref (ga g 0)), (1, .int x1), (2, .int x2)]) hst (plainFor_of_name (by decide)) rfl rfl (Nat.le_of_ble_eq_true rfl) ?_
  intro p e s m args below meth c C K M
  refine j_iload_n 1 C dX5_gets_0 2 rfl rfl ?_
  refine j_iload_n 2 C dX5_gets_1 1 rfl rfl ?_
  obtain ⟨σ101, r102, hF, h⟩ := bd_e h
  refine k_Si 5 C K (c_X5_isIn K.2.2.2 g A lay  hF) cp_X5_isIn mw_570 dX5_gets_2 rfl rfl (Nat.le_of_ble_eq_true rfl) ⟨Nat.le_of_ble_eq_true rfl, Nat.le_of_ble_eq_true rfl⟩ ⟨Nat.le_of_ble_eq_true rfl, Nat.le_of_ble_eq_true rfl⟩ rfl (fun lay => ?_)
  refine j_if_eq 8 24 C dX5_gets_5 (by decide) rfl (fun hc103 => ?_) (fun hc103 => ?_)
  · replace h := it_t hc103 h
    refine j_sub [] (lo' := []) rfl ?_
    exact wn_X5_gets_24 C K M  lay σ101  h
  · replace h := it_f hc103 h
    refine j_aload_n 9 C dX5_gets_8 0 rfl rfl ?_
    refine g_F 12 C K 0 (by decide) mw_280 rfl dX5_gets_9 rfl ?_
    refine j_iload_n 13 C dX5_gets_12 1 rfl rfl ?_
    obtain ⟨hz104, h⟩ := gd_e h
    have hb105 : tn x1 < 7 := inb_lt hz104
    refine r_nodes 14 C K hz104 dX5_gets_13 rfl ?_
    obtain ⟨σ106, r107, hF, h⟩ := bd_e h
    refine k_Vi 17 C K (c_X3_takesPart K.2.2.2 g A lay hb105 hF) cp_X3_takesPart (rv_N hb105) mw_682 dX5_gets_14 rfl rfl (Nat.le_of_ble_eq_true rfl) ⟨Nat.le_of_ble_eq_true rfl, Nat.le_of_ble_eq_true rfl⟩ ⟨Nat.le_of_ble_eq_true rfl, Nat.le_of_ble_eq_true rfl⟩ rfl (fun lay => ?_)
    refine j_if_eq 20 24 C dX5_gets_17 (by decide) rfl (fun hc108 => ?_) (fun hc108 => ?_)
    · replace h := it_t hc108 h
      refine j_sub [] (lo' := []) rfl ?_
      exact wn_X5_gets_24 C K M  lay σ106  h
    · replace h := it_f hc108 h
      refine j_iconst 21 C dX5_gets_20 ic_1 rfl ?_
      refine j_goto 25 C dX5_gets_21 (by decide) ?_
      cases h
      exact x_z C M dX5_gets_25 (by decide)
theorem cp_X5_agrees : CPv yX5_agrees cX5_agrees 8 (some .boolean) RX5 5 := ⟨mw_702, mw_31, mw_98, mw_703, rfl, by decide, by decide, by decide +kernel⟩
set_option maxHeartbeats 4000000 in
set_option maxRecDepth 100000 in
theorem wn_X5_agrees_98 {l : Launch} {p : Program} {e : Env} {s : State} {m : MethodId} {args : Array Value} {below : List Frame} {meth : Method} {c : Code} {g : GG} {A : Nat → Prop} (C : KX p m c cX5_agrees 8 s args RX5) (K : KC l g A s) (M : KM meth (some .boolean)) {σ' : CS} {r : Int32} {o1 : Nat} {o2 : Nat} {x3 : Int32} {x4 : Int32} {x5 : Int32} (ho1 : o1 < 7) (ho2 : o2 < 7)    (lay : Nat → Nat) (σ : CS) (v7 : Int32)  (h : B_X5_agrees_98 o1 o2 x3 x4 x5 σ v7 = some (σ', r)) : JJ p l e (rmk 5 127 3 1536) s m args below meth c (MQ below (va_Qi (fun (r0 : Int32) (u : CS) => r0 = r ∧ u = σ') (BC (CH g A)) A) args s 3 1536 A) A 8 (CH g A lay σ) 3 1536 98 [(7, .int v7)] [] := by
  unfold B_X5_agrees_98 at h
  refine j_iload 100 C dX5_agrees_98 0 rfl rfl ?_
  obtain ⟨hz115, h⟩ := gd_e h
  cases h
  exact x_z C M dX5_agrees_100 hz115
set_option maxHeartbeats 4000000 in
set_option maxRecDepth 100000 in
theorem wn_X5_agrees_86 {l : Launch} {p : Program} {e : Env} {s : State} {m : MethodId} {args : Array Value} {below : List Frame} {meth : Method} {c : Code} {g : GG} {A : Nat → Prop} (C : KX p m c cX5_agrees 8 s args RX5) (K : KC l g A s) (M : KM meth (some .boolean)) {σ' : CS} {r : Int32} {o1 : Nat} {o2 : Nat} {x3 : Int32} {x4 : Int32} {x5 : Int32} (ho1 : o1 < 7) (ho2 : o2 < 7)    (lay : Nat → Nat) (σ : CS) (v7 : Int32)  (h : B_X5_agrees_86 o1 o2 x3 x4 x5 σ v7 = some (σ', r)) : JJ p l e (rmk 5 127 3 1536) s m args below meth c (MQ below (va_Qi (fun (r0 : Int32) (u : CS) => r0 = r ∧ u = σ') (BC (CH g A)) A) args s 3 1536 A) A 8 (CH g A lay σ) 3 1536 86 [(0, .ref (ga g 0)), (1, .ref (ga g (5 + o1))), (7, .int v7)] [] := by
  unfold B_X5_agrees_86 at h
  refine j_aload_n 87 C dX5_agrees_86 0 rfl rfl ?_
  refine g_F 90 C K 8 (by decide) mw_288 rfl dX5_agrees_87 rfl ?_
  refine j_if_eq 93 98 C dX5_agrees_90 (by decide) rfl (fun hc112 => ?_) (fun hc112 => ?_)
  · replace h := it_t hc112 h
    refine j_sub [2] (lo' := [(7, .int v7)]) rfl ?_
    exact wn_X5_agrees_98 C K M ho1 ho2 lay σ v7 h
  · replace h := it_f hc112 h
    refine j_aload_n 94 C dX5_agrees_93 1 rfl rfl ?_
    obtain ⟨σ113, r114, hF, h⟩ := bd_e h
    refine k_Vi 97 C K (c_X3_carryOutAll K.2.2.2 g A lay ho1 hF) cp_X3_carryOutAll (rv_N ho1) mw_731 dX5_agrees_94 rfl rfl (Nat.le_of_ble_eq_true rfl) ⟨Nat.le_of_ble_eq_true rfl, Nat.le_of_ble_eq_true rfl⟩ ⟨by simp only [rmk]; omega, by simp only [rmk]; omega⟩ rfl (fun lay => ?_)
    refine j_pop 98 C dX5_agrees_97 rfl rfl ?_
    refine j_sub [2] (lo' := [(7, .int v7)]) rfl ?_
    exact wn_X5_agrees_98 C K M ho1 ho2 lay σ113 v7 h
set_option maxHeartbeats 4000000 in
set_option maxRecDepth 100000 in
theorem wn_X5_agrees_41 {l : Launch} {p : Program} {e : Env} {s : State} {m : MethodId} {args : Array Value} {below : List Frame} {meth : Method} {c : Code} {g : GG} {A : Nat → Prop} (C : KX p m c cX5_agrees 8 s args RX5) (K : KC l g A s) (M : KM meth (some .boolean)) {σ' : CS} {r : Int32} {o1 : Nat} {o2 : Nat} {x3 : Int32} {x4 : Int32} {x5 : Int32} (ho1 : o1 < 7) (ho2 : o2 < 7)    (lay : Nat → Nat) (σ : CS) (v6 : Int32) (w0 : Int32)  (h : B_X5_agrees_41 o1 o2 x3 x4 x5 σ v6 w0 = some (σ', r)) : JJ p l e (rmk 5 127 3 1536) s m args below meth c (MQ below (va_Qi (fun (r0 : Int32) (u : CS) => r0 = r ∧ u = σ') (BC (CH g A)) A) args s 3 1536 A) A 8 (CH g A lay σ) 0 0 41 [(0, .ref (ga g 0)), (1, .ref (ga g (5 + o1))), (2, .ref (ga g (5 + o2))), (3, .int x3), (4, .int x4), (5, .int x5), (6, .int v6)] [.int w0] := by
  unfold B_X5_agrees_41 at h
  refine j_istore 43 C dX5_agrees_41 (lo' := [(7, .int w0), (0, .ref (ga g 0)), (1, .ref (ga g (5 + o1))), (2, .ref (ga g (5 + o2))), (3, .int x3), (4, .int x4), (5, .int x5), (6, .int v6)]) (by decide) rfl rfl ?_
  refine j_aload_n 44 C dX5_agrees_43 1 rfl rfl ?_
  refine j_dup 45 C dX5_agrees_44 rfl rfl ?_
  refine g_F 48 C K 9 (by decide) mw_289 rfl dX5_agrees_45 rfl ?_
  refine j_iconst 49 C dX5_agrees_48 ic_1 rfl ?_
  refine j_iadd 50 C dX5_agrees_49 rfl ?_
  refine p_F 53 C K 9 (by decide) mw_289 rfl rfl dX5_agrees_50 rfl (fun σ105 eσ105 => ?_)
  replace h := lt_e h σ105 eσ105
  refine j_iload 55 C dX5_agrees_53 0 rfl rfl ?_
  refine j_if_eq 58 80 C dX5_agrees_55 (by decide) rfl (fun hc106 => ?_) (fun hc106 => ?_)
  · replace h := it_t hc106 h
    refine j_aload_n 81 C dX5_agrees_80 3 rfl rfl ?_
    refine j_iload 83 C dX5_agrees_81 7 rfl rfl ?_
    obtain ⟨σ107, u108, hF, h⟩ := bd_e h
    refine k_Vv 86 C K (c_X3_tell K.2.2.2 g A lay ho2 hF) cp_X3_tell (rv_N ho2) mw_691 dX5_agrees_83 rfl rfl (Nat.le_of_ble_eq_true rfl) ⟨Nat.le_of_ble_eq_true rfl, Nat.le_of_ble_eq_true rfl⟩ ⟨by simp only [rmk]; omega, by simp only [rmk]; omega⟩ rfl (fun lay => ?_)
    refine j_sub [1, 2, 0] (lo' := [(0, .ref (ga g 0)), (1, .ref (ga g (5 + o1))), (7, .int w0)]) rfl ?_
    refine j_widen (k' := 3) (n' := 1536) (by omega) (by omega) ?_
    exact wn_X5_agrees_86 C K M ho1 ho2 lay σ107 w0 h
  · replace h := it_f hc106 h
    refine j_aload_n 59 C dX5_agrees_58 1 rfl rfl ?_
    refine j_dup 60 C dX5_agrees_59 rfl rfl ?_
    refine g_F 63 C K 10 (by decide) mw_290 rfl dX5_agrees_60 rfl ?_
    refine j_iconst 64 C dX5_agrees_63 ic_1 rfl ?_
    refine j_iadd 65 C dX5_agrees_64 rfl ?_
    refine p_F 68 C K 10 (by decide) mw_290 rfl rfl dX5_agrees_65 rfl (fun σ109 eσ109 => ?_)
    replace h := lt_e h σ109 eσ109
    refine j_aload_n 69 C dX5_agrees_68 2 rfl rfl ?_
    refine j_iload_n 70 C dX5_agrees_69 4 rfl rfl ?_
    refine j_iload 72 C dX5_agrees_70 5 rfl rfl ?_
    refine j_iload 74 C dX5_agrees_72 6 rfl rfl ?_
    obtain ⟨σ110, u111, hF, h⟩ := bd_e h
    refine k_Vv 77 C K (c_X3_write K.2.2.2 g A lay ho1 hF) cp_X3_write (rv_N ho1) mw_704 dX5_agrees_74 rfl rfl (Nat.le_of_ble_eq_true rfl) ⟨Nat.le_of_ble_eq_true rfl, Nat.le_of_ble_eq_true rfl⟩ ⟨by simp only [rmk]; omega, by simp only [rmk]; omega⟩ rfl (fun lay => ?_)
    refine j_goto 86 C dX5_agrees_77 (by decide) ?_
    refine j_sub [1, 2, 0] (lo' := [(0, .ref (ga g 0)), (1, .ref (ga g (5 + o1))), (7, .int w0)]) rfl ?_
    exact wn_X5_agrees_86 C K M ho1 ho2 lay σ110 w0 h
set_option maxHeartbeats 4000000 in
set_option maxRecDepth 100000 in
theorem c_X5_agrees {l : Launch} (hst : l.stackTraces = false) (g : GG) (A : Nat → Prop) (lay : Nat → Nat) {σ : CS} {σ' : CS} {r : Int32} {o1 : Nat} {o2 : Nat} {x3 : Int32} {x4 : Int32} {x5 : Int32} (ho1 : o1 < 7) (ho2 : o2 < 7) (h : F_X5_agrees σ o1 o2 x3 x4 x5 = some (σ', r)) : MI l yX5_agrees cX5_agrees 8 .boolean 5 127 3 1536 [.ref (ga g 0), .ref (ga g (5 + o1)), .ref (ga g (5 + o2)), .int x3, .int x4, .int x5] (CH g A) g A lay σ σ' r := by
  unfold F_X5_agrees at h
  refine e_i (own := RX5) (lo := [(0, .ref (ga g 0)), (1, .ref (ga g (5 + o1))), (2, .ref (ga g (5 + o2))), (3, .int x3), (4, .int x4), (5, .int x5)]) hst (plainFor_of_name (by decide)) rfl rfl (Nat.le_of_ble_eq_true rfl) ?_
  intro p e s m args below meth c C K M
  refine j_aload_n 1 C dX5_agrees_0 1 rfl rfl ?_
  refine g_N 4 C K ho1 2 (by decide) mw_222 rfl dX5_agrees_1 rfl ?_
  refine g_D 7 C K (by omega) 0 (by decide) mw_140 rfl dX5_agrees_4 rfl ?_
  refine j_topi (fun x101 ex101 => ?_)
  replace h := lt_e h x101 ex101
  refine j_istore 9 C dX5_agrees_7 (lo' := [(6, .int x101), (0, .ref (ga g 0)), (1, .ref (ga g (5 + o1))), (2, .ref (ga g (5 + o2))), (3, .int x3), (4, .int x4), (5, .int x5)]) (by decide) rfl rfl ?_
  refine j_iload_n 10 C dX5_agrees_9 4 rfl rfl ?_
  refine j_iconst 11 C dX5_agrees_10 ic_m1 rfl ?_
  refine j_icmp_ne 14 29 C dX5_agrees_11 (by decide) rfl (fun hc102 => ?_) (fun hc102 => ?_)
  · replace h := it_f hc102 h
    refine j_iload 31 C dX5_agrees_29 5 rfl rfl ?_
    refine j_iload 33 C dX5_agrees_31 0 rfl rfl ?_
    refine j_icmp_lt 36 40 C dX5_agrees_33 (by decide) rfl (fun hc103 => ?_) (fun hc103 => ?_)
    · replace h := it_t hc103 h
      refine j_iconst 41 C dX5_agrees_40 ic_0 rfl ?_
      refine j_sub [1, 2, 3, 4, 5, 6, 0] (lo' := [(0, .ref (ga g 0)), (1, .ref (ga g (5 + o1))), (2, .ref (ga g (5 + o2))), (3, .int x3), (4, .int x4), (5, .int x5), (6, .int x101)]) rfl ?_
      exact wn_X5_agrees_41 C K M ho1 ho2 lay σ x101 (0 : Int32) h
    · replace h := it_f hc103 h
      refine j_iconst 37 C dX5_agrees_36 ic_1 rfl ?_
      refine j_goto 41 C dX5_agrees_37 (by decide) ?_
      refine j_sub [1, 2, 3, 4, 5, 6, 0] (lo' := [(0, .ref (ga g 0)), (1, .ref (ga g (5 + o1))), (2, .ref (ga g (5 + o2))), (3, .int x3), (4, .int x4), (5, .int x5), (6, .int x101)]) rfl ?_
      exact wn_X5_agrees_41 C K M ho1 ho2 lay σ x101 (1 : Int32) h
  · replace h := it_t hc102 h
    refine j_iload 16 C dX5_agrees_14 5 rfl rfl ?_
    refine j_iload 18 C dX5_agrees_16 0 rfl rfl ?_
    refine j_icmp_le 21 25 C dX5_agrees_18 (by decide) rfl (fun hc104 => ?_) (fun hc104 => ?_)
    · replace h := it_t hc104 h
      refine j_iconst 26 C dX5_agrees_25 ic_0 rfl ?_
      refine j_goto 41 C dX5_agrees_26 (by decide) ?_
      refine j_sub [1, 2, 3, 4, 5, 6, 0] (lo' := [(0, .ref (ga g 0)), (1, .ref (ga g (5 + o1))), (2, .ref (ga g (5 + o2))), (3, .int x3), (4, .int x4), (5, .int x5), (6, .int x101)]) rfl ?_
      exact wn_X5_agrees_41 C K M ho1 ho2 lay σ x101 (0 : Int32) h
    · replace h := it_f hc104 h
      refine j_iconst 22 C dX5_agrees_21 ic_1 rfl ?_
      refine j_goto 41 C dX5_agrees_22 (by decide) ?_
      refine j_sub [1, 2, 3, 4, 5, 6, 0] (lo' := [(0, .ref (ga g 0)), (1, .ref (ga g (5 + o1))), (2, .ref (ga g (5 + o2))), (3, .int x3), (4, .int x4), (5, .int x5), (6, .int x101)]) rfl ?_
      exact wn_X5_agrees_41 C K M ho1 ho2 lay σ x101 (1 : Int32) h
theorem cp_X5_quorum : CPv yX5_quorum cX5_quorum 1 (some .int) RX5 0 := ⟨mw_414, mw_9, mw_98, mw_415, rfl, by decide, by decide, by decide +kernel⟩
set_option maxHeartbeats 4000000 in
set_option maxRecDepth 100000 in
theorem c_X5_quorum {l : Launch} (hst : l.stackTraces = false) (g : GG) (A : Nat → Prop) (lay : Nat → Nat) {σ : CS} {σ' : CS} {r : Int32}   (h : F_X5_quorum σ  = some (σ', r)) : MI l yX5_quorum cX5_quorum 1 .int 0 0 0 0 [.ref (ga g 0)] (CH g A) g A lay σ σ' r := by
  unfold F_X5_quorum at h
  refine e_i (own := RX5) (lo := [(0, .ref (ga g 0))]) hst (plainFor_of_name (by decide)) rfl rfl (Nat.le_of_ble_eq_true rfl) ?_
  intro p e s m args below meth c C K M
  refine j_aload_n 1 C dX5_quorum_0 0 rfl rfl ?_
  refine g_F 4 C K 6 (by decide) mw_286 rfl dX5_quorum_1 rfl ?_
  refine j_iconst 5 C dX5_quorum_4 ic_2 rfl ?_
  refine j_idiv 6 C dX5_quorum_5 (by decide) rfl ?_
  refine j_iconst 7 C dX5_quorum_6 ic_1 rfl ?_
  refine j_iadd 8 C dX5_quorum_7 rfl ?_
  cases h
  exact x_i C M dX5_quorum_8
theorem cp_X5_sendPrepare : CPv yX5_sendPrepare cX5_sendPrepare 6 (some .int) RX5 2 := ⟨mw_689, mw_29, mw_98, mw_690, rfl, by decide, by decide, by decide +kernel⟩
set_option maxHeartbeats 4000000 in
set_option maxRecDepth 100000 in
theorem wn_X5_sendPrepare_112 {l : Launch} {p : Program} {e : Env} {s : State} {m : MethodId} {args : Array Value} {below : List Frame} {meth : Method} {c : Code} {g : GG} {A : Nat → Prop} (C : KX p m c cX5_sendPrepare 6 s args RX5) (K : KC l g A s) (M : KM meth (some .int)) {σ' : CS} {r : Int32} {o1 : Nat} {x2 : Int32} (ho1 : o1 < 7)    (lay : Nat → Nat) (σ : CS) (v4 : Int32)  (h : B_X5_sendPrepare_112 o1 x2 σ v4 = some (σ', r)) : JJ p l e (rmk 6 154 24 12288) s m args below meth c (MQ below (va_Qi (fun (r0 : Int32) (u : CS) => r0 = r ∧ u = σ') (BC (CH g A)) A) args s 24 12288 A) A 6 (CH g A lay σ) 24 12288 112 [(4, .int v4)] [] := by
  unfold B_X5_sendPrepare_112 at h
  refine j_iload 114 C dX5_sendPrepare_112 0 rfl rfl ?_
  cases h
  exact x_i C M dX5_sendPrepare_114
set_option maxHeartbeats 4000000 in
set_option maxRecDepth 100000 in
theorem wn_X5_sendPrepare_85 {l : Launch} {p : Program} {e : Env} {s : State} {m : MethodId} {args : Array Value} {below : List Frame} {meth : Method} {c : Code} {g : GG} {A : Nat → Prop} (C : KX p m c cX5_sendPrepare 6 s args RX5) (K : KC l g A s) (M : KM meth (some .int)) {σ' : CS} {r : Int32} {o1 : Nat} {x2 : Int32} (ho1 : o1 < 7) {fu28 : Nat} {self28 : CS → Int32 → Int32 → Int32 → Option (CS × Int32)} (ih28 : ∀ (lay : Nat → Nat) (σ : CS) (v3 : Int32) (v4 : Int32) (v5 : Int32), ∀ (k n : Nat), k + 3 * fu28 ≤ 24 → n + 1536 * fu28 ≤ 12288 → self28 σ v3 v4 v5 = some (σ', r) → JJ p l e (rmk 6 154 24 12288) s m args below meth c (MQ below (va_Qi (fun (r0 : Int32) (u : CS) => r0 = r ∧ u = σ') (BC (CH g A)) A) args s 24 12288 A) A 6 (CH g A lay σ) k n 28 [(0, .ref (ga g 0)), (1, .ref (ga g (5 + o1))), (2, .int x2), (3, .int v3), (4, .int v4), (5, .int v5)] []) (lay : Nat → Nat) (σ : CS) (v3 : Int32) (v4 : Int32) (v5 : Int32)  (k n : Nat) (hk : k + 3 * fu28 ≤ 24) (hn : n + 1536 * fu28 ≤ 12288) (h : B_X5_sendPrepare_85 o1 x2 self28 σ v3 v4 v5 = some (σ', r)) : JJ p l e (rmk 6 154 24 12288) s m args below meth c (MQ below (va_Qi (fun (r0 : Int32) (u : CS) => r0 = r ∧ u = σ') (BC (CH g A)) A) args s 24 12288 A) A 6 (CH g A lay σ) k n 85 [(0, .ref (ga g 0)), (1, .ref (ga g (5 + o1))), (2, .int x2), (3, .int v3), (4, .int v4), (5, .int v5)] [] := by
  unfold B_X5_sendPrepare_85 at h
  obtain ⟨x127, ex127⟩ : ∃ z : Int32, z = v5 + 1 := ⟨_, rfl⟩
  replace h := lt_e h x127 ex127
  refine j_iinc 88 C dX5_sendPrepare_85 5 rfl (v := x127) ((ii_1 _).trans ex127.symm) (lo' := [(5, .int x127), (0, .ref (ga g 0)), (1, .ref (ga g (5 + o1))), (2, .int x2), (3, .int v3), (4, .int v4)]) (by decide) rfl rfl ?_
  refine j_goto 28 C dX5_sendPrepare_88 (by decide) ?_
  refine j_sub [1, 2, 3, 4, 5, 0] (lo' := [(0, .ref (ga g 0)), (1, .ref (ga g (5 + o1))), (2, .int x2), (3, .int v3), (4, .int v4), (5, .int x127)]) rfl ?_
  exact ih28 lay σ v3 v4 x127 k n (by omega) (by omega) h
set_option maxHeartbeats 4000000 in
set_option maxRecDepth 100000 in
theorem wn_X5_sendPrepare_28 {l : Launch} {p : Program} {e : Env} {s : State} {m : MethodId} {args : Array Value} {below : List Frame} {meth : Method} {c : Code} {g : GG} {A : Nat → Prop} (C : KX p m c cX5_sendPrepare 6 s args RX5) (K : KC l g A s) (M : KM meth (some .int)) {σ' : CS} {r : Int32} {o1 : Nat} {x2 : Int32} (ho1 : o1 < 7)    : ∀ (fu28 : Nat) (lay : Nat → Nat) (σ : CS) (v3 : Int32) (v4 : Int32) (v5 : Int32), ∀ (k n : Nat), k + 3 * fu28 ≤ 24 → n + 1536 * fu28 ≤ 12288 → B_X5_sendPrepare_28 o1 x2 fu28 σ v3 v4 v5 = some (σ', r) → JJ p l e (rmk 6 154 24 12288) s m args below meth c (MQ below (va_Qi (fun (r0 : Int32) (u : CS) => r0 = r ∧ u = σ') (BC (CH g A)) A) args s 24 12288 A) A 6 (CH g A lay σ) k n 28 [(0, .ref (ga g 0)), (1, .ref (ga g (5 + o1))), (2, .int x2), (3, .int v3), (4, .int v4), (5, .int v5)] [] := by
  intro fu28
  induction fu28 with
  | zero =>
    intro lay σ v3 v4 v5 k n hk hn h
    exact nomatch (show (none : Option _) = some _ from h)
  | succ fu28 ih28 =>
    intro lay σ v3 v4 v5 k n hk hn h
    unfold B_X5_sendPrepare_28 at h
    rw [lo4_s] at h
    refine j_iload 30 C dX5_sendPrepare_28 5 rfl rfl ?_
    refine j_aload_n 31 C dX5_sendPrepare_30 0 rfl rfl ?_
    refine g_F 34 C K 6 (by decide) mw_286 rfl dX5_sendPrepare_31 rfl ?_
    refine j_icmp_ge 37 91 C dX5_sendPrepare_34 (by decide) rfl (fun hc108 => ?_) (fun hc108 => ?_)
    · replace h := it_t hc108 h
      refine j_iload 93 C dX5_sendPrepare_91 4 rfl rfl ?_
      refine j_aload_n 94 C dX5_sendPrepare_93 0 rfl rfl ?_
      obtain ⟨σ109, r110, hF, h⟩ := bd_e h
      refine k_Vi 97 C K (c_X5_quorum K.2.2.2 g A lay  hF) cp_X5_quorum (rv_F) mw_412 dX5_sendPrepare_94 rfl rfl (Nat.le_of_ble_eq_true rfl) ⟨Nat.le_of_ble_eq_true rfl, Nat.le_of_ble_eq_true rfl⟩ ⟨by simp only [rmk]; omega, by simp only [rmk]; omega⟩ rfl (fun lay => ?_)
      refine j_icmp_lt 100 112 C dX5_sendPrepare_97 (by decide) rfl (fun hc111 => ?_) (fun hc111 => ?_)
      · replace h := it_t hc111 h
        refine j_sub [4] (lo' := [(4, .int v4)]) rfl ?_
        refine j_widen (k' := 24) (n' := 12288) (by omega) (by omega) ?_
        exact wn_X5_sendPrepare_112 C K M ho1 lay σ109 v4 h
      · replace h := it_f hc111 h
        refine j_aload_n 101 C dX5_sendPrepare_100 1 rfl rfl ?_
        refine j_iload_n 102 C dX5_sendPrepare_101 3 rfl rfl ?_
        refine j_aload_n 103 C dX5_sendPrepare_102 0 rfl rfl ?_
        refine g_F 106 C K 2 (by decide) mw_282 rfl dX5_sendPrepare_103 rfl ?_
        refine g_D 109 C K (by omega) 2 (by decide) mw_144 rfl dX5_sendPrepare_106 rfl ?_
        obtain ⟨σ112, u113, hF, h⟩ := bd_e h
        refine k_Vv 112 C K (c_X3_openRound K.2.2.2 g A lay ho1 (by omega) hF) cp_X3_openRound (rv_N ho1) mw_744 dX5_sendPrepare_109 rfl rfl (Nat.le_of_ble_eq_true rfl) ⟨Nat.le_of_ble_eq_true rfl, Nat.le_of_ble_eq_true rfl⟩ ⟨by simp only [rmk]; omega, by simp only [rmk]; omega⟩ rfl (fun lay => ?_)
        refine j_sub [4] (lo' := [(4, .int v4)]) rfl ?_
        refine j_widen (k' := 24) (n' := 12288) (by omega) (by omega) ?_
        exact wn_X5_sendPrepare_112 C K M ho1 lay σ112 v4 h
    · replace h := it_f hc108 h
      refine j_aload_n 38 C dX5_sendPrepare_37 0 rfl rfl ?_
      refine j_iload 40 C dX5_sendPrepare_38 5 rfl rfl ?_
      refine j_iload_n 41 C dX5_sendPrepare_40 2 rfl rfl ?_
      obtain ⟨σ114, r115, hF, h⟩ := bd_e h
      refine k_Vi 44 C K (c_X5_gets K.2.2.2 g A lay  hF) cp_X5_gets (rv_F) mw_696 dX5_sendPrepare_41 rfl rfl (Nat.le_of_ble_eq_true rfl) ⟨Nat.le_of_ble_eq_true rfl, Nat.le_of_ble_eq_true rfl⟩ ⟨by simp only [rmk]; omega, by simp only [rmk]; omega⟩ rfl (fun lay => ?_)
      refine j_if_eq 47 85 C dX5_sendPrepare_44 (by decide) rfl (fun hc116 => ?_) (fun hc116 => ?_)
      · replace h := it_t hc116 h
        exact wn_X5_sendPrepare_85 C K M ho1 ih28 lay σ114 v3 v4 v5 k n (by omega) (by omega) h
      · replace h := it_f hc116 h
        refine j_aload_n 48 C dX5_sendPrepare_47 0 rfl rfl ?_
        refine j_aload_n 49 C dX5_sendPrepare_48 0 rfl rfl ?_
        refine g_F 52 C K 0 (by decide) mw_280 rfl dX5_sendPrepare_49 rfl ?_
        refine j_iload 54 C dX5_sendPrepare_52 5 rfl rfl ?_
        obtain ⟨hz117, h⟩ := gd_e h
        have hb118 : tn v5 < 7 := inb_lt hz117
        refine r_nodes 55 C K hz117 dX5_sendPrepare_54 rfl ?_
        refine j_aload_n 56 C dX5_sendPrepare_55 1 rfl rfl ?_
        refine j_iconst 57 C dX5_sendPrepare_56 ic_m1 rfl ?_
        refine j_iload_n 58 C dX5_sendPrepare_57 3 rfl rfl ?_
        refine j_iconst 59 C dX5_sendPrepare_58 ic_m1 rfl ?_
        obtain ⟨σ119, r120, hF, h⟩ := bd_e h
        refine k_Vi 62 C K (c_X5_agrees K.2.2.2 g A lay hb118 ho1 hF) cp_X5_agrees (rv_F) mw_700 dX5_sendPrepare_59 rfl rfl (Nat.le_of_ble_eq_true rfl) ⟨Nat.le_of_ble_eq_true rfl, Nat.le_of_ble_eq_true rfl⟩ ⟨by simp only [rmk]; omega, by simp only [rmk]; omega⟩ rfl (fun lay => ?_)
        refine j_if_eq 65 85 C dX5_sendPrepare_62 (by decide) rfl (fun hc121 => ?_) (fun hc121 => ?_)
        · replace h := it_t hc121 h
          exact wn_X5_sendPrepare_85 C K M ho1 ih28 lay σ119 v3 v4 v5 (k + 3) (n + 1536) (by omega) (by omega) h
        · replace h := it_f hc121 h
          refine j_aload_n 66 C dX5_sendPrepare_65 0 rfl rfl ?_
          refine g_F 69 C K 2 (by decide) mw_282 rfl dX5_sendPrepare_66 rfl ?_
          refine j_aload_n 70 C dX5_sendPrepare_69 0 rfl rfl ?_
          refine g_F 73 C K 0 (by decide) mw_280 rfl dX5_sendPrepare_70 rfl ?_
          refine j_iload 75 C dX5_sendPrepare_73 5 rfl rfl ?_
          obtain ⟨hz122, h⟩ := gd_e h
          have hb123 : tn v5 < 7 := inb_lt hz122
          refine r_nodes 76 C K hz122 dX5_sendPrepare_75 rfl ?_
          refine g_N 79 C K hb123 2 (by decide) mw_222 rfl dX5_sendPrepare_76 rfl ?_
          obtain ⟨σ124, u125, hF, h⟩ := bd_e h
          refine k_Vv 82 C K (c_X1_takeNewer K.2.2.2 g A lay (by omega) (by omega) hF) cp_X1_takeNewer (rv_D (by omega)) mw_740 dX5_sendPrepare_79 rfl rfl (Nat.le_of_ble_eq_true rfl) ⟨Nat.le_of_ble_eq_true rfl, Nat.le_of_ble_eq_true rfl⟩ ⟨by simp only [rmk]; omega, by simp only [rmk]; omega⟩ rfl (fun lay => ?_)
          obtain ⟨x126, ex126⟩ : ∃ z : Int32, z = v4 + 1 := ⟨_, rfl⟩
          replace h := lt_e h x126 ex126
          refine j_iinc 85 C dX5_sendPrepare_82 4 rfl (v := x126) ((ii_1 _).trans ex126.symm) (lo' := [(4, .int x126), (0, .ref (ga g 0)), (1, .ref (ga g (5 + o1))), (2, .int x2), (3, .int v3), (5, .int v5)]) (by decide) rfl rfl ?_
          refine j_sub [1, 2, 3, 4, 0, 5] (lo' := [(0, .ref (ga g 0)), (1, .ref (ga g (5 + o1))), (2, .int x2), (3, .int v3), (4, .int x126), (5, .int v5)]) rfl ?_
          exact wn_X5_sendPrepare_85 C K M ho1 ih28 lay σ124 v3 x126 v5 (k + 3) (n + 1536) (by omega) (by omega) h
set_option maxHeartbeats 4000000 in
set_option maxRecDepth 100000 in
theorem c_X5_sendPrepare {l : Launch} (hst : l.stackTraces = false) (g : GG) (A : Nat → Prop) (lay : Nat → Nat) {σ : CS} {σ' : CS} {r : Int32} {o1 : Nat} {x2 : Int32} (ho1 : o1 < 7) (h : F_X5_sendPrepare σ o1 x2 = some (σ', r)) : MI l yX5_sendPrepare cX5_sendPrepare 6 .int 6 154 24 12288 [.ref (ga g 0), .ref (ga g (5 + o1)), .int x2] (CH g A) g A lay σ σ' r := by
  unfold F_X5_sendPrepare at h
  refine e_i (own := RX5) (lo := [(0, .ref (ga g 0)), (1, .ref (ga g (5 + o1))), (2, .int x2)]) hst (plainFor_of_name (by decide)) rfl rfl (Nat.le_of_ble_eq_true rfl) ?_
  intro p e s m args below meth c C K M
  refine j_aload_n 1 C dX5_sendPrepare_0 1 rfl rfl ?_
  obtain ⟨σ101, r102, hF, h⟩ := bd_e h
  refine k_Vi 4 C K (c_X3_nextBallot K.2.2.2 g A lay ho1 hF) cp_X3_nextBallot (rv_N ho1) mw_532 dX5_sendPrepare_1 rfl rfl (Nat.le_of_ble_eq_true rfl) ⟨Nat.le_of_ble_eq_true rfl, Nat.le_of_ble_eq_true rfl⟩ ⟨by simp only [rmk]; omega, by simp only [rmk]; omega⟩ rfl (fun lay => ?_)
  refine j_istore_n 5 C dX5_sendPrepare_4 (lo' := [(3, .int r102), (0, .ref (ga g 0)), (1, .ref (ga g (5 + o1))), (2, .int x2)]) (by decide) rfl rfl ?_
  refine j_aload_n 6 C dX5_sendPrepare_5 2 rfl rfl ?_
  refine j_iconst 7 C dX5_sendPrepare_6 ic_m1 rfl ?_
  refine p_N 10 C K ho1 9 (by decide) mw_236 rfl rfl dX5_sendPrepare_7 rfl (fun σ103 eσ103 => ?_)
  replace h := lt_e h σ103 eσ103
  refine j_aload_n 11 C dX5_sendPrepare_10 2 rfl rfl ?_
  refine j_iload_n 12 C dX5_sendPrepare_11 0 rfl rfl ?_
  obtain ⟨σ104, u105, hF, h⟩ := bd_e h
  refine k_Vv 15 C K (c_X3_tell K.2.2.2 g A lay ho1 hF) cp_X3_tell (rv_N ho1) mw_691 dX5_sendPrepare_12 rfl rfl (Nat.le_of_ble_eq_true rfl) ⟨Nat.le_of_ble_eq_true rfl, Nat.le_of_ble_eq_true rfl⟩ ⟨by simp only [rmk]; omega, by simp only [rmk]; omega⟩ rfl (fun lay => ?_)
  refine j_aload_n 16 C dX5_sendPrepare_15 1 rfl rfl ?_
  refine g_F 19 C K 2 (by decide) mw_282 rfl dX5_sendPrepare_16 rfl ?_
  obtain ⟨σ106, u107, hF, h⟩ := bd_e h
  refine k_Vv 22 C K (c_X1_reset K.2.2.2 g A lay (by omega) hF) cp_X1_reset (rv_D (by omega)) mw_695 dX5_sendPrepare_19 rfl rfl (Nat.le_of_ble_eq_true rfl) ⟨Nat.le_of_ble_eq_true rfl, Nat.le_of_ble_eq_true rfl⟩ ⟨by simp only [rmk]; omega, by simp only [rmk]; omega⟩ rfl (fun lay => ?_)
  refine j_iconst 23 C dX5_sendPrepare_22 ic_0 rfl ?_
  refine j_istore 25 C dX5_sendPrepare_23 (lo' := [(4, .int (0 : Int32)), (3, .int r102), (0, .ref (ga g 0)), (1, .ref (ga g (5 + o1))), (2, .int x2)]) (by decide) rfl rfl ?_
  refine j_iconst 26 C dX5_sendPrepare_25 ic_0 rfl ?_
  refine j_istore 28 C dX5_sendPrepare_26 (lo' := [(5, .int (0 : Int32)), (4, .int (0 : Int32)), (3, .int r102), (0, .ref (ga g 0)), (1, .ref (ga g (5 + o1))), (2, .int x2)]) (by decide) rfl rfl ?_
  refine j_sub [3, 4, 5, 2, 1, 0] (lo' := [(0, .ref (ga g 0)), (1, .ref (ga g (5 + o1))), (2, .int x2), (3, .int r102), (4, .int (0 : Int32)), (5, .int (0 : Int32))]) rfl ?_
  exact wn_X5_sendPrepare_28 C K M ho1 8 lay σ106 r102 (0 : Int32) (0 : Int32) 0 0 (by omega) (by omega) h
theorem cp_X5_prepare : CPv yX5_prepare cX5_prepare 3 (some .int) RX5 2 := ⟨mw_674, mw_675, mw_98, mw_676, rfl, by decide, by decide, by decide +kernel⟩
set_option maxHeartbeats 4000000 in
set_option maxRecDepth 100000 in
theorem c_X5_prepare {l : Launch} (hst : l.stackTraces = false) (g : GG) (A : Nat → Prop) (lay : Nat → Nat) {σ : CS} {σ' : CS} {r : Int32} {x1 : Int32} {x2 : Int32}  (h : F_X5_prepare σ x1 x2 = some (σ', .inl r)) : MI l yX5_prepare cX5_prepare 3 .int 7 179 24 12288 [.ref (ga g 0), .int x1, .int x2] (CH g A) g A lay σ σ' r := by
  unfold F_X5_prepare at h
  refine e_i (own := RX5) (lo := [(0, .ref (ga g 0)), (1, .int x1), (2, .int x2)]) hst (plainFor_of_name (by decide)) rfl rfl (Nat.le_of_ble_eq_true rfl) ?_
  intro p e s m args below meth c C K M
  refine j_aload_n 1 C dX5_prepare_0 0 rfl rfl ?_
  refine j_iload_n 2 C dX5_prepare_1 1 rfl rfl ?_
  rcases bx_e h with ⟨σ101, u102, hF, h⟩ | ⟨σ101, ex1, hF, h⟩
  · refine k_Vv 5 C K (c_X5_requireNode K.2.2.2 g A lay  hF) cp_X5_requireNode (rv_F) mw_508 dX5_prepare_2 rfl rfl (Nat.le_of_ble_eq_true rfl) ⟨Nat.le_of_ble_eq_true rfl, Nat.le_of_ble_eq_true rfl⟩ ⟨by simp only [rmk]; omega, by simp only [rmk]; omega⟩ rfl (fun lay => ?_)
    refine j_aload_n 6 C dX5_prepare_5 0 rfl rfl ?_
    refine j_iload_n 7 C dX5_prepare_6 2 rfl rfl ?_
    rcases bx_e h with ⟨σ103, u104, hF, h⟩ | ⟨σ103, ex1, hF, h⟩
    · refine k_Vv 10 C K (c_X5_requireReached K.2.2.2 g A lay  hF) cp_X5_requireReached (rv_F) mw_677 dX5_prepare_7 rfl rfl (Nat.le_of_ble_eq_true rfl) ⟨Nat.le_of_ble_eq_true rfl, Nat.le_of_ble_eq_true rfl⟩ ⟨by simp only [rmk]; omega, by simp only [rmk]; omega⟩ rfl (fun lay => ?_)
      refine j_aload_n 11 C dX5_prepare_10 0 rfl rfl ?_
      refine g_F 14 C K 0 (by decide) mw_280 rfl dX5_prepare_11 rfl ?_
      refine j_iload_n 15 C dX5_prepare_14 1 rfl rfl ?_
      obtain ⟨hz105, h⟩ := gd_e h
      have hb106 : tn x1 < 7 := inb_lt hz105
      refine r_nodes 16 C K hz105 dX5_prepare_15 rfl ?_
      obtain ⟨σ107, r108, hF, h⟩ := bd_e h
      refine k_Vi 19 C K (c_X3_takesPart K.2.2.2 g A lay hb106 hF) cp_X3_takesPart (rv_N hb106) mw_682 dX5_prepare_16 rfl rfl (Nat.le_of_ble_eq_true rfl) ⟨Nat.le_of_ble_eq_true rfl, Nat.le_of_ble_eq_true rfl⟩ ⟨by simp only [rmk]; omega, by simp only [rmk]; omega⟩ rfl (fun lay => ?_)
      refine j_if_ne 22 32 C dX5_prepare_19 (by decide) rfl (fun hc109 => ?_) (fun hc109 => ?_)
      · replace h := it_f hc109 h
        refine j_aload_n 33 C dX5_prepare_32 0 rfl rfl ?_
        refine j_aload_n 34 C dX5_prepare_33 0 rfl rfl ?_
        refine g_F 37 C K 0 (by decide) mw_280 rfl dX5_prepare_34 rfl ?_
        refine j_iload_n 38 C dX5_prepare_37 1 rfl rfl ?_
        obtain ⟨hz110, h⟩ := gd_e h
        have hb111 : tn x1 < 7 := inb_lt hz110
        refine r_nodes 39 C K hz110 dX5_prepare_38 rfl ?_
        refine j_iload_n 40 C dX5_prepare_39 2 rfl rfl ?_
        obtain ⟨σ112, r113, hF, h⟩ := bd_e h
        refine k_Vi 43 C K (c_X5_sendPrepare K.2.2.2 g A lay hb111 hF) cp_X5_sendPrepare (rv_F) mw_687 dX5_prepare_40 rfl rfl (Nat.le_of_ble_eq_true rfl) ⟨Nat.le_of_ble_eq_true rfl, Nat.le_of_ble_eq_true rfl⟩ ⟨by simp only [rmk]; omega, by simp only [rmk]; omega⟩ rfl (fun lay => ?_)
        cases h
        exact x_i C M dX5_prepare_43
      · replace h := it_t hc109 h
        cases h
    · cases h
  · cases h
set_option maxHeartbeats 4000000 in
set_option maxRecDepth 100000 in
theorem x_X5_prepare {l : Launch} (hst : l.stackTraces = false) (g : GG) (A : Nat → Prop) (lay : Nat → Nat) {σ : CS} {σ' : CS} {ex : Nat} {x1 : Int32} {x2 : Int32}  (h : F_X5_prepare σ x1 x2 = some (σ', .inr ex)) : XI l yX5_prepare cX5_prepare 3 .int 7 179 [.ref (ga g 0), .int x1, .int x2] (CH g A) g A lay σ σ' ex := by
  unfold F_X5_prepare at h
  refine ex_i (own := RX5) (lo := [(0, .ref (ga g 0)), (1, .int x1), (2, .int x2)]) hst (by decide) rfl rfl (Nat.le_of_ble_eq_true rfl) ?_
  intro p e s m args below meth c C K M hx
  refine j_aload_n 1 C dX5_prepare_0 0 rfl rfl ?_
  refine j_iload_n 2 C dX5_prepare_1 1 rfl rfl ?_
  rcases bx_e h with ⟨σ101, u102, hF, h⟩ | ⟨σ101, ex1, hF, h⟩
  · refine k_Vv 5 C K (c_X5_requireNode K.2.2.2 g A lay  hF) cp_X5_requireNode (rv_F) mw_508 dX5_prepare_2 rfl rfl (Nat.le_of_ble_eq_true rfl) ⟨Nat.le_of_ble_eq_true rfl, Nat.le_of_ble_eq_true rfl⟩ ⟨Nat.le_of_ble_eq_true rfl, Nat.le_of_ble_eq_true rfl⟩ rfl (fun lay => ?_)
    refine j_aload_n 6 C dX5_prepare_5 0 rfl rfl ?_
    refine j_iload_n 7 C dX5_prepare_6 2 rfl rfl ?_
    rcases bx_e h with ⟨σ103, u104, hF, h⟩ | ⟨σ103, ex1, hF, h⟩
    · refine k_Vv 10 C K (c_X5_requireReached K.2.2.2 g A lay  hF) cp_X5_requireReached (rv_F) mw_677 dX5_prepare_7 rfl rfl (Nat.le_of_ble_eq_true rfl) ⟨Nat.le_of_ble_eq_true rfl, Nat.le_of_ble_eq_true rfl⟩ ⟨Nat.le_of_ble_eq_true rfl, Nat.le_of_ble_eq_true rfl⟩ rfl (fun lay => ?_)
      refine j_aload_n 11 C dX5_prepare_10 0 rfl rfl ?_
      refine g_F 14 C K 0 (by decide) mw_280 rfl dX5_prepare_11 rfl ?_
      refine j_iload_n 15 C dX5_prepare_14 1 rfl rfl ?_
      obtain ⟨hz105, h⟩ := gd_e h
      have hb106 : tn x1 < 7 := inb_lt hz105
      refine r_nodes 16 C K hz105 dX5_prepare_15 rfl ?_
      obtain ⟨σ107, r108, hF, h⟩ := bd_e h
      refine k_Vi 19 C K (c_X3_takesPart K.2.2.2 g A lay hb106 hF) cp_X3_takesPart (rv_N hb106) mw_682 dX5_prepare_16 rfl rfl (Nat.le_of_ble_eq_true rfl) ⟨Nat.le_of_ble_eq_true rfl, Nat.le_of_ble_eq_true rfl⟩ ⟨Nat.le_of_ble_eq_true rfl, Nat.le_of_ble_eq_true rfl⟩ rfl (fun lay => ?_)
      refine j_if_ne 22 32 C dX5_prepare_19 (by decide) rfl (fun hc109 => ?_) (fun hc109 => ?_)
      · replace h := it_f hc109 h
        refine j_aload_n 33 C dX5_prepare_32 0 rfl rfl ?_
        refine j_aload_n 34 C dX5_prepare_33 0 rfl rfl ?_
        refine g_F 37 C K 0 (by decide) mw_280 rfl dX5_prepare_34 rfl ?_
        refine j_iload_n 38 C dX5_prepare_37 1 rfl rfl ?_
        obtain ⟨hz110, h⟩ := gd_e h
        have hb111 : tn x1 < 7 := inb_lt hz110
        refine r_nodes 39 C K hz110 dX5_prepare_38 rfl ?_
        refine j_iload_n 40 C dX5_prepare_39 2 rfl rfl ?_
        obtain ⟨σ112, r113, hF, h⟩ := bd_e h
        cases h
      · replace h := it_t hc109 h
        cases h
        exact jx_3 C K M hx CH_kept mw_609 xs_82 xat_X5_84 dX5_prepare_22 dX5_prepare_25 dX5_prepare_26 dX5_prepare_28 dX5_prepare_31 (Nat.le_of_ble_eq_true rfl) (Nat.le_of_ble_eq_true rfl) ⟨Nat.le_of_ble_eq_true rfl, Nat.le_of_ble_eq_true rfl⟩
    · cases h
      exact kx_Vv C K M hx (x_X5_requireReached K.2.2.2 g A lay  hF) cp_X5_requireReached (rv_F) mw_677 dX5_prepare_7 rfl rfl (Nat.le_of_ble_eq_true rfl) ⟨Nat.le_of_ble_eq_true rfl, Nat.le_of_ble_eq_true rfl⟩ ⟨Nat.le_of_ble_eq_true rfl, Nat.le_of_ble_eq_true rfl⟩
  · cases h
    exact kx_Vv C K M hx (x_X5_requireNode K.2.2.2 g A lay  hF) cp_X5_requireNode (rv_F) mw_508 dX5_prepare_2 rfl rfl (Nat.le_of_ble_eq_true rfl) ⟨Nat.le_of_ble_eq_true rfl, Nat.le_of_ble_eq_true rfl⟩ ⟨Nat.le_of_ble_eq_true rfl, Nat.le_of_ble_eq_true rfl⟩
theorem cp_X5_isSlot : CPv yX5_isSlot cX5_isSlot 2 (some .boolean) RX5 1 := ⟨mw_587, mw_24, mw_98, mw_588, rfl, by decide, by decide, by decide +kernel⟩
set_option maxHeartbeats 4000000 in
set_option maxRecDepth 100000 in
theorem wn_X5_isSlot_16 {l : Launch} {p : Program} {e : Env} {s : State} {m : MethodId} {args : Array Value} {below : List Frame} {meth : Method} {c : Code} {g : GG} {A : Nat → Prop} (C : KX p m c cX5_isSlot 2 s args RX5) (K : KC l g A s) (M : KM meth (some .boolean)) {σ' : CS} {r : Int32} {x1 : Int32}     (lay : Nat → Nat) (σ : CS)   (h : B_X5_isSlot_16 x1 σ  = some (σ', r)) : JJ p l e (rmk 0 0 0 0) s m args below meth c (MQ below (va_Qi (fun (r0 : Int32) (u : CS) => r0 = r ∧ u = σ') (BC (CH g A)) A) args s 0 0 A) A 2 (CH g A lay σ) 0 0 16 [] [] := by
  unfold B_X5_isSlot_16 at h
  refine j_iconst 17 C dX5_isSlot_16 ic_0 rfl ?_
  cases h
  exact x_z C M dX5_isSlot_17 (by decide)
set_option maxHeartbeats 4000000 in
set_option maxRecDepth 100000 in
theorem c_X5_isSlot {l : Launch} (hst : l.stackTraces = false) (g : GG) (A : Nat → Prop) (lay : Nat → Nat) {σ : CS} {σ' : CS} {r : Int32} {x1 : Int32}  (h : F_X5_isSlot σ x1 = some (σ', r)) : MI l yX5_isSlot cX5_isSlot 2 .boolean 0 0 0 0 [.ref (ga g 0), .int x1] (CH g A) g A lay σ σ' r := by
  unfold F_X5_isSlot at h
  refine e_i (own := RX5) (lo := [(0, .ref (ga g 0)), (1, .int x1)]) hst (plainFor_of_name (by decide)) rfl rfl (Nat.le_of_ble_eq_true rfl) ?_
  intro p e s m args below meth c C K M
  refine j_iload_n 1 C dX5_isSlot_0 1 rfl rfl ?_
  refine j_if_lt 4 16 C dX5_isSlot_1 (by decide) rfl (fun hc101 => ?_) (fun hc101 => ?_)
  · replace h := it_t hc101 h
    refine j_sub [] (lo' := []) rfl ?_
    exact wn_X5_isSlot_16 C K M  lay σ  h
  · replace h := it_f hc101 h
    refine j_iload_n 5 C dX5_isSlot_4 1 rfl rfl ?_
    refine j_aload_n 6 C dX5_isSlot_5 0 rfl rfl ?_
    refine g_F 9 C K 7 (by decide) mw_287 rfl dX5_isSlot_6 rfl ?_
    refine j_icmp_ge 12 16 C dX5_isSlot_9 (by decide) rfl (fun hc102 => ?_) (fun hc102 => ?_)
    · replace h := it_t hc102 h
      refine j_sub [] (lo' := []) rfl ?_
      exact wn_X5_isSlot_16 C K M  lay σ  h
    · replace h := it_f hc102 h
      refine j_iconst 13 C dX5_isSlot_12 ic_1 rfl ?_
      refine j_goto 17 C dX5_isSlot_13 (by decide) ?_
      cases h
      exact x_z C M dX5_isSlot_17 (by decide)
theorem cp_X5_requireSlot : CPv yX5_requireSlot cX5_requireSlot 2 none RX5 1 := ⟨mw_583, mw_23, mw_98, mw_584, rfl, by decide, by decide, by decide +kernel⟩
set_option maxHeartbeats 4000000 in
set_option maxRecDepth 100000 in
theorem c_X5_requireSlot {l : Launch} (hst : l.stackTraces = false) (g : GG) (A : Nat → Prop) (lay : Nat → Nat) {σ : CS} {σ' : CS} {r : Unit} {x1 : Int32}  (h : F_X5_requireSlot σ x1 = some (σ', .inl r)) : MV l yX5_requireSlot cX5_requireSlot 2 6 90 0 0 [.ref (ga g 0), .int x1] (CH g A) g A lay σ σ' := by
  unfold F_X5_requireSlot at h
  refine e_v (own := RX5) (lo := [(0, .ref (ga g 0)), (1, .int x1)]) hst (plainFor_of_name (by decide)) rfl rfl (Nat.le_of_ble_eq_true rfl) ?_
  intro p e s m args below meth c C K M
  refine j_aload_n 1 C dX5_requireSlot_0 0 rfl rfl ?_
  refine j_iload_n 2 C dX5_requireSlot_1 1 rfl rfl ?_
  obtain ⟨σ101, r102, hF, h⟩ := bd_e h
  refine k_Vi 5 C K (c_X5_isSlot K.2.2.2 g A lay  hF) cp_X5_isSlot (rv_F) mw_585 dX5_requireSlot_2 rfl rfl (Nat.le_of_ble_eq_true rfl) ⟨Nat.le_of_ble_eq_true rfl, Nat.le_of_ble_eq_true rfl⟩ ⟨Nat.le_of_ble_eq_true rfl, Nat.le_of_ble_eq_true rfl⟩ rfl (fun lay => ?_)
  refine j_if_ne 8 19 C dX5_requireSlot_5 (by decide) rfl (fun hc103 => ?_) (fun hc103 => ?_)
  · replace h := it_f hc103 h
    cases h
    exact x_v C M dX5_requireSlot_19
  · replace h := it_t hc103 h
    cases h
set_option maxHeartbeats 4000000 in
set_option maxRecDepth 100000 in
theorem x_X5_requireSlot {l : Launch} (hst : l.stackTraces = false) (g : GG) (A : Nat → Prop) (lay : Nat → Nat) {σ : CS} {σ' : CS} {ex : Nat} {x1 : Int32}  (h : F_X5_requireSlot σ x1 = some (σ', .inr ex)) : XV l yX5_requireSlot cX5_requireSlot 2 6 90 [.ref (ga g 0), .int x1] (CH g A) g A lay σ σ' ex := by
  unfold F_X5_requireSlot at h
  refine ex_v (own := RX5) (lo := [(0, .ref (ga g 0)), (1, .int x1)]) hst (by decide) rfl rfl (Nat.le_of_ble_eq_true rfl) ?_
  intro p e s m args below meth c C K M hx
  refine j_aload_n 1 C dX5_requireSlot_0 0 rfl rfl ?_
  refine j_iload_n 2 C dX5_requireSlot_1 1 rfl rfl ?_
  obtain ⟨σ101, r102, hF, h⟩ := bd_e h
  refine k_Vi 5 C K (c_X5_isSlot K.2.2.2 g A lay  hF) cp_X5_isSlot (rv_F) mw_585 dX5_requireSlot_2 rfl rfl (Nat.le_of_ble_eq_true rfl) ⟨Nat.le_of_ble_eq_true rfl, Nat.le_of_ble_eq_true rfl⟩ ⟨Nat.le_of_ble_eq_true rfl, Nat.le_of_ble_eq_true rfl⟩ rfl (fun lay => ?_)
  refine j_if_ne 8 19 C dX5_requireSlot_5 (by decide) rfl (fun hc103 => ?_) (fun hc103 => ?_)
  · replace h := it_f hc103 h
    cases h
  · replace h := it_t hc103 h
    cases h
    exact jx_w1 C K M hx CH_kept mw_516 xs_329 xat_X5_235 dX5_requireSlot_8 dX5_requireSlot_11 dX5_requireSlot_12 dX5_requireSlot_15 dX5_requireSlot_18 (Nat.le_of_ble_eq_true rfl) (Nat.le_of_ble_eq_true rfl) ⟨Nat.le_of_ble_eq_true rfl, Nat.le_of_ble_eq_true rfl⟩
theorem cp_X5_requireRound : CPv yX5_requireRound cX5_requireRound 2 none RX5 1 := ⟨mw_607, mw_25, mw_98, mw_608, rfl, by decide, by decide, by decide +kernel⟩
set_option maxHeartbeats 4000000 in
set_option maxRecDepth 100000 in
theorem c_X5_requireRound {l : Launch} (hst : l.stackTraces = false) (g : GG) (A : Nat → Prop) (lay : Nat → Nat) {σ : CS} {σ' : CS} {r : Unit} {x1 : Int32}  (h : F_X5_requireRound σ x1 = some (σ', .inl r)) : MV l yX5_requireRound cX5_requireRound 2 6 90 0 0 [.ref (ga g 0), .int x1] (CH g A) g A lay σ σ' := by
  unfold F_X5_requireRound at h
  refine e_v (own := RX5) (lo := [(0, .ref (ga g 0)), (1, .int x1)]) hst (plainFor_of_name (by decide)) rfl rfl (Nat.le_of_ble_eq_true rfl) ?_
  intro p e s m args below meth c C K M
  refine j_aload_n 1 C dX5_requireRound_0 0 rfl rfl ?_
  refine g_F 4 C K 0 (by decide) mw_280 rfl dX5_requireRound_1 rfl ?_
  refine j_iload_n 5 C dX5_requireRound_4 1 rfl rfl ?_
  obtain ⟨hz101, h⟩ := gd_e h
  have hb102 : tn x1 < 7 := inb_lt hz101
  refine r_nodes 6 C K hz101 dX5_requireRound_5 rfl ?_
  obtain ⟨σ103, r104, hF, h⟩ := bd_e h
  refine k_Vi 9 C K (c_X3_hasRound K.2.2.2 g A lay hb102 hF) cp_X3_hasRound (rv_N hb102) mw_597 dX5_requireRound_6 rfl rfl (Nat.le_of_ble_eq_true rfl) ⟨Nat.le_of_ble_eq_true rfl, Nat.le_of_ble_eq_true rfl⟩ ⟨Nat.le_of_ble_eq_true rfl, Nat.le_of_ble_eq_true rfl⟩ rfl (fun lay => ?_)
  refine j_if_ne 12 23 C dX5_requireRound_9 (by decide) rfl (fun hc105 => ?_) (fun hc105 => ?_)
  · replace h := it_f hc105 h
    cases h
    exact x_v C M dX5_requireRound_23
  · replace h := it_t hc105 h
    cases h
set_option maxHeartbeats 4000000 in
set_option maxRecDepth 100000 in
theorem x_X5_requireRound {l : Launch} (hst : l.stackTraces = false) (g : GG) (A : Nat → Prop) (lay : Nat → Nat) {σ : CS} {σ' : CS} {ex : Nat} {x1 : Int32}  (h : F_X5_requireRound σ x1 = some (σ', .inr ex)) : XV l yX5_requireRound cX5_requireRound 2 6 90 [.ref (ga g 0), .int x1] (CH g A) g A lay σ σ' ex := by
  unfold F_X5_requireRound at h
  refine ex_v (own := RX5) (lo := [(0, .ref (ga g 0)), (1, .int x1)]) hst (by decide) rfl rfl (Nat.le_of_ble_eq_true rfl) ?_
  intro p e s m args below meth c C K M hx
  refine j_aload_n 1 C dX5_requireRound_0 0 rfl rfl ?_
  refine g_F 4 C K 0 (by decide) mw_280 rfl dX5_requireRound_1 rfl ?_
  refine j_iload_n 5 C dX5_requireRound_4 1 rfl rfl ?_
  obtain ⟨hz101, h⟩ := gd_e h
  have hb102 : tn x1 < 7 := inb_lt hz101
  refine r_nodes 6 C K hz101 dX5_requireRound_5 rfl ?_
  obtain ⟨σ103, r104, hF, h⟩ := bd_e h
  refine k_Vi 9 C K (c_X3_hasRound K.2.2.2 g A lay hb102 hF) cp_X3_hasRound (rv_N hb102) mw_597 dX5_requireRound_6 rfl rfl (Nat.le_of_ble_eq_true rfl) ⟨Nat.le_of_ble_eq_true rfl, Nat.le_of_ble_eq_true rfl⟩ ⟨Nat.le_of_ble_eq_true rfl, Nat.le_of_ble_eq_true rfl⟩ rfl (fun lay => ?_)
  refine j_if_ne 12 23 C dX5_requireRound_9 (by decide) rfl (fun hc105 => ?_) (fun hc105 => ?_)
  · replace h := it_f hc105 h
    cases h
  · replace h := it_t hc105 h
    cases h
    exact jx_w3 C K M hx CH_kept mw_609 xs_342 xat_X5_84 dX5_requireRound_12 dX5_requireRound_15 dX5_requireRound_16 dX5_requireRound_19 dX5_requireRound_22 (Nat.le_of_ble_eq_true rfl) (Nat.le_of_ble_eq_true rfl) ⟨Nat.le_of_ble_eq_true rfl, Nat.le_of_ble_eq_true rfl⟩
theorem cp_X5_sendAccept : CPv yX5_sendAccept cX5_sendAccept 10 (some .int) RX5 4 := ⟨mw_759, mw_33, mw_98, mw_760, rfl, by decide, by decide, by decide +kernel⟩
set_option maxHeartbeats 4000000 in
set_option maxRecDepth 100000 in
theorem wn_X5_sendAccept_128 {l : Launch} {p : Program} {e : Env} {s : State} {m : MethodId} {args : Array Value} {below : List Frame} {meth : Method} {c : Code} {g : GG} {A : Nat → Prop} (C : KX p m c cX5_sendAccept 10 s args RX5) (K : KC l g A s) (M : KM meth (some .int)) {σ' : CS} {r : Int32} {o1 : Nat} {x2 : Int32} {x3 : Int32} {x4 : Int32} (ho1 : o1 < 7)    (lay : Nat → Nat) (σ : CS) (v8 : Int32)  (h : B_X5_sendAccept_128 o1 x2 x3 x4 σ v8 = some (σ', r)) : JJ p l e (rmk 6 154 24 12288) s m args below meth c (MQ below (va_Qi (fun (r0 : Int32) (u : CS) => r0 = r ∧ u = σ') (BC (CH g A)) A) args s 24 12288 A) A 10 (CH g A lay σ) 24 12288 128 [(8, .int v8)] [] := by
  unfold B_X5_sendAccept_128 at h
  refine j_iload 130 C dX5_sendAccept_128 0 rfl rfl ?_
  cases h
  exact x_i C M dX5_sendAccept_130
set_option maxHeartbeats 4000000 in
set_option maxRecDepth 100000 in
theorem wn_X5_sendAccept_116 {l : Launch} {p : Program} {e : Env} {s : State} {m : MethodId} {args : Array Value} {below : List Frame} {meth : Method} {c : Code} {g : GG} {A : Nat → Prop} (C : KX p m c cX5_sendAccept 10 s args RX5) (K : KC l g A s) (M : KM meth (some .int)) {σ' : CS} {r : Int32} {o1 : Nat} {x2 : Int32} {x3 : Int32} {x4 : Int32} (ho1 : o1 < 7)    (lay : Nat → Nat) (σ : CS) (v7 : Int32) (v8 : Int32)  (h : B_X5_sendAccept_116 o1 x2 x3 x4 σ v7 v8 = some (σ', r)) : JJ p l e (rmk 6 154 24 12288) s m args below meth c (MQ below (va_Qi (fun (r0 : Int32) (u : CS) => r0 = r ∧ u = σ') (BC (CH g A)) A) args s 24 12288 A) A 10 (CH g A lay σ) 24 12288 116 [(1, .ref (ga g (5 + o1))), (7, .int v7), (8, .int v8)] [] := by
  unfold B_X5_sendAccept_116 at h
  refine j_iload 118 C dX5_sendAccept_116 2 rfl rfl ?_
  refine j_iload 120 C dX5_sendAccept_118 1 rfl rfl ?_
  refine j_icmp_ge 123 128 C dX5_sendAccept_120 (by decide) rfl (fun hc127 => ?_) (fun hc127 => ?_)
  · replace h := it_t hc127 h
    refine j_sub [2] (lo' := [(8, .int v8)]) rfl ?_
    exact wn_X5_sendAccept_128 C K M ho1 lay σ v8 h
  · replace h := it_f hc127 h
    refine j_aload_n 124 C dX5_sendAccept_123 0 rfl rfl ?_
    refine j_iconst 125 C dX5_sendAccept_124 ic_m1 rfl ?_
    refine p_N 128 C K ho1 9 (by decide) mw_236 rfl rfl dX5_sendAccept_125 rfl (fun σ128 eσ128 => ?_)
    replace h := lt_e h σ128 eσ128
    refine j_sub [2] (lo' := [(8, .int v8)]) rfl ?_
    exact wn_X5_sendAccept_128 C K M ho1 lay σ128 v8 h
set_option maxHeartbeats 4000000 in
set_option maxRecDepth 100000 in
theorem wn_X5_sendAccept_88 {l : Launch} {p : Program} {e : Env} {s : State} {m : MethodId} {args : Array Value} {below : List Frame} {meth : Method} {c : Code} {g : GG} {A : Nat → Prop} (C : KX p m c cX5_sendAccept 10 s args RX5) (K : KC l g A s) (M : KM meth (some .int)) {σ' : CS} {r : Int32} {o1 : Nat} {x2 : Int32} {x3 : Int32} {x4 : Int32} (ho1 : o1 < 7) {fu40 : Nat} {self40 : CS → Int32 → Int32 → Int32 → Int32 → Int32 → Option (CS × Int32)} (ih40 : ∀ (lay : Nat → Nat) (σ : CS) (v5 : Int32) (v6 : Int32) (v7 : Int32) (v8 : Int32) (v9 : Int32), ∀ (k n : Nat), k + 3 * fu40 ≤ 24 → n + 1536 * fu40 ≤ 12288 → self40 σ v5 v6 v7 v8 v9 = some (σ', r) → JJ p l e (rmk 6 154 24 12288) s m args below meth c (MQ below (va_Qi (fun (r0 : Int32) (u : CS) => r0 = r ∧ u = σ') (BC (CH g A)) A) args s 24 12288 A) A 10 (CH g A lay σ) k n 40 [(0, .ref (ga g 0)), (1, .ref (ga g (5 + o1))), (2, .int x2), (4, .int x4), (5, .int v5), (6, .int v6), (7, .int v7), (8, .int v8), (9, .int v9)] []) (lay : Nat → Nat) (σ : CS) (v5 : Int32) (v6 : Int32) (v7 : Int32) (v8 : Int32) (v9 : Int32)  (k n : Nat) (hk : k + 3 * fu40 ≤ 24) (hn : n + 1536 * fu40 ≤ 12288) (h : B_X5_sendAccept_88 o1 x2 x3 x4 self40 σ v5 v6 v7 v8 v9 = some (σ', r)) : JJ p l e (rmk 6 154 24 12288) s m args below meth c (MQ below (va_Qi (fun (r0 : Int32) (u : CS) => r0 = r ∧ u = σ') (BC (CH g A)) A) args s 24 12288 A) A 10 (CH g A lay σ) k n 88 [(0, .ref (ga g 0)), (1, .ref (ga g (5 + o1))), (2, .int x2), (4, .int x4), (5, .int v5), (6, .int v6), (7, .int v7), (8, .int v8), (9, .int v9)] [] := by
  unfold B_X5_sendAccept_88 at h
  obtain ⟨x129, ex129⟩ : ∃ z : Int32, z = v9 + 1 := ⟨_, rfl⟩
  replace h := lt_e h x129 ex129
  refine j_iinc 91 C dX5_sendAccept_88 8 rfl (v := x129) ((ii_1 _).trans ex129.symm) (lo' := [(9, .int x129), (0, .ref (ga g 0)), (1, .ref (ga g (5 + o1))), (2, .int x2), (4, .int x4), (5, .int v5), (6, .int v6), (7, .int v7), (8, .int v8)]) (by decide) rfl rfl ?_
  refine j_goto 40 C dX5_sendAccept_91 (by decide) ?_
  refine j_sub [1, 2, 3, 4, 5, 6, 7, 8, 0] (lo' := [(0, .ref (ga g 0)), (1, .ref (ga g (5 + o1))), (2, .int x2), (4, .int x4), (5, .int v5), (6, .int v6), (7, .int v7), (8, .int v8), (9, .int x129)]) rfl ?_
  exact ih40 lay σ v5 v6 v7 v8 x129 k n (by omega) (by omega) h
set_option maxHeartbeats 4000000 in
set_option maxRecDepth 100000 in
theorem wn_X5_sendAccept_40 {l : Launch} {p : Program} {e : Env} {s : State} {m : MethodId} {args : Array Value} {below : List Frame} {meth : Method} {c : Code} {g : GG} {A : Nat → Prop} (C : KX p m c cX5_sendAccept 10 s args RX5) (K : KC l g A s) (M : KM meth (some .int)) {σ' : CS} {r : Int32} {o1 : Nat} {x2 : Int32} {x3 : Int32} {x4 : Int32} (ho1 : o1 < 7)    : ∀ (fu40 : Nat) (lay : Nat → Nat) (σ : CS) (v5 : Int32) (v6 : Int32) (v7 : Int32) (v8 : Int32) (v9 : Int32), ∀ (k n : Nat), k + 3 * fu40 ≤ 24 → n + 1536 * fu40 ≤ 12288 → B_X5_sendAccept_40 o1 x2 x3 x4 fu40 σ v5 v6 v7 v8 v9 = some (σ', r) → JJ p l e (rmk 6 154 24 12288) s m args below meth c (MQ below (va_Qi (fun (r0 : Int32) (u : CS) => r0 = r ∧ u = σ') (BC (CH g A)) A) args s 24 12288 A) A 10 (CH g A lay σ) k n 40 [(0, .ref (ga g 0)), (1, .ref (ga g (5 + o1))), (2, .int x2), (4, .int x4), (5, .int v5), (6, .int v6), (7, .int v7), (8, .int v8), (9, .int v9)] [] := by
  intro fu40
  induction fu40 with
  | zero =>
    intro lay σ v5 v6 v7 v8 v9 k n hk hn h
    exact nomatch (show (none : Option _) = some _ from h)
  | succ fu40 ih40 =>
    intro lay σ v5 v6 v7 v8 v9 k n hk hn h
    unfold B_X5_sendAccept_40 at h
    rw [lo6_s] at h
    refine j_iload 42 C dX5_sendAccept_40 8 rfl rfl ?_
    refine j_aload_n 43 C dX5_sendAccept_42 0 rfl rfl ?_
    refine g_F 46 C K 6 (by decide) mw_286 rfl dX5_sendAccept_43 rfl ?_
    refine j_icmp_ge 49 94 C dX5_sendAccept_46 (by decide) rfl (fun hc108 => ?_) (fun hc108 => ?_)
    · replace h := it_t hc108 h
      refine j_iload 96 C dX5_sendAccept_94 7 rfl rfl ?_
      refine j_aload_n 97 C dX5_sendAccept_96 0 rfl rfl ?_
      obtain ⟨σ109, r110, hF, h⟩ := bd_e h
      refine k_Vi 100 C K (c_X5_quorum K.2.2.2 g A lay  hF) cp_X5_quorum (rv_F) mw_412 dX5_sendAccept_97 rfl rfl (Nat.le_of_ble_eq_true rfl) ⟨Nat.le_of_ble_eq_true rfl, Nat.le_of_ble_eq_true rfl⟩ ⟨by simp only [rmk]; omega, by simp only [rmk]; omega⟩ rfl (fun lay => ?_)
      refine j_icmp_lt 103 116 C dX5_sendAccept_100 (by decide) rfl (fun hc111 => ?_) (fun hc111 => ?_)
      · replace h := it_t hc111 h
        refine j_sub [1, 6, 7] (lo' := [(1, .ref (ga g (5 + o1))), (7, .int v7), (8, .int v8)]) rfl ?_
        refine j_widen (k' := 24) (n' := 12288) (by omega) (by omega) ?_
        exact wn_X5_sendAccept_116 C K M ho1 lay σ109 v7 v8 h
      · replace h := it_f hc111 h
        refine j_aload_n 104 C dX5_sendAccept_103 0 rfl rfl ?_
        refine g_F 107 C K 1 (by decide) mw_281 rfl dX5_sendAccept_104 rfl ?_
        refine j_iload_n 108 C dX5_sendAccept_107 2 rfl rfl ?_
        obtain ⟨hz112, h⟩ := gd_e h
        have hb113 : tn x2 < 4 := inb_lt hz112
        refine r_decs 109 C K hz112 dX5_sendAccept_108 rfl ?_
        refine j_iload 111 C dX5_sendAccept_109 4 rfl rfl ?_
        refine j_iload 113 C dX5_sendAccept_111 5 rfl rfl ?_
        obtain ⟨σ114, u115, hF, h⟩ := bd_e h
        refine k_Vv 116 C K (c_X0_decide K.2.2.2 g A lay hb113 hF) cp_X0_decide (rv_C hb113) mw_761 dX5_sendAccept_113 rfl rfl (Nat.le_of_ble_eq_true rfl) ⟨Nat.le_of_ble_eq_true rfl, Nat.le_of_ble_eq_true rfl⟩ ⟨by simp only [rmk]; omega, by simp only [rmk]; omega⟩ rfl (fun lay => ?_)
        refine j_sub [1, 6, 7] (lo' := [(1, .ref (ga g (5 + o1))), (7, .int v7), (8, .int v8)]) rfl ?_
        refine j_widen (k' := 24) (n' := 12288) (by omega) (by omega) ?_
        exact wn_X5_sendAccept_116 C K M ho1 lay σ114 v7 v8 h
    · replace h := it_f hc108 h
      refine j_aload_n 50 C dX5_sendAccept_49 0 rfl rfl ?_
      refine j_iload 52 C dX5_sendAccept_50 8 rfl rfl ?_
      refine j_iload 54 C dX5_sendAccept_52 3 rfl rfl ?_
      obtain ⟨σ116, r117, hF, h⟩ := bd_e h
      refine k_Vi 57 C K (c_X5_gets K.2.2.2 g A lay  hF) cp_X5_gets (rv_F) mw_696 dX5_sendAccept_54 rfl rfl (Nat.le_of_ble_eq_true rfl) ⟨Nat.le_of_ble_eq_true rfl, Nat.le_of_ble_eq_true rfl⟩ ⟨by simp only [rmk]; omega, by simp only [rmk]; omega⟩ rfl (fun lay => ?_)
      refine j_if_eq 60 88 C dX5_sendAccept_57 (by decide) rfl (fun hc118 => ?_) (fun hc118 => ?_)
      · replace h := it_t hc118 h
        exact wn_X5_sendAccept_88 C K M ho1 ih40 lay σ116 v5 v6 v7 v8 v9 k n (by omega) (by omega) h
      · replace h := it_f hc118 h
        obtain ⟨x119, ex119⟩ : ∃ z : Int32, z = v7 + 1 := ⟨_, rfl⟩
        replace h := lt_e h x119 ex119
        refine j_iinc 63 C dX5_sendAccept_60 6 rfl (v := x119) ((ii_1 _).trans ex119.symm) (lo' := [(7, .int x119), (0, .ref (ga g 0)), (1, .ref (ga g (5 + o1))), (2, .int x2), (4, .int x4), (5, .int v5), (6, .int v6), (8, .int v8), (9, .int v9)]) (by decide) rfl rfl ?_
        refine j_iload 65 C dX5_sendAccept_63 7 rfl rfl ?_
        refine j_aload_n 66 C dX5_sendAccept_65 1 rfl rfl ?_
        refine j_aload_n 67 C dX5_sendAccept_66 1 rfl rfl ?_
        refine g_F 70 C K 0 (by decide) mw_280 rfl dX5_sendAccept_67 rfl ?_
        refine j_iload 72 C dX5_sendAccept_70 8 rfl rfl ?_
        obtain ⟨hz120, h⟩ := gd_e h
        have hb121 : tn v9 < 7 := inb_lt hz120
        refine r_nodes 73 C K hz120 dX5_sendAccept_72 rfl ?_
        refine j_aload_n 74 C dX5_sendAccept_73 2 rfl rfl ?_
        refine j_iload_n 75 C dX5_sendAccept_74 3 rfl rfl ?_
        refine j_iload 77 C dX5_sendAccept_75 5 rfl rfl ?_
        refine j_iload 79 C dX5_sendAccept_77 6 rfl rfl ?_
        obtain ⟨σ122, r123, hF, h⟩ := bd_e h
        refine k_Vi 82 C K (c_X5_agrees K.2.2.2 g A lay hb121 ho1 hF) cp_X5_agrees (rv_F) mw_700 dX5_sendAccept_79 rfl rfl (Nat.le_of_ble_eq_true rfl) ⟨Nat.le_of_ble_eq_true rfl, Nat.le_of_ble_eq_true rfl⟩ ⟨by simp only [rmk]; omega, by simp only [rmk]; omega⟩ rfl (fun lay => ?_)
        obtain ⟨σ124, r125, hF, h⟩ := bd_e h
        refine k_Si 85 C K (c_X5_asNumber K.2.2.2 g A lay  hF) cp_X5_asNumber mw_321 dX5_sendAccept_82 rfl rfl (Nat.le_of_ble_eq_true rfl) ⟨Nat.le_of_ble_eq_true rfl, Nat.le_of_ble_eq_true rfl⟩ ⟨by simp only [rmk]; omega, by simp only [rmk]; omega⟩ rfl (fun lay => ?_)
        refine j_iadd 86 C dX5_sendAccept_85 rfl ?_
        refine j_topi (fun x126 ex126 => ?_)
        replace h := lt_e h x126 ex126
        refine j_istore 88 C dX5_sendAccept_86 (lo' := [(8, .int x126), (7, .int x119), (0, .ref (ga g 0)), (1, .ref (ga g (5 + o1))), (2, .int x2), (4, .int x4), (5, .int v5), (6, .int v6), (9, .int v9)]) (by decide) rfl rfl ?_
        refine j_sub [2, 3, 4, 5, 6, 7, 1, 0, 8] (lo' := [(0, .ref (ga g 0)), (1, .ref (ga g (5 + o1))), (2, .int x2), (4, .int x4), (5, .int v5), (6, .int v6), (7, .int x119), (8, .int x126), (9, .int v9)]) rfl ?_
        exact wn_X5_sendAccept_88 C K M ho1 ih40 lay σ124 v5 v6 x119 x126 v9 (k + 3) (n + 1536) (by omega) (by omega) h
set_option maxHeartbeats 4000000 in
set_option maxRecDepth 100000 in
theorem wn_X5_sendAccept_23 {l : Launch} {p : Program} {e : Env} {s : State} {m : MethodId} {args : Array Value} {below : List Frame} {meth : Method} {c : Code} {g : GG} {A : Nat → Prop} (C : KX p m c cX5_sendAccept 10 s args RX5) (K : KC l g A s) (M : KM meth (some .int)) {σ' : CS} {r : Int32} {o1 : Nat} {x2 : Int32} {x3 : Int32} {x4 : Int32} (ho1 : o1 < 7)    (lay : Nat → Nat) (σ : CS) (v5 : Int32)  (h : B_X5_sendAccept_23 o1 x2 x3 x4 σ v5 = some (σ', r)) : JJ p l e (rmk 6 154 24 12288) s m args below meth c (MQ below (va_Qi (fun (r0 : Int32) (u : CS) => r0 = r ∧ u = σ') (BC (CH g A)) A) args s 24 12288 A) A 10 (CH g A lay σ) 0 0 23 [(0, .ref (ga g 0)), (1, .ref (ga g (5 + o1))), (2, .int x2), (4, .int x4), (5, .int v5)] [] := by
  unfold B_X5_sendAccept_23 at h
  refine j_aload_n 24 C dX5_sendAccept_23 1 rfl rfl ?_
  refine g_N 27 C K ho1 4 (by decide) mw_226 rfl dX5_sendAccept_24 rfl ?_
  refine j_iload_n 28 C dX5_sendAccept_27 2 rfl rfl ?_
  obtain ⟨hz106, h⟩ := gd_e h
  refine r_ild 29 C K (ar_V _ ho1) (ca_V _ _ ho1) hz106 dX5_sendAccept_28 rfl ?_
  refine j_topi (fun x107 ex107 => ?_)
  replace h := lt_e h x107 ex107
  refine j_istore 31 C dX5_sendAccept_29 (lo' := [(6, .int x107), (0, .ref (ga g 0)), (1, .ref (ga g (5 + o1))), (2, .int x2), (4, .int x4), (5, .int v5)]) (by decide) rfl rfl ?_
  refine j_iconst 32 C dX5_sendAccept_31 ic_0 rfl ?_
  refine j_istore 34 C dX5_sendAccept_32 (lo' := [(7, .int (0 : Int32)), (6, .int x107), (0, .ref (ga g 0)), (1, .ref (ga g (5 + o1))), (2, .int x2), (4, .int x4), (5, .int v5)]) (by decide) rfl rfl ?_
  refine j_iconst 35 C dX5_sendAccept_34 ic_0 rfl ?_
  refine j_istore 37 C dX5_sendAccept_35 (lo' := [(8, .int (0 : Int32)), (7, .int (0 : Int32)), (6, .int x107), (0, .ref (ga g 0)), (1, .ref (ga g (5 + o1))), (2, .int x2), (4, .int x4), (5, .int v5)]) (by decide) rfl rfl ?_
  refine j_iconst 38 C dX5_sendAccept_37 ic_0 rfl ?_
  refine j_istore 40 C dX5_sendAccept_38 (lo' := [(9, .int (0 : Int32)), (8, .int (0 : Int32)), (7, .int (0 : Int32)), (6, .int x107), (0, .ref (ga g 0)), (1, .ref (ga g (5 + o1))), (2, .int x2), (4, .int x4), (5, .int v5)]) (by decide) rfl rfl ?_
  refine j_sub [4, 5, 6, 7, 8, 3, 2, 1, 0] (lo' := [(0, .ref (ga g 0)), (1, .ref (ga g (5 + o1))), (2, .int x2), (4, .int x4), (5, .int v5), (6, .int x107), (7, .int (0 : Int32)), (8, .int (0 : Int32)), (9, .int (0 : Int32))]) rfl ?_
  exact wn_X5_sendAccept_40 C K M ho1 8 lay σ v5 x107 (0 : Int32) (0 : Int32) (0 : Int32) 0 0 (by omega) (by omega) h
set_option maxHeartbeats 4000000 in
set_option maxRecDepth 100000 in
theorem c_X5_sendAccept {l : Launch} (hst : l.stackTraces = false) (g : GG) (A : Nat → Prop) (lay : Nat → Nat) {σ : CS} {σ' : CS} {r : Int32} {o1 : Nat} {x2 : Int32} {x3 : Int32} {x4 : Int32} (ho1 : o1 < 7) (h : F_X5_sendAccept σ o1 x2 x3 x4 = some (σ', r)) : MI l yX5_sendAccept cX5_sendAccept 10 .int 6 154 24 12288 [.ref (ga g 0), .ref (ga g (5 + o1)), .int x2, .int x3, .int x4] (CH g A) g A lay σ σ' r := by
  unfold F_X5_sendAccept at h
  refine e_i (own := RX5) (lo := [(0, .ref (ga g 0)), (1, .ref (ga g (5 + o1))), (2, .int x2), (3, .int x3), (4, .int x4)]) hst (plainFor_of_name (by decide)) rfl rfl (Nat.le_of_ble_eq_true rfl) ?_
  intro p e s m args below meth c C K M
  refine j_aload_n 1 C dX5_sendAccept_0 1 rfl rfl ?_
  refine g_N 4 C K ho1 9 (by decide) mw_236 rfl dX5_sendAccept_1 rfl ?_
  refine j_topi (fun x101 ex101 => ?_)
  replace h := lt_e h x101 ex101
  refine j_istore 6 C dX5_sendAccept_4 (lo' := [(5, .int x101), (0, .ref (ga g 0)), (1, .ref (ga g (5 + o1))), (2, .int x2), (3, .int x3), (4, .int x4)]) (by decide) rfl rfl ?_
  refine j_aload_n 7 C dX5_sendAccept_6 2 rfl rfl ?_
  refine g_N 10 C K ho1 4 (by decide) mw_226 rfl dX5_sendAccept_7 rfl ?_
  refine j_iload_n 11 C dX5_sendAccept_10 3 rfl rfl ?_
  obtain ⟨hz102, h⟩ := gd_e h
  refine r_ild 12 C K (ar_V _ ho1) (ca_V _ _ ho1) hz102 dX5_sendAccept_11 rfl ?_
  refine j_iconst 13 C dX5_sendAccept_12 ic_m1 rfl ?_
  refine j_icmp_ne 16 23 C dX5_sendAccept_13 (by decide) rfl (fun hc103 => ?_) (fun hc103 => ?_)
  · replace h := it_f hc103 h
    refine j_sub [1, 2, 3, 5, 0] (lo' := [(0, .ref (ga g 0)), (1, .ref (ga g (5 + o1))), (2, .int x2), (4, .int x4), (5, .int x101)]) rfl ?_
    exact wn_X5_sendAccept_23 C K M ho1 lay σ x101 h
  · replace h := it_t hc103 h
    refine j_aload_n 17 C dX5_sendAccept_16 2 rfl rfl ?_
    refine g_N 20 C K ho1 4 (by decide) mw_226 rfl dX5_sendAccept_17 rfl ?_
    refine j_iload_n 21 C dX5_sendAccept_20 3 rfl rfl ?_
    refine j_iload_n 22 C dX5_sendAccept_21 4 rfl rfl ?_
    obtain ⟨hz104, h⟩ := gd_e h
    refine r_ist 23 C K (ar_V _ ho1) (ca_V _ _ ho1) hz104 dX5_sendAccept_22 rfl (fun σ105 eσ105 => ?_)
    replace h := lt_e h σ105 eσ105
    refine j_sub [1, 2, 3, 5, 0] (lo' := [(0, .ref (ga g 0)), (1, .ref (ga g (5 + o1))), (2, .int x2), (4, .int x4), (5, .int x101)]) rfl ?_
    exact wn_X5_sendAccept_23 C K M ho1 lay σ105 x101 h
