theorem cp_X6_isHarmless : CPv yX6_isHarmless cX6_isHarmless 6 (some .boolean) RX6 2 := ⟨mw_1347, mw_91, mw_105, mw_1348, rfl, by decide, by decide, by decide +kernel⟩
set_option maxHeartbeats 4000000 in
set_option maxRecDepth 100000 in
theorem wn_X6_isHarmless_61 {l : Launch} {p : Program} {e : Env} {s : State} {m : MethodId} {args : Array Value} {below : List Frame} {meth : Method} {c : Code} {g : GG} {A : Nat → Prop} (C : KX p m c cX6_isHarmless 6 s args RX6) (K : KC l g A s) (M : KM meth (some .boolean)) {σ' : RS} {r : Int32} {x1 : Int32} {x2 : Int32}   {self5 : RS → Int32 → Int32 → Option (RS × Int32)} (ih5 : ∀ (lay : Nat → Nat) (σ : RS) (v3 : Int32) (v4 : Int32), self5 σ v3 v4 = some (σ', r) → JJ p l e (rmk 4 91 0 0) s m args below meth c (MQ below (va_Qi (fun (r0 : Int32) (u : RS) => r0 = r ∧ u = σ') (BC (RH g A)) A) args s 0 0 A) A 6 (RH g A lay σ) 0 0 5 [(0, .ref (gm g 0)), (1, .int x1), (2, .int x2), (3, .int v3), (4, .int v4)] []) (lay : Nat → Nat) (σ : RS) (v4 : Int32) (w0 : Int32)  (h : B_X6_isHarmless_61 x1 x2 self5 σ v4 w0 = some (σ', r)) : JJ p l e (rmk 4 91 0 0) s m args below meth c (MQ below (va_Qi (fun (r0 : Int32) (u : RS) => r0 = r ∧ u = σ') (BC (RH g A)) A) args s 0 0 A) A 6 (RH g A lay σ) 0 0 61 [(0, .ref (gm g 0)), (1, .int x1), (2, .int x2), (4, .int v4)] [.int w0] := by
  unfold B_X6_isHarmless_61 at h
  refine j_istore_n 62 C dX6_isHarmless_61 (lo' := [(3, .int w0), (0, .ref (gm g 0)), (1, .int x1), (2, .int x2), (4, .int v4)]) (by decide) rfl rfl ?_
  obtain ⟨x113, ex113⟩ : ∃ z : Int32, z = v4 + 1 := ⟨_, rfl⟩
  replace h := lt_e h x113 ex113
  refine j_iinc 65 C dX6_isHarmless_62 4 rfl (v := x113) ((ii_1 _).trans ex113.symm) (lo' := [(4, .int x113), (3, .int w0), (0, .ref (gm g 0)), (1, .int x1), (2, .int x2)]) (by decide) rfl rfl ?_
  refine j_goto 5 C dX6_isHarmless_65 (by decide) ?_
  refine j_sub [2, 3, 4, 1, 0] (lo' := [(0, .ref (gm g 0)), (1, .int x1), (2, .int x2), (3, .int w0), (4, .int x113)]) rfl ?_
  exact ih5 lay σ w0 x113 h
set_option maxHeartbeats 4000000 in
set_option maxRecDepth 100000 in
theorem wn_X6_isHarmless_60 {l : Launch} {p : Program} {e : Env} {s : State} {m : MethodId} {args : Array Value} {below : List Frame} {meth : Method} {c : Code} {g : GG} {A : Nat → Prop} (C : KX p m c cX6_isHarmless 6 s args RX6) (K : KC l g A s) (M : KM meth (some .boolean)) {σ' : RS} {r : Int32} {x1 : Int32} {x2 : Int32}   {self5 : RS → Int32 → Int32 → Option (RS × Int32)} (ih5 : ∀ (lay : Nat → Nat) (σ : RS) (v3 : Int32) (v4 : Int32), self5 σ v3 v4 = some (σ', r) → JJ p l e (rmk 4 91 0 0) s m args below meth c (MQ below (va_Qi (fun (r0 : Int32) (u : RS) => r0 = r ∧ u = σ') (BC (RH g A)) A) args s 0 0 A) A 6 (RH g A lay σ) 0 0 5 [(0, .ref (gm g 0)), (1, .int x1), (2, .int x2), (3, .int v3), (4, .int v4)] []) (lay : Nat → Nat) (σ : RS) (v4 : Int32)  (h : B_X6_isHarmless_60 x1 x2 self5 σ v4 = some (σ', r)) : JJ p l e (rmk 4 91 0 0) s m args below meth c (MQ below (va_Qi (fun (r0 : Int32) (u : RS) => r0 = r ∧ u = σ') (BC (RH g A)) A) args s 0 0 A) A 6 (RH g A lay σ) 0 0 60 [(0, .ref (gm g 0)), (1, .int x1), (2, .int x2), (4, .int v4)] [] := by
  unfold B_X6_isHarmless_60 at h
  refine j_iconst 61 C dX6_isHarmless_60 ic_0 rfl ?_
  exact wn_X6_isHarmless_61 C K M ih5 lay σ v4 (0 : Int32) h
set_option maxHeartbeats 4000000 in
set_option maxRecDepth 100000 in
theorem wn_X6_isHarmless_56 {l : Launch} {p : Program} {e : Env} {s : State} {m : MethodId} {args : Array Value} {below : List Frame} {meth : Method} {c : Code} {g : GG} {A : Nat → Prop} (C : KX p m c cX6_isHarmless 6 s args RX6) (K : KC l g A s) (M : KM meth (some .boolean)) {σ' : RS} {r : Int32} {x1 : Int32} {x2 : Int32}   {self5 : RS → Int32 → Int32 → Option (RS × Int32)} (ih5 : ∀ (lay : Nat → Nat) (σ : RS) (v3 : Int32) (v4 : Int32), self5 σ v3 v4 = some (σ', r) → JJ p l e (rmk 4 91 0 0) s m args below meth c (MQ below (va_Qi (fun (r0 : Int32) (u : RS) => r0 = r ∧ u = σ') (BC (RH g A)) A) args s 0 0 A) A 6 (RH g A lay σ) 0 0 5 [(0, .ref (gm g 0)), (1, .int x1), (2, .int x2), (3, .int v3), (4, .int v4)] []) (lay : Nat → Nat) (σ : RS) (v4 : Int32)  (h : B_X6_isHarmless_56 x1 x2 self5 σ v4 = some (σ', r)) : JJ p l e (rmk 4 91 0 0) s m args below meth c (MQ below (va_Qi (fun (r0 : Int32) (u : RS) => r0 = r ∧ u = σ') (BC (RH g A)) A) args s 0 0 A) A 6 (RH g A lay σ) 0 0 56 [(0, .ref (gm g 0)), (1, .int x1), (2, .int x2), (4, .int v4)] [] := by
  unfold B_X6_isHarmless_56 at h
  refine j_iconst 57 C dX6_isHarmless_56 ic_1 rfl ?_
  refine j_goto 61 C dX6_isHarmless_57 (by decide) ?_
  exact wn_X6_isHarmless_61 C K M ih5 lay σ v4 (1 : Int32) h
set_option maxHeartbeats 4000000 in
set_option maxRecDepth 100000 in
theorem wn_X6_isHarmless_30 {l : Launch} {p : Program} {e : Env} {s : State} {m : MethodId} {args : Array Value} {below : List Frame} {meth : Method} {c : Code} {g : GG} {A : Nat → Prop} (C : KX p m c cX6_isHarmless 6 s args RX6) (K : KC l g A s) (M : KM meth (some .boolean)) {σ' : RS} {r : Int32} {x1 : Int32} {x2 : Int32}   {self5 : RS → Int32 → Int32 → Option (RS × Int32)} (ih5 : ∀ (lay : Nat → Nat) (σ : RS) (v3 : Int32) (v4 : Int32), self5 σ v3 v4 = some (σ', r) → JJ p l e (rmk 4 91 0 0) s m args below meth c (MQ below (va_Qi (fun (r0 : Int32) (u : RS) => r0 = r ∧ u = σ') (BC (RH g A)) A) args s 0 0 A) A 6 (RH g A lay σ) 0 0 5 [(0, .ref (gm g 0)), (1, .int x1), (2, .int x2), (3, .int v3), (4, .int v4)] []) (lay : Nat → Nat) (σ : RS) (v3 : Int32) (v4 : Int32) (w0 : Int32)  (h : B_X6_isHarmless_30 x1 x2 self5 σ v3 v4 w0 = some (σ', r)) : JJ p l e (rmk 4 91 0 0) s m args below meth c (MQ below (va_Qi (fun (r0 : Int32) (u : RS) => r0 = r ∧ u = σ') (BC (RH g A)) A) args s 0 0 A) A 6 (RH g A lay σ) 0 0 30 [(0, .ref (gm g 0)), (1, .int x1), (2, .int x2), (3, .int v3), (4, .int v4)] [.int w0] := by
  unfold B_X6_isHarmless_30 at h
  refine j_istore 32 C dX6_isHarmless_30 (lo' := [(5, .int w0), (0, .ref (gm g 0)), (1, .int x1), (2, .int x2), (3, .int v3), (4, .int v4)]) (by decide) rfl rfl ?_
  refine j_iload_n 33 C dX6_isHarmless_32 4 rfl rfl ?_
  refine j_if_eq 36 60 C dX6_isHarmless_33 (by decide) rfl (fun hc106 => ?_) (fun hc106 => ?_)
  · replace h := it_t hc106 h
    refine j_sub [1, 2, 3, 5] (lo' := [(0, .ref (gm g 0)), (1, .int x1), (2, .int x2), (4, .int v4)]) rfl ?_
    exact wn_X6_isHarmless_60 C K M ih5 lay σ v4 h
  · replace h := it_f hc106 h
    refine j_iload 38 C dX6_isHarmless_36 0 rfl rfl ?_
    refine j_if_eq 41 56 C dX6_isHarmless_38 (by decide) rfl (fun hc107 => ?_) (fun hc107 => ?_)
    · replace h := it_t hc107 h
      refine j_sub [1, 2, 3, 5] (lo' := [(0, .ref (gm g 0)), (1, .int x1), (2, .int x2), (4, .int v4)]) rfl ?_
      exact wn_X6_isHarmless_56 C K M ih5 lay σ v4 h
    · replace h := it_f hc107 h
      refine j_aload_n 42 C dX6_isHarmless_41 1 rfl rfl ?_
      refine j_aload_n 43 C dX6_isHarmless_42 1 rfl rfl ?_
      refine j_iload_n 44 C dX6_isHarmless_43 2 rfl rfl ?_
      refine j_iload 46 C dX6_isHarmless_44 5 rfl rfl ?_
      refine j_iload_n 47 C dX6_isHarmless_46 3 rfl rfl ?_
      obtain ⟨σ108, r109, hF, h⟩ := bd_e h
      refine k_Vi 50 C K (c_X6_holdersWith K.2.2.2 g A lay  hF) cp_X6_holdersWith (rv_M) mw_1329 dX6_isHarmless_47 rfl rfl (Nat.le_of_ble_eq_true rfl) ⟨Nat.le_of_ble_eq_true rfl, Nat.le_of_ble_eq_true rfl⟩ ⟨Nat.le_of_ble_eq_true rfl, Nat.le_of_ble_eq_true rfl⟩ rfl (fun lay => ?_)
      obtain ⟨σ110, r111, hF, h⟩ := bd_e h
      refine k_Vi 53 C K (c_X6_protects K.2.2.2 g A lay  hF) cp_X6_protects (rv_M) mw_1317 dX6_isHarmless_50 rfl rfl (Nat.le_of_ble_eq_true rfl) ⟨Nat.le_of_ble_eq_true rfl, Nat.le_of_ble_eq_true rfl⟩ ⟨Nat.le_of_ble_eq_true rfl, Nat.le_of_ble_eq_true rfl⟩ rfl (fun lay => ?_)
      refine j_if_eq 56 60 C dX6_isHarmless_53 (by decide) rfl (fun hc112 => ?_) (fun hc112 => ?_)
      · replace h := it_t hc112 h
        refine j_sub [1, 2, 3, 5] (lo' := [(0, .ref (gm g 0)), (1, .int x1), (2, .int x2), (4, .int v4)]) rfl ?_
        exact wn_X6_isHarmless_60 C K M ih5 lay σ110 v4 h
      · replace h := it_f hc112 h
        refine j_sub [1, 2, 3, 5] (lo' := [(0, .ref (gm g 0)), (1, .int x1), (2, .int x2), (4, .int v4)]) rfl ?_
        exact wn_X6_isHarmless_56 C K M ih5 lay σ110 v4 h
set_option maxHeartbeats 4000000 in
set_option maxRecDepth 100000 in
theorem wn_X6_isHarmless_5 {l : Launch} {p : Program} {e : Env} {s : State} {m : MethodId} {args : Array Value} {below : List Frame} {meth : Method} {c : Code} {g : GG} {A : Nat → Prop} (C : KX p m c cX6_isHarmless 6 s args RX6) (K : KC l g A s) (M : KM meth (some .boolean)) {σ' : RS} {r : Int32} {x1 : Int32} {x2 : Int32}     : ∀ (fu : Nat) (lay : Nat → Nat) (σ : RS) (v3 : Int32) (v4 : Int32), B_X6_isHarmless_5 x1 x2 fu σ v3 v4 = some (σ', r) → JJ p l e (rmk 4 91 0 0) s m args below meth c (MQ below (va_Qi (fun (r0 : Int32) (u : RS) => r0 = r ∧ u = σ') (BC (RH g A)) A) args s 0 0 A) A 6 (RH g A lay σ) 0 0 5 [(0, .ref (gm g 0)), (1, .int x1), (2, .int x2), (3, .int v3), (4, .int v4)] [] := by
  intro fu
  induction fu with
  | zero =>
    intro lay σ v3 v4 h
    exact nomatch (show (none : Option _) = some _ from h)
  | succ fu ih5 =>
    intro lay σ v3 v4 h
    unfold B_X6_isHarmless_5 at h
    rw [lo3_s] at h
    refine j_iload 7 C dX6_isHarmless_5 4 rfl rfl ?_
    refine j_aload_n 8 C dX6_isHarmless_7 0 rfl rfl ?_
    refine g_M 11 C K 2 (by decide) mw_965 rfl dX6_isHarmless_8 rfl ?_
    refine j_icmp_ge 14 68 C dX6_isHarmless_11 (by decide) rfl (fun hc101 => ?_) (fun hc101 => ?_)
    · replace h := it_t hc101 h
      refine j_iload_n 69 C dX6_isHarmless_68 3 rfl rfl ?_
      obtain ⟨hz102, h⟩ := gd_e h
      cases h
      exact x_z C M dX6_isHarmless_69 hz102
    · replace h := it_f hc101 h
      refine j_aload_n 15 C dX6_isHarmless_14 0 rfl rfl ?_
      refine j_iload 17 C dX6_isHarmless_15 4 rfl rfl ?_
      refine j_iconst 18 C dX6_isHarmless_17 ic_5 rfl ?_
      obtain ⟨σ103, r104, hF, h⟩ := bd_e h
      refine k_Vi 21 C K (c_X6_slotNow K.2.2.2 g A lay  hF) cp_X6_slotNow (rv_M) mw_1301 dX6_isHarmless_18 rfl rfl (Nat.le_of_ble_eq_true rfl) ⟨Nat.le_of_ble_eq_true rfl, Nat.le_of_ble_eq_true rfl⟩ ⟨Nat.le_of_ble_eq_true rfl, Nat.le_of_ble_eq_true rfl⟩ rfl (fun lay => ?_)
      refine j_iconst 22 C dX6_isHarmless_21 ic_1 rfl ?_
      refine j_icmp_ne 25 29 C dX6_isHarmless_22 (by decide) rfl (fun hc105 => ?_) (fun hc105 => ?_)
      · replace h := it_f hc105 h
        refine j_iconst 30 C dX6_isHarmless_29 ic_0 rfl ?_
        exact wn_X6_isHarmless_30 C K M ih5 lay σ103 v3 v4 (0 : Int32) h
      · replace h := it_t hc105 h
        refine j_iconst 26 C dX6_isHarmless_25 ic_1 rfl ?_
        refine j_goto 30 C dX6_isHarmless_26 (by decide) ?_
        exact wn_X6_isHarmless_30 C K M ih5 lay σ103 v3 v4 (1 : Int32) h
set_option maxHeartbeats 4000000 in
set_option maxRecDepth 100000 in
theorem c_X6_isHarmless {l : Launch} (hst : l.stackTraces = false) (g : GG) (A : Nat → Prop) (lay : Nat → Nat) {σ : RS} {σ' : RS} {r : Int32} {x1 : Int32} {x2 : Int32}  (h : F_X6_isHarmless σ x1 x2 = some (σ', r)) : MI l yX6_isHarmless cX6_isHarmless 6 .boolean 4 91 0 0 [.ref (gm g 0), .int x1, .int x2] (RH g A) g A lay σ σ' r := by
  unfold F_X6_isHarmless at h
  refine e_i (own := RX6) (lo := [(0, .ref (gm g 0)), (1, .int x1), (2, .int x2)]) hst (plainFor_of_name (by decide)) rfl rfl (Nat.le_of_ble_eq_true rfl) ?_
  intro p e s m args below meth c C K M
  refine j_iconst 1 C dX6_isHarmless_0 ic_1 rfl ?_
  refine j_istore_n 2 C dX6_isHarmless_1 (lo' := [(3, .int (1 : Int32)), (0, .ref (gm g 0)), (1, .int x1), (2, .int x2)]) (by decide) rfl rfl ?_
  refine j_iconst 3 C dX6_isHarmless_2 ic_0 rfl ?_
  refine j_istore 5 C dX6_isHarmless_3 (lo' := [(4, .int (0 : Int32)), (3, .int (1 : Int32)), (0, .ref (gm g 0)), (1, .int x1), (2, .int x2)]) (by decide) rfl rfl ?_
  refine j_sub [2, 3, 4, 1, 0] (lo' := [(0, .ref (gm g 0)), (1, .int x1), (2, .int x2), (3, .int (1 : Int32)), (4, .int (0 : Int32))]) rfl ?_
  exact wn_X6_isHarmless_5 C K M  4096 lay σ (1 : Int32) (0 : Int32) h
theorem cp_X6_harmlessNow : CPv yX6_harmlessNow cX6_harmlessNow 3 (some .int) RX6 1 := ⟨mw_1343, mw_90, mw_105, mw_1344, rfl, by decide, by decide, by decide +kernel⟩
set_option maxHeartbeats 4000000 in
set_option maxRecDepth 100000 in
theorem wn_X6_harmlessNow_7 {l : Launch} {p : Program} {e : Env} {s : State} {m : MethodId} {args : Array Value} {below : List Frame} {meth : Method} {c : Code} {g : GG} {A : Nat → Prop} (C : KX p m c cX6_harmlessNow 3 s args RX6) (K : KC l g A s) (M : KM meth (some .int)) {σ' : RS} {r : Int32} {x1 : Int32}     : ∀ (fu : Nat) (lay : Nat → Nat) (σ : RS) (v2 : Int32), B_X6_harmlessNow_7 x1 fu σ v2 = some (σ', r) → JJ p l e (rmk 5 116 0 0) s m args below meth c (MQ below (va_Qi (fun (r0 : Int32) (u : RS) => r0 = r ∧ u = σ') (BC (RH g A)) A) args s 0 0 A) A 3 (RH g A lay σ) 0 0 7 [(0, .ref (gm g 0)), (1, .int x1), (2, .int v2)] [] := by
  intro fu
  induction fu with
  | zero =>
    intro lay σ v2 h
    exact nomatch (show (none : Option _) = some _ from h)
  | succ fu ih7 =>
    intro lay σ v2 h
    unfold B_X6_harmlessNow_7 at h
    rw [lo2_s] at h
    refine j_aload_n 8 C dX6_harmlessNow_7 0 rfl rfl ?_
    refine j_iload_n 9 C dX6_harmlessNow_8 1 rfl rfl ?_
    refine j_iload_n 10 C dX6_harmlessNow_9 2 rfl rfl ?_
    obtain ⟨σ103, r104, hF, h⟩ := bd_e h
    refine k_Vi 13 C K (c_X6_isHarmless K.2.2.2 g A lay  hF) cp_X6_isHarmless (rv_M) mw_1345 dX6_harmlessNow_10 rfl rfl (Nat.le_of_ble_eq_true rfl) ⟨Nat.le_of_ble_eq_true rfl, Nat.le_of_ble_eq_true rfl⟩ ⟨Nat.le_of_ble_eq_true rfl, Nat.le_of_ble_eq_true rfl⟩ rfl (fun lay => ?_)
    refine j_if_ne 16 22 C dX6_harmlessNow_13 (by decide) rfl (fun hc105 => ?_) (fun hc105 => ?_)
    · replace h := it_f hc105 h
      refine j_iload_n 23 C dX6_harmlessNow_22 2 rfl rfl ?_
      cases h
      exact x_i C M dX6_harmlessNow_23
    · replace h := it_t hc105 h
      obtain ⟨x106, ex106⟩ : ∃ z : Int32, z = v2 + (-1) := ⟨_, rfl⟩
      replace h := lt_e h x106 ex106
      refine j_iinc 19 C dX6_harmlessNow_16 2 rfl (v := x106) ((ii_m1 _).trans ex106.symm) (lo' := [(2, .int x106), (0, .ref (gm g 0)), (1, .int x1)]) (by decide) rfl rfl ?_
      refine j_goto 7 C dX6_harmlessNow_19 (by decide) ?_
      refine j_sub [1, 2, 0] (lo' := [(0, .ref (gm g 0)), (1, .int x1), (2, .int x106)]) rfl ?_
      exact ih7 lay σ103 x106 h
set_option maxHeartbeats 4000000 in
set_option maxRecDepth 100000 in
theorem c_X6_harmlessNow {l : Launch} (hst : l.stackTraces = false) (g : GG) (A : Nat → Prop) (lay : Nat → Nat) {σ : RS} {σ' : RS} {r : Int32} {x1 : Int32}  (h : F_X6_harmlessNow σ x1 = some (σ', r)) : MI l yX6_harmlessNow cX6_harmlessNow 3 .int 5 116 0 0 [.ref (gm g 0), .int x1] (RH g A) g A lay σ σ' r := by
  unfold F_X6_harmlessNow at h
  refine e_i (own := RX6) (lo := [(0, .ref (gm g 0)), (1, .int x1)]) hst (plainFor_of_name (by decide)) rfl rfl (Nat.le_of_ble_eq_true rfl) ?_
  intro p e s m args below meth c C K M
  refine j_aload_n 1 C dX6_harmlessNow_0 0 rfl rfl ?_
  refine g_M 4 C K 14 (by decide) mw_977 rfl dX6_harmlessNow_1 rfl ?_
  refine j_iload_n 5 C dX6_harmlessNow_4 1 rfl rfl ?_
  obtain ⟨hz101, h⟩ := gd_e h
  refine m_ild 6 C K ra_14 hz101 dX6_harmlessNow_5 rfl ?_
  refine j_topi (fun x102 ex102 => ?_)
  replace h := lt_e h x102 ex102
  refine j_istore_n 7 C dX6_harmlessNow_6 (lo' := [(2, .int x102), (0, .ref (gm g 0)), (1, .int x1)]) (by decide) rfl rfl ?_
  refine j_sub [1, 2, 0] (lo' := [(0, .ref (gm g 0)), (1, .int x1), (2, .int x102)]) rfl ?_
  exact wn_X6_harmlessNow_7 C K M  4096 lay σ x102 h
theorem cp_X6_harmless : CPv yX6_harmless cX6_harmless 2 (some .int) RX6 1 := ⟨mw_1338, mw_1339, mw_105, mw_1340, rfl, by decide, by decide, by decide +kernel⟩
set_option maxHeartbeats 4000000 in
set_option maxRecDepth 100000 in
theorem wn_X6_harmless_14 {l : Launch} {p : Program} {e : Env} {s : State} {m : MethodId} {args : Array Value} {below : List Frame} {meth : Method} {c : Code} {g : GG} {A : Nat → Prop} (C : KX p m c cX6_harmless 2 s args RX6) (K : KC l g A s) (M : KM meth (some .int)) {σ' : RS} {r : Int32} {x1 : Int32}     (lay : Nat → Nat) (σ : RS) (w0 : Int32)  (h : B_X6_harmless_14 x1 σ w0 = some (σ', r)) : JJ p l e (rmk 6 138 0 0) s m args below meth c (MQ below (va_Qi (fun (r0 : Int32) (u : RS) => r0 = r ∧ u = σ') (BC (RH g A)) A) args s 0 0 A) A 2 (RH g A lay σ) 0 0 14 [(0, .ref (gm g 0)), (1, .int x1)] [.int w0, .ref (gm g 0)] := by
  unfold B_X6_harmless_14 at h
  refine p_M 17 C K 0 (by decide) rs_0 rfl mw_963 rfl rfl dX6_harmless_14 rfl (fun σ104 eσ104 => ?_)
  replace h := lt_e h σ104 eσ104
  refine j_aload_n 18 C dX6_harmless_17 0 rfl rfl ?_
  refine g_M 21 C K 0 (by decide) mw_963 rfl dX6_harmless_18 rfl ?_
  refine j_if_le 24 28 C dX6_harmless_21 (by decide) rfl (fun hc105 => ?_) (fun hc105 => ?_)
  · replace h := it_t hc105 h
    refine j_aload_n 29 C dX6_harmless_28 0 rfl rfl ?_
    refine j_iload_n 30 C dX6_harmless_29 1 rfl rfl ?_
    obtain ⟨σ106, r107, hF, h⟩ := bd_e h
    refine k_Vi 33 C K (c_X6_harmlessNow K.2.2.2 g A lay  hF) cp_X6_harmlessNow (rv_M) mw_1341 dX6_harmless_30 rfl rfl (Nat.le_of_ble_eq_true rfl) ⟨Nat.le_of_ble_eq_true rfl, Nat.le_of_ble_eq_true rfl⟩ ⟨Nat.le_of_ble_eq_true rfl, Nat.le_of_ble_eq_true rfl⟩ rfl (fun lay => ?_)
    cases h
    exact x_i C M dX6_harmless_33
  · replace h := it_f hc105 h
    refine j_iconst 25 C dX6_harmless_24 ic_0 rfl ?_
    refine j_goto 33 C dX6_harmless_25 (by decide) ?_
    cases h
    exact x_i C M dX6_harmless_33
set_option maxHeartbeats 4000000 in
set_option maxRecDepth 100000 in
theorem c_X6_harmless {l : Launch} (hst : l.stackTraces = false) (g : GG) (A : Nat → Prop) (lay : Nat → Nat) {σ : RS} {σ' : RS} {r : Int32} {x1 : Int32}  (h : F_X6_harmless σ x1 = some (σ', r)) : MI l yX6_harmless cX6_harmless 2 .int 6 138 0 0 [.ref (gm g 0), .int x1] (RH g A) g A lay σ σ' r := by
  unfold F_X6_harmless at h
  refine e_i (own := RX6) (lo := [(0, .ref (gm g 0)), (1, .int x1)]) hst (plainFor_of_name (by decide)) rfl rfl (Nat.le_of_ble_eq_true rfl) ?_
  intro p e s m args below meth c C K M
  refine j_aload_n 1 C dX6_harmless_0 0 rfl rfl ?_
  refine j_aload_n 2 C dX6_harmless_1 0 rfl rfl ?_
  refine j_iload_n 3 C dX6_harmless_2 1 rfl rfl ?_
  obtain ⟨σ101, r102, hF, h⟩ := bd_e h
  refine k_Vi 6 C K (c_X6_isNode K.2.2.2 g A lay  hF) cp_X6_isNode (rv_M) mw_1093 dX6_harmless_3 rfl rfl (Nat.le_of_ble_eq_true rfl) ⟨Nat.le_of_ble_eq_true rfl, Nat.le_of_ble_eq_true rfl⟩ ⟨Nat.le_of_ble_eq_true rfl, Nat.le_of_ble_eq_true rfl⟩ rfl (fun lay => ?_)
  refine j_if_eq 9 13 C dX6_harmless_6 (by decide) rfl (fun hc103 => ?_) (fun hc103 => ?_)
  · replace h := it_t hc103 h
    refine j_iconst 14 C dX6_harmless_13 ic_1 rfl ?_
    exact wn_X6_harmless_14 C K M  lay σ101 (1 : Int32) h
  · replace h := it_f hc103 h
    refine j_iconst 10 C dX6_harmless_9 ic_0 rfl ?_
    refine j_goto 14 C dX6_harmless_10 (by decide) ?_
    exact wn_X6_harmless_14 C K M  lay σ101 (0 : Int32) h
theorem cp_X6_fewest : CPv yX6_fewest cX6_fewest 5 (some .int) RX6 1 := ⟨mw_1355, mw_92, mw_105, mw_1356, rfl, by decide, by decide, by decide +kernel⟩
set_option maxHeartbeats 4000000 in
set_option maxRecDepth 100000 in
theorem wn_X6_fewest_68 {l : Launch} {p : Program} {e : Env} {s : State} {m : MethodId} {args : Array Value} {below : List Frame} {meth : Method} {c : Code} {g : GG} {A : Nat → Prop} (C : KX p m c cX6_fewest 5 s args RX6) (K : KC l g A s) (M : KM meth (some .int)) {σ' : RS} {r : Int32} {x1 : Int32}     : ∀ (fu : Nat) (lay : Nat → Nat) (σ : RS) (v2 : Int32) (v3 : Int32) (v4 : Int32), B_X6_fewest_68 x1 fu σ v2 v3 v4 = some (σ', r) → JJ p l e (rmk 3 67 0 0) s m args below meth c (MQ below (va_Qi (fun (r0 : Int32) (u : RS) => r0 = r ∧ u = σ') (BC (RH g A)) A) args s 0 0 A) A 5 (RH g A lay σ) 0 0 68 [(0, .ref (gm g 0)), (2, .int v2), (3, .int v3), (4, .int v4)] [] := by
  intro fu
  induction fu with
  | zero =>
    intro lay σ v2 v3 v4 h
    exact nomatch (show (none : Option _) = some _ from h)
  | succ fu ih68 =>
    intro lay σ v2 v3 v4 h
    unfold B_X6_fewest_68 at h
    rw [lo4_s] at h
    refine j_aload_n 69 C dX6_fewest_68 0 rfl rfl ?_
    refine j_iload_n 70 C dX6_fewest_69 1 rfl rfl ?_
    refine j_iload 72 C dX6_fewest_70 3 rfl rfl ?_
    refine j_isub 73 C dX6_fewest_72 rfl ?_
    obtain ⟨σ113, r114, hF, h⟩ := bd_e h
    refine k_Vi 76 C K (c_X6_protects K.2.2.2 g A lay  hF) cp_X6_protects (rv_M) mw_1317 dX6_fewest_73 rfl rfl (Nat.le_of_ble_eq_true rfl) ⟨Nat.le_of_ble_eq_true rfl, Nat.le_of_ble_eq_true rfl⟩ ⟨Nat.le_of_ble_eq_true rfl, Nat.le_of_ble_eq_true rfl⟩ rfl (fun lay => ?_)
    refine j_if_eq 79 85 C dX6_fewest_76 (by decide) rfl (fun hc115 => ?_) (fun hc115 => ?_)
    · replace h := it_t hc115 h
      refine j_iload 87 C dX6_fewest_85 3 rfl rfl ?_
      refine j_iload_n 88 C dX6_fewest_87 2 rfl rfl ?_
      refine j_icmp_gt 91 96 C dX6_fewest_88 (by decide) rfl (fun hc116 => ?_) (fun hc116 => ?_)
      · replace h := it_t hc116 h
        refine j_iconst 97 C dX6_fewest_96 ic_m1 rfl ?_
        cases h
        exact x_i C M dX6_fewest_97
      · replace h := it_f hc116 h
        refine j_iload 93 C dX6_fewest_91 3 rfl rfl ?_
        refine j_goto 97 C dX6_fewest_93 (by decide) ?_
        cases h
        exact x_i C M dX6_fewest_97
    · replace h := it_f hc115 h
      obtain ⟨x117, ex117⟩ : ∃ z : Int32, z = v4 + 1 := ⟨_, rfl⟩
      replace h := lt_e h x117 ex117
      refine j_iinc 82 C dX6_fewest_79 3 rfl (v := x117) ((ii_1 _).trans ex117.symm) (lo' := [(4, .int x117), (0, .ref (gm g 0)), (2, .int v2), (3, .int v3)]) (by decide) rfl rfl ?_
      refine j_goto 68 C dX6_fewest_82 (by decide) ?_
      refine j_sub [1, 2, 3, 0] (lo' := [(0, .ref (gm g 0)), (2, .int v2), (3, .int v3), (4, .int x117)]) rfl ?_
      exact ih68 lay σ113 v2 v3 x117 h
set_option maxHeartbeats 4000000 in
set_option maxRecDepth 100000 in
theorem wn_X6_fewest_57 {l : Launch} {p : Program} {e : Env} {s : State} {m : MethodId} {args : Array Value} {below : List Frame} {meth : Method} {c : Code} {g : GG} {A : Nat → Prop} (C : KX p m c cX6_fewest 5 s args RX6) (K : KC l g A s) (M : KM meth (some .int)) {σ' : RS} {r : Int32} {x1 : Int32}   {self22 : RS → Int32 → Int32 → Int32 → Option (RS × Int32)} (ih22 : ∀ (lay : Nat → Nat) (σ : RS) (v2 : Int32) (v3 : Int32) (v4 : Int32), self22 σ v2 v3 v4 = some (σ', r) → JJ p l e (rmk 3 67 0 0) s m args below meth c (MQ below (va_Qi (fun (r0 : Int32) (u : RS) => r0 = r ∧ u = σ') (BC (RH g A)) A) args s 0 0 A) A 5 (RH g A lay σ) 0 0 22 [(0, .ref (gm g 0)), (1, .int x1), (2, .int v2), (3, .int v3), (4, .int v4)] []) (lay : Nat → Nat) (σ : RS) (v2 : Int32) (v4 : Int32) (w0 : Int32) (w1 : Int32)  (h : B_X6_fewest_57 x1 self22 σ v2 v4 w0 w1 = some (σ', r)) : JJ p l e (rmk 3 67 0 0) s m args below meth c (MQ below (va_Qi (fun (r0 : Int32) (u : RS) => r0 = r ∧ u = σ') (BC (RH g A)) A) args s 0 0 A) A 5 (RH g A lay σ) 0 0 57 [(0, .ref (gm g 0)), (1, .int x1), (2, .int v2), (4, .int v4)] [.int w0, .int w1] := by
  unfold B_X6_fewest_57 at h
  refine j_iadd 58 C dX6_fewest_57 rfl ?_
  refine j_topi (fun x118 ex118 => ?_)
  replace h := lt_e h x118 ex118
  refine j_istore_n 59 C dX6_fewest_58 (lo' := [(3, .int x118), (0, .ref (gm g 0)), (1, .int x1), (2, .int v2), (4, .int v4)]) (by decide) rfl rfl ?_
  obtain ⟨x119, ex119⟩ : ∃ z : Int32, z = v4 + 1 := ⟨_, rfl⟩
  replace h := lt_e h x119 ex119
  refine j_iinc 62 C dX6_fewest_59 4 rfl (v := x119) ((ii_1 _).trans ex119.symm) (lo' := [(4, .int x119), (3, .int x118), (0, .ref (gm g 0)), (1, .int x1), (2, .int v2)]) (by decide) rfl rfl ?_
  refine j_goto 22 C dX6_fewest_62 (by decide) ?_
  refine j_sub [2, 3, 4, 1, 0] (lo' := [(0, .ref (gm g 0)), (1, .int x1), (2, .int v2), (3, .int x118), (4, .int x119)]) rfl ?_
  exact ih22 lay σ v2 x118 x119 h
set_option maxHeartbeats 4000000 in
set_option maxRecDepth 100000 in
theorem wn_X6_fewest_56 {l : Launch} {p : Program} {e : Env} {s : State} {m : MethodId} {args : Array Value} {below : List Frame} {meth : Method} {c : Code} {g : GG} {A : Nat → Prop} (C : KX p m c cX6_fewest 5 s args RX6) (K : KC l g A s) (M : KM meth (some .int)) {σ' : RS} {r : Int32} {x1 : Int32}   {self22 : RS → Int32 → Int32 → Int32 → Option (RS × Int32)} (ih22 : ∀ (lay : Nat → Nat) (σ : RS) (v2 : Int32) (v3 : Int32) (v4 : Int32), self22 σ v2 v3 v4 = some (σ', r) → JJ p l e (rmk 3 67 0 0) s m args below meth c (MQ below (va_Qi (fun (r0 : Int32) (u : RS) => r0 = r ∧ u = σ') (BC (RH g A)) A) args s 0 0 A) A 5 (RH g A lay σ) 0 0 22 [(0, .ref (gm g 0)), (1, .int x1), (2, .int v2), (3, .int v3), (4, .int v4)] []) (lay : Nat → Nat) (σ : RS) (v2 : Int32) (v4 : Int32) (w0 : Int32)  (h : B_X6_fewest_56 x1 self22 σ v2 v4 w0 = some (σ', r)) : JJ p l e (rmk 3 67 0 0) s m args below meth c (MQ below (va_Qi (fun (r0 : Int32) (u : RS) => r0 = r ∧ u = σ') (BC (RH g A)) A) args s 0 0 A) A 5 (RH g A lay σ) 0 0 56 [(0, .ref (gm g 0)), (1, .int x1), (2, .int v2), (4, .int v4)] [.int w0] := by
  unfold B_X6_fewest_56 at h
  refine j_iconst 57 C dX6_fewest_56 ic_0 rfl ?_
  exact wn_X6_fewest_57 C K M ih22 lay σ v2 v4 (0 : Int32) w0 h
set_option maxHeartbeats 4000000 in
set_option maxRecDepth 100000 in
theorem wn_X6_fewest_22 {l : Launch} {p : Program} {e : Env} {s : State} {m : MethodId} {args : Array Value} {below : List Frame} {meth : Method} {c : Code} {g : GG} {A : Nat → Prop} (C : KX p m c cX6_fewest 5 s args RX6) (K : KC l g A s) (M : KM meth (some .int)) {σ' : RS} {r : Int32} {x1 : Int32}     : ∀ (fu : Nat) (lay : Nat → Nat) (σ : RS) (v2 : Int32) (v3 : Int32) (v4 : Int32), B_X6_fewest_22 x1 fu σ v2 v3 v4 = some (σ', r) → JJ p l e (rmk 3 67 0 0) s m args below meth c (MQ below (va_Qi (fun (r0 : Int32) (u : RS) => r0 = r ∧ u = σ') (BC (RH g A)) A) args s 0 0 A) A 5 (RH g A lay σ) 0 0 22 [(0, .ref (gm g 0)), (1, .int x1), (2, .int v2), (3, .int v3), (4, .int v4)] [] := by
  intro fu
  induction fu with
  | zero =>
    intro lay σ v2 v3 v4 h
    exact nomatch (show (none : Option _) = some _ from h)
  | succ fu ih22 =>
    intro lay σ v2 v3 v4 h
    unfold B_X6_fewest_22 at h
    rw [lo4_s] at h
    refine j_iload 24 C dX6_fewest_22 4 rfl rfl ?_
    refine j_aload_n 25 C dX6_fewest_24 0 rfl rfl ?_
    refine g_M 28 C K 1 (by decide) mw_964 rfl dX6_fewest_25 rfl ?_
    refine j_icmp_ge 31 65 C dX6_fewest_28 (by decide) rfl (fun hc106 => ?_) (fun hc106 => ?_)
    · replace h := it_t hc106 h
      refine j_iconst 66 C dX6_fewest_65 ic_1 rfl ?_
      refine j_istore 68 C dX6_fewest_66 (lo' := [(4, .int (1 : Int32)), (0, .ref (gm g 0)), (1, .int x1), (2, .int v2), (3, .int v3)]) (by decide) rfl rfl ?_
      refine j_sub [1, 3, 4, 0] (lo' := [(0, .ref (gm g 0)), (2, .int v2), (3, .int v3), (4, .int (1 : Int32))]) rfl ?_
      exact wn_X6_fewest_68 C K M  4096 lay σ v2 v3 (1 : Int32) h
    · replace h := it_f hc106 h
      refine j_iload_n 32 C dX6_fewest_31 3 rfl rfl ?_
      refine j_aload_n 33 C dX6_fewest_32 0 rfl rfl ?_
      refine j_iload 35 C dX6_fewest_33 4 rfl rfl ?_
      refine j_iload_n 36 C dX6_fewest_35 1 rfl rfl ?_
      obtain ⟨σ107, r108, hF, h⟩ := bd_e h
      refine k_Vi 39 C K (c_X6_holds K.2.2.2 g A lay  hF) cp_X6_holds (rv_M) mw_1313 dX6_fewest_36 rfl rfl (Nat.le_of_ble_eq_true rfl) ⟨Nat.le_of_ble_eq_true rfl, Nat.le_of_ble_eq_true rfl⟩ ⟨Nat.le_of_ble_eq_true rfl, Nat.le_of_ble_eq_true rfl⟩ rfl (fun lay => ?_)
      refine j_if_eq 42 56 C dX6_fewest_39 (by decide) rfl (fun hc109 => ?_) (fun hc109 => ?_)
      · replace h := it_t hc109 h
        refine j_sub [0, 1, 2, 4] (lo' := [(0, .ref (gm g 0)), (1, .int x1), (2, .int v2), (4, .int v4)]) rfl ?_
        exact wn_X6_fewest_56 C K M ih22 lay σ107 v2 v4 v3 h
      · replace h := it_f hc109 h
        refine j_aload_n 43 C dX6_fewest_42 0 rfl rfl ?_
        refine j_iload 45 C dX6_fewest_43 4 rfl rfl ?_
        refine j_iload_n 46 C dX6_fewest_45 1 rfl rfl ?_
        obtain ⟨σ110, r111, hF, h⟩ := bd_e h
        refine k_Vi 49 C K (c_X6_holdsOnDisk K.2.2.2 g A lay  hF) cp_X6_holdsOnDisk (rv_M) mw_1309 dX6_fewest_46 rfl rfl (Nat.le_of_ble_eq_true rfl) ⟨Nat.le_of_ble_eq_true rfl, Nat.le_of_ble_eq_true rfl⟩ ⟨Nat.le_of_ble_eq_true rfl, Nat.le_of_ble_eq_true rfl⟩ rfl (fun lay => ?_)
        refine j_if_ne 52 56 C dX6_fewest_49 (by decide) rfl (fun hc112 => ?_) (fun hc112 => ?_)
        · replace h := it_f hc112 h
          refine j_sub [0, 1, 2, 4] (lo' := [(0, .ref (gm g 0)), (1, .int x1), (2, .int v2), (4, .int v4)]) rfl ?_
          exact wn_X6_fewest_56 C K M ih22 lay σ110 v2 v4 v3 h
        · replace h := it_t hc112 h
          refine j_iconst 53 C dX6_fewest_52 ic_1 rfl ?_
          refine j_goto 57 C dX6_fewest_53 (by decide) ?_
          refine j_sub [0, 1, 2, 4] (lo' := [(0, .ref (gm g 0)), (1, .int x1), (2, .int v2), (4, .int v4)]) rfl ?_
          exact wn_X6_fewest_57 C K M ih22 lay σ110 v2 v4 (1 : Int32) v3 h
set_option maxHeartbeats 4000000 in
set_option maxRecDepth 100000 in
theorem c_X6_fewest {l : Launch} (hst : l.stackTraces = false) (g : GG) (A : Nat → Prop) (lay : Nat → Nat) {σ : RS} {σ' : RS} {r : Int32} {x1 : Int32}  (h : F_X6_fewest σ x1 = some (σ', r)) : MI l yX6_fewest cX6_fewest 5 .int 3 67 0 0 [.ref (gm g 0), .int x1] (RH g A) g A lay σ σ' r := by
  unfold F_X6_fewest at h
  refine e_i (own := RX6) (lo := [(0, .ref (gm g 0)), (1, .int x1)]) hst (plainFor_of_name (by decide)) rfl rfl (Nat.le_of_ble_eq_true rfl) ?_
  intro p e s m args below meth c C K M
  refine j_aload_n 1 C dX6_fewest_0 0 rfl rfl ?_
  refine j_iload_n 2 C dX6_fewest_1 1 rfl rfl ?_
  refine j_iconst 3 C dX6_fewest_2 ic_0 rfl ?_
  obtain ⟨σ101, r102, hF, h⟩ := bd_e h
  refine k_Vi 6 C K (c_X6_holders K.2.2.2 g A lay  hF) cp_X6_holders (rv_M) mw_1305 dX6_fewest_3 rfl rfl (Nat.le_of_ble_eq_true rfl) ⟨Nat.le_of_ble_eq_true rfl, Nat.le_of_ble_eq_true rfl⟩ ⟨Nat.le_of_ble_eq_true rfl, Nat.le_of_ble_eq_true rfl⟩ rfl (fun lay => ?_)
  refine j_istore_n 7 C dX6_fewest_6 (lo' := [(2, .int r102), (0, .ref (gm g 0)), (1, .int x1)]) (by decide) rfl rfl ?_
  refine j_aload_n 8 C dX6_fewest_7 1 rfl rfl ?_
  refine j_iload_n 9 C dX6_fewest_8 0 rfl rfl ?_
  obtain ⟨σ103, r104, hF, h⟩ := bd_e h
  refine k_Vi 12 C K (c_X6_protects K.2.2.2 g A lay  hF) cp_X6_protects (rv_M) mw_1317 dX6_fewest_9 rfl rfl (Nat.le_of_ble_eq_true rfl) ⟨Nat.le_of_ble_eq_true rfl, Nat.le_of_ble_eq_true rfl⟩ ⟨Nat.le_of_ble_eq_true rfl, Nat.le_of_ble_eq_true rfl⟩ rfl (fun lay => ?_)
  refine j_if_ne 15 17 C dX6_fewest_12 (by decide) rfl (fun hc105 => ?_) (fun hc105 => ?_)
  · replace h := it_f hc105 h
    refine j_iconst 18 C dX6_fewest_17 ic_0 rfl ?_
    refine j_istore_n 19 C dX6_fewest_18 (lo' := [(3, .int (0 : Int32)), (2, .int r102), (0, .ref (gm g 0)), (1, .int x1)]) (by decide) rfl rfl ?_
    refine j_iconst 20 C dX6_fewest_19 ic_0 rfl ?_
    refine j_istore 22 C dX6_fewest_20 (lo' := [(4, .int (0 : Int32)), (3, .int (0 : Int32)), (2, .int r102), (0, .ref (gm g 0)), (1, .int x1)]) (by decide) rfl rfl ?_
    refine j_sub [3, 4, 2, 1, 0] (lo' := [(0, .ref (gm g 0)), (1, .int x1), (2, .int r102), (3, .int (0 : Int32)), (4, .int (0 : Int32))]) rfl ?_
    exact wn_X6_fewest_22 C K M  4096 lay σ103 r102 (0 : Int32) (0 : Int32) h
  · replace h := it_t hc105 h
    refine j_iconst 16 C dX6_fewest_15 ic_0 rfl ?_
    cases h
    exact x_i C M dX6_fewest_16
theorem cp_X6_leastLosses : CPv yX6_leastLosses cX6_leastLosses 2 (some .int) RX6 1 := ⟨mw_1350, mw_1351, mw_105, mw_1352, rfl, by decide, by decide, by decide +kernel⟩
set_option maxHeartbeats 4000000 in
set_option maxRecDepth 100000 in
theorem wn_X6_leastLosses_27 {l : Launch} {p : Program} {e : Env} {s : State} {m : MethodId} {args : Array Value} {below : List Frame} {meth : Method} {c : Code} {g : GG} {A : Nat → Prop} (C : KX p m c cX6_leastLosses 2 s args RX6) (K : KC l g A s) (M : KM meth (some .int)) {σ' : RS} {r : Int32} {x1 : Int32}     (lay : Nat → Nat) (σ : RS) (w0 : Int32)  (h : B_X6_leastLosses_27 x1 σ w0 = some (σ', r)) : JJ p l e (rmk 4 91 0 0) s m args below meth c (MQ below (va_Qi (fun (r0 : Int32) (u : RS) => r0 = r ∧ u = σ') (BC (RH g A)) A) args s 0 0 A) A 2 (RH g A lay σ) 0 0 27 [(0, .ref (gm g 0)), (1, .int x1)] [.int w0, .ref (gm g 0)] := by
  unfold B_X6_leastLosses_27 at h
  refine p_M 30 C K 0 (by decide) rs_0 rfl mw_963 rfl rfl dX6_leastLosses_27 rfl (fun σ106 eσ106 => ?_)
  replace h := lt_e h σ106 eσ106
  refine j_aload_n 31 C dX6_leastLosses_30 0 rfl rfl ?_
  refine g_M 34 C K 0 (by decide) mw_963 rfl dX6_leastLosses_31 rfl ?_
  refine j_if_le 37 41 C dX6_leastLosses_34 (by decide) rfl (fun hc107 => ?_) (fun hc107 => ?_)
  · replace h := it_t hc107 h
    refine j_aload_n 42 C dX6_leastLosses_41 0 rfl rfl ?_
    refine j_iload_n 43 C dX6_leastLosses_42 1 rfl rfl ?_
    obtain ⟨σ108, r109, hF, h⟩ := bd_e h
    refine k_Vi 46 C K (c_X6_fewest K.2.2.2 g A lay  hF) cp_X6_fewest (rv_M) mw_1353 dX6_leastLosses_43 rfl rfl (Nat.le_of_ble_eq_true rfl) ⟨Nat.le_of_ble_eq_true rfl, Nat.le_of_ble_eq_true rfl⟩ ⟨Nat.le_of_ble_eq_true rfl, Nat.le_of_ble_eq_true rfl⟩ rfl (fun lay => ?_)
    cases h
    exact x_i C M dX6_leastLosses_46
  · replace h := it_f hc107 h
    refine j_iconst 38 C dX6_leastLosses_37 ic_0 rfl ?_
    refine j_goto 46 C dX6_leastLosses_38 (by decide) ?_
    cases h
    exact x_i C M dX6_leastLosses_46
set_option maxHeartbeats 4000000 in
set_option maxRecDepth 100000 in
theorem c_X6_leastLosses {l : Launch} (hst : l.stackTraces = false) (g : GG) (A : Nat → Prop) (lay : Nat → Nat) {σ : RS} {σ' : RS} {r : Int32} {x1 : Int32}  (h : F_X6_leastLosses σ x1 = some (σ', r)) : MI l yX6_leastLosses cX6_leastLosses 2 .int 4 91 0 0 [.ref (gm g 0), .int x1] (RH g A) g A lay σ σ' r := by
  unfold F_X6_leastLosses at h
  refine e_i (own := RX6) (lo := [(0, .ref (gm g 0)), (1, .int x1)]) hst (plainFor_of_name (by decide)) rfl rfl (Nat.le_of_ble_eq_true rfl) ?_
  intro p e s m args below meth c C K M
  refine j_aload_n 1 C dX6_leastLosses_0 0 rfl rfl ?_
  refine j_aload_n 2 C dX6_leastLosses_1 0 rfl rfl ?_
  refine j_iload_n 3 C dX6_leastLosses_2 1 rfl rfl ?_
  obtain ⟨σ101, r102, hF, h⟩ := bd_e h
  refine k_Vi 6 C K (c_X6_isSlot K.2.2.2 g A lay  hF) cp_X6_isSlot (rv_M) mw_1141 dX6_leastLosses_3 rfl rfl (Nat.le_of_ble_eq_true rfl) ⟨Nat.le_of_ble_eq_true rfl, Nat.le_of_ble_eq_true rfl⟩ ⟨Nat.le_of_ble_eq_true rfl, Nat.le_of_ble_eq_true rfl⟩ rfl (fun lay => ?_)
  refine j_if_ne 9 13 C dX6_leastLosses_6 (by decide) rfl (fun hc103 => ?_) (fun hc103 => ?_)
  · replace h := it_f hc103 h
    refine j_aload_n 14 C dX6_leastLosses_13 0 rfl rfl ?_
    refine g_M 17 C K 20 (by decide) mw_983 rfl dX6_leastLosses_14 rfl ?_
    refine j_iload_n 18 C dX6_leastLosses_17 1 rfl rfl ?_
    obtain ⟨hz104, h⟩ := gd_e h
    refine m_ild 19 C K ra_20 hz104 dX6_leastLosses_18 rfl ?_
    refine j_if_le 22 26 C dX6_leastLosses_19 (by decide) rfl (fun hc105 => ?_) (fun hc105 => ?_)
    · replace h := it_t hc105 h
      refine j_iconst 27 C dX6_leastLosses_26 ic_2 rfl ?_
      exact wn_X6_leastLosses_27 C K M  lay σ101 (2 : Int32) h
    · replace h := it_f hc105 h
      refine j_iconst 23 C dX6_leastLosses_22 ic_0 rfl ?_
      refine j_goto 27 C dX6_leastLosses_23 (by decide) ?_
      exact wn_X6_leastLosses_27 C K M  lay σ101 (0 : Int32) h
  · replace h := it_t hc103 h
    refine j_iconst 10 C dX6_leastLosses_9 ic_1 rfl ?_
    refine j_goto 27 C dX6_leastLosses_10 (by decide) ?_
    exact wn_X6_leastLosses_27 C K M  lay σ101 (1 : Int32) h
theorem cp_Jxf58ca_isNaN_12338 : CPs yJxf58ca_isNaN_12338 cJxf58ca_isNaN_12338 1 (some .boolean) 1 := ⟨mw_1369, mw_115, mw_1370, by decide, by decide, by decide +kernel⟩
set_option maxHeartbeats 4000000 in
set_option maxRecDepth 100000 in
theorem c_Jxf58ca_isNaN_12338 {l : Launch} (hst : l.stackTraces = false) (g : GG) (A : Nat → Prop) (lay : Nat → Nat) {σ : RS} {σ' : RS} {r : Int32} {f0 : UInt32}  (h : F_Jxf58ca_isNaN_12338 σ f0 = some (σ', r)) : MI l yJxf58ca_isNaN_12338 cJxf58ca_isNaN_12338 1 .boolean 0 0 0 0 [.float f0] (RH g A) g A lay σ σ' r := by
  unfold F_Jxf58ca_isNaN_12338 at h
  refine e_i (own := RJxf58ca) (lo := [(0, .float f0)]) hst (by decide +kernel) rfl rfl (Nat.le_of_ble_eq_true rfl) ?_
  intro p e s m args below meth c C K M
  refine j_fload_n 1 C dJxf58ca_isNaN_12338_0 0 rfl rfl ?_
  refine j_fload_n 2 C dJxf58ca_isNaN_12338_1 0 rfl rfl ?_
  refine j_fcmp 3 C dJxf58ca_isNaN_12338_2 rfl ?_
  refine j_if_eq 6 10 C dJxf58ca_isNaN_12338_3 (by decide) rfl (fun hc101 => ?_) (fun hc101 => ?_)
  · replace h := it_t hc101 h
    refine j_iconst 11 C dJxf58ca_isNaN_12338_10 ic_0 rfl ?_
    cases h
    exact x_z C M dJxf58ca_isNaN_12338_11 (by decide)
  · replace h := it_f hc101 h
    refine j_iconst 7 C dJxf58ca_isNaN_12338_6 ic_1 rfl ?_
    refine j_goto 11 C dJxf58ca_isNaN_12338_7 (by decide) ?_
    cases h
    exact x_z C M dJxf58ca_isNaN_12338_11 (by decide)
theorem cp_Jxf58ca_floatToIntBits_5c35a : CPs yJxf58ca_floatToIntBits_5c35a cJxf58ca_floatToIntBits_5c35a 1 (some .int) 1 := ⟨mw_1366, mw_115, mw_1367, by decide, by decide, by decide +kernel⟩
set_option maxHeartbeats 4000000 in
set_option maxRecDepth 100000 in
theorem c_Jxf58ca_floatToIntBits_5c35a {l : Launch} (hst : l.stackTraces = false) (g : GG) (A : Nat → Prop) (lay : Nat → Nat) {σ : RS} {σ' : RS} {r : Int32} {f0 : UInt32}  (h : F_Jxf58ca_floatToIntBits_5c35a σ f0 = some (σ', r)) : MI l yJxf58ca_floatToIntBits_5c35a cJxf58ca_floatToIntBits_5c35a 1 .int 1 30 0 0 [.float f0] (RH g A) g A lay σ σ' r := by
  unfold F_Jxf58ca_floatToIntBits_5c35a at h
  refine e_i (own := RJxf58ca) (lo := [(0, .float f0)]) hst (by decide +kernel) rfl rfl (Nat.le_of_ble_eq_true rfl) ?_
  intro p e s m args below meth c C K M
  refine j_fload_n 1 C dJxf58ca_floatToIntBits_5c35a_0 0 rfl rfl ?_
  obtain ⟨σ101, r102, hF, h⟩ := bd_e h
  refine k_Si 4 C K (c_Jxf58ca_isNaN_12338 K.2.2.2 g A lay  hF) cp_Jxf58ca_isNaN_12338 mw_1368 dJxf58ca_floatToIntBits_5c35a_1 rfl rfl (Nat.le_of_ble_eq_true rfl) ⟨Nat.le_of_ble_eq_true rfl, Nat.le_of_ble_eq_true rfl⟩ ⟨Nat.le_of_ble_eq_true rfl, Nat.le_of_ble_eq_true rfl⟩ rfl (fun lay => ?_)
  refine j_if_ne 7 12 C dJxf58ca_floatToIntBits_5c35a_4 (by decide) rfl (fun hc103 => ?_) (fun hc103 => ?_)
  · replace h := it_f hc103 h
    refine j_ldc 14 C dJxf58ca_floatToIntBits_5c35a_12 mw_1374 rfl ?_
    cases h
    exact x_i C M dJxf58ca_floatToIntBits_5c35a_14
  · replace h := it_t hc103 h
    refine j_fload_n 8 C dJxf58ca_floatToIntBits_5c35a_7 0 rfl rfl ?_
    refine j_rawf2i 11 C mw_1371 dJxf58ca_floatToIntBits_5c35a_8 (Nat.le_of_ble_eq_true rfl) (Nat.le_of_ble_eq_true rfl) rfl ?_
    cases h
    exact x_i C M dJxf58ca_floatToIntBits_5c35a_11
theorem cp_X6_answeredNow : CPv yX6_answeredNow cX6_answeredNow 1 (some .int) RX6 0 := ⟨mw_1363, mw_93, mw_105, mw_1364, rfl, by decide, by decide, by decide +kernel⟩
set_option maxHeartbeats 4000000 in
set_option maxRecDepth 100000 in
theorem wn_X6_answeredNow_22 {l : Launch} {p : Program} {e : Env} {s : State} {m : MethodId} {args : Array Value} {below : List Frame} {meth : Method} {c : Code} {g : GG} {A : Nat → Prop} (C : KX p m c cX6_answeredNow 1 s args RX6) (K : KC l g A s) (M : KM meth (some .int)) {σ' : RS} {r : Int32}      (lay : Nat → Nat) (σ : RS) (w0 : UInt32)  (h : B_X6_answeredNow_22  σ w0 = some (σ', r)) : JJ p l e (rmk 2 50 0 0) s m args below meth c (MQ below (va_Qi (fun (r0 : Int32) (u : RS) => r0 = r ∧ u = σ') (BC (RH g A)) A) args s 0 0 A) A 1 (RH g A lay σ) 0 0 22 [] [.float w0] := by
  unfold B_X6_answeredNow_22 at h
  obtain ⟨σ103, r104, hF, h⟩ := bd_e h
  refine k_Si 25 C K (c_Jxf58ca_floatToIntBits_5c35a K.2.2.2 g A lay  hF) cp_Jxf58ca_floatToIntBits_5c35a mw_1365 dX6_answeredNow_22 rfl rfl (Nat.le_of_ble_eq_true rfl) ⟨Nat.le_of_ble_eq_true rfl, Nat.le_of_ble_eq_true rfl⟩ ⟨Nat.le_of_ble_eq_true rfl, Nat.le_of_ble_eq_true rfl⟩ rfl (fun lay => ?_)
  cases h
  exact x_i C M dX6_answeredNow_25
set_option maxHeartbeats 4000000 in
set_option maxRecDepth 100000 in
theorem c_X6_answeredNow {l : Launch} (hst : l.stackTraces = false) (g : GG) (A : Nat → Prop) (lay : Nat → Nat) {σ : RS} {σ' : RS} {r : Int32}   (h : F_X6_answeredNow σ  = some (σ', r)) : MI l yX6_answeredNow cX6_answeredNow 1 .int 2 50 0 0 [.ref (gm g 0)] (RH g A) g A lay σ σ' r := by
  unfold F_X6_answeredNow at h
  refine e_i (own := RX6) (lo := [(0, .ref (gm g 0))]) hst (plainFor_of_name (by decide)) rfl rfl (Nat.le_of_ble_eq_true rfl) ?_
  intro p e s m args below meth c C K M
  refine j_aload_n 1 C dX6_answeredNow_0 0 rfl rfl ?_
  refine g_M 4 C K 24 (by decide) mw_987 rfl dX6_answeredNow_1 rfl ?_
  refine j_if_ne 7 11 C dX6_answeredNow_4 (by decide) rfl (fun hc101 => ?_) (fun hc101 => ?_)
  · replace h := it_f hc101 h
    refine j_aload_n 12 C dX6_answeredNow_11 0 rfl rfl ?_
    refine g_M 15 C K 25 (by decide) mw_988 rfl dX6_answeredNow_12 rfl ?_
    refine j_i2f 16 C dX6_answeredNow_15 rfl ?_
    refine j_aload_n 17 C dX6_answeredNow_16 0 rfl rfl ?_
    refine g_M 20 C K 24 (by decide) mw_987 rfl dX6_answeredNow_17 rfl ?_
    refine j_i2f 21 C dX6_answeredNow_20 rfl ?_
    obtain ⟨hz102, h⟩ := gd_e h
    refine j_fdiv 22 C dX6_answeredNow_21 (fok_n hz102) rfl ?_
    refine j_sub [] (lo' := []) rfl ?_
    exact wn_X6_answeredNow_22 C K M  lay σ (FP.fdiv (FP.i2f (σ.1 25 0)) (FP.i2f (σ.1 24 0))) h
  · replace h := it_t hc101 h
    refine j_fconst1 8 C dX6_answeredNow_7 rfl ?_
    refine j_goto 22 C dX6_answeredNow_8 (by decide) ?_
    refine j_sub [] (lo' := []) rfl ?_
    exact wn_X6_answeredNow_22 C K M  lay σ (FP.fconst1) h
theorem cp_X6_answered : CPv yX6_answered cX6_answered 1 (some .int) RX6 0 := ⟨mw_1358, mw_1359, mw_105, mw_1360, rfl, by decide, by decide, by decide +kernel⟩
set_option maxHeartbeats 4000000 in
set_option maxRecDepth 100000 in
theorem c_X6_answered {l : Launch} (hst : l.stackTraces = false) (g : GG) (A : Nat → Prop) (lay : Nat → Nat) {σ : RS} {σ' : RS} {r : Int32}   (h : F_X6_answered σ  = some (σ', r)) : MI l yX6_answered cX6_answered 1 .int 3 70 0 0 [.ref (gm g 0)] (RH g A) g A lay σ σ' r := by
  unfold F_X6_answered at h
  refine e_i (own := RX6) (lo := [(0, .ref (gm g 0))]) hst (plainFor_of_name (by decide)) rfl rfl (Nat.le_of_ble_eq_true rfl) ?_
  intro p e s m args below meth c C K M
  refine j_aload_n 1 C dX6_answered_0 0 rfl rfl ?_
  refine j_iconst 2 C dX6_answered_1 ic_0 rfl ?_
  refine p_M 5 C K 0 (by decide) rs_0 rfl mw_963 rfl rfl dX6_answered_2 rfl (fun σ101 eσ101 => ?_)
  replace h := lt_e h σ101 eσ101
  refine j_aload_n 6 C dX6_answered_5 0 rfl rfl ?_
  obtain ⟨σ102, r103, hF, h⟩ := bd_e h
  refine k_Vi 9 C K (c_X6_answeredNow K.2.2.2 g A lay  hF) cp_X6_answeredNow (rv_M) mw_1361 dX6_answered_6 rfl rfl (Nat.le_of_ble_eq_true rfl) ⟨Nat.le_of_ble_eq_true rfl, Nat.le_of_ble_eq_true rfl⟩ ⟨Nat.le_of_ble_eq_true rfl, Nat.le_of_ble_eq_true rfl⟩ rfl (fun lay => ?_)
  cases h
  exact x_i C M dX6_answered_9
theorem cp_X6_onDisksNow : CPv yX6_onDisksNow cX6_onDisksNow 4 (some .double) RX6 0 := ⟨mw_1381, mw_94, mw_105, mw_1382, rfl, by decide, by decide, by decide +kernel⟩
set_option maxHeartbeats 4000000 in
set_option maxRecDepth 100000 in
theorem wn_X6_onDisksNow_11 {l : Launch} {p : Program} {e : Env} {s : State} {m : MethodId} {args : Array Value} {below : List Frame} {meth : Method} {c : Code} {g : GG} {A : Nat → Prop} (C : KX p m c cX6_onDisksNow 4 s args RX6) (K : KC l g A s) (M : KM meth (some .double)) {σ' : RS} {r : UInt64}      : ∀ (fu : Nat) (lay : Nat → Nat) (σ : RS) (v1 : Int32) (v2 : Int32) (v3 : Int32), B_X6_onDisksNow_11  fu σ v1 v2 v3 = some (σ', r) → JJ p l e (rmk 3 67 0 0) s m args below meth c (MQ below (va_Qd (fun (r0 : UInt64) (u : RS) => r0 = r ∧ u = σ') (BC (RH g A)) A) args s 0 0 A) A 4 (RH g A lay σ) 0 0 11 [(0, .ref (gm g 0)), (1, .int v1), (2, .int v2), (3, .int v3)] [] := by
  intro fu
  induction fu with
  | zero =>
    intro lay σ v1 v2 v3 h
    exact nomatch (show (none : Option _) = some _ from h)
  | succ fu ih11 =>
    intro lay σ v1 v2 v3 h
    unfold B_X6_onDisksNow_11 at h
    rw [lo4_s] at h
    refine j_iload_n 12 C dX6_onDisksNow_11 3 rfl rfl ?_
    refine j_aload_n 13 C dX6_onDisksNow_12 0 rfl rfl ?_
    refine g_M 16 C K 2 (by decide) mw_965 rfl dX6_onDisksNow_13 rfl ?_
    refine j_icmp_ge 19 34 C dX6_onDisksNow_16 (by decide) rfl (fun hc103 => ?_) (fun hc103 => ?_)
    · replace h := it_t hc103 h
      refine j_iload_n 35 C dX6_onDisksNow_34 1 rfl rfl ?_
      refine j_if_ne 38 42 C dX6_onDisksNow_35 (by decide) rfl (fun hc104 => ?_) (fun hc104 => ?_)
      · replace h := it_f hc104 h
        refine j_iload_n 43 C dX6_onDisksNow_42 2 rfl rfl ?_
        refine j_i2d 44 C dX6_onDisksNow_43 rfl ?_
        refine j_iload_n 45 C dX6_onDisksNow_44 1 rfl rfl ?_
        refine j_aload_n 46 C dX6_onDisksNow_45 0 rfl rfl ?_
        refine g_M 49 C K 1 (by decide) mw_964 rfl dX6_onDisksNow_46 rfl ?_
        refine j_imul 50 C dX6_onDisksNow_49 rfl ?_
        refine j_i2d 51 C dX6_onDisksNow_50 rfl ?_
        obtain ⟨hz105, h⟩ := gd_e h
        refine j_ddiv 52 C dX6_onDisksNow_51 (dok_n hz105) rfl ?_
        cases h
        exact x_d C M dX6_onDisksNow_52
      · replace h := it_t hc104 h
        refine j_dconst0 39 C dX6_onDisksNow_38 rfl ?_
        refine j_goto 52 C dX6_onDisksNow_39 (by decide) ?_
        cases h
        exact x_d C M dX6_onDisksNow_52
    · replace h := it_f hc103 h
      refine j_iload_n 20 C dX6_onDisksNow_19 2 rfl rfl ?_
      refine j_aload_n 21 C dX6_onDisksNow_20 0 rfl rfl ?_
      refine j_iload_n 22 C dX6_onDisksNow_21 3 rfl rfl ?_
      refine j_iconst 23 C dX6_onDisksNow_22 ic_1 rfl ?_
      obtain ⟨σ106, r107, hF, h⟩ := bd_e h
      refine k_Vi 26 C K (c_X6_holders K.2.2.2 g A lay  hF) cp_X6_holders (rv_M) mw_1305 dX6_onDisksNow_23 rfl rfl (Nat.le_of_ble_eq_true rfl) ⟨Nat.le_of_ble_eq_true rfl, Nat.le_of_ble_eq_true rfl⟩ ⟨Nat.le_of_ble_eq_true rfl, Nat.le_of_ble_eq_true rfl⟩ rfl (fun lay => ?_)
      refine j_iadd 27 C dX6_onDisksNow_26 rfl ?_
      refine j_topi (fun x108 ex108 => ?_)
      replace h := lt_e h x108 ex108
      refine j_istore_n 28 C dX6_onDisksNow_27 (lo' := [(2, .int x108), (0, .ref (gm g 0)), (1, .int v1), (3, .int v3)]) (by decide) rfl rfl ?_
      obtain ⟨x109, ex109⟩ : ∃ z : Int32, z = v3 + 1 := ⟨_, rfl⟩
      replace h := lt_e h x109 ex109
      refine j_iinc 31 C dX6_onDisksNow_28 3 rfl (v := x109) ((ii_1 _).trans ex109.symm) (lo' := [(3, .int x109), (2, .int x108), (0, .ref (gm g 0)), (1, .int v1)]) (by decide) rfl rfl ?_
      refine j_goto 11 C dX6_onDisksNow_31 (by decide) ?_
      refine j_sub [2, 3, 1, 0] (lo' := [(0, .ref (gm g 0)), (1, .int v1), (2, .int x108), (3, .int x109)]) rfl ?_
      exact ih11 lay σ106 v1 x108 x109 h
set_option maxHeartbeats 4000000 in
set_option maxRecDepth 100000 in
theorem c_X6_onDisksNow {l : Launch} (hst : l.stackTraces = false) (g : GG) (A : Nat → Prop) (lay : Nat → Nat) {σ : RS} {σ' : RS} {r : UInt64}   (h : F_X6_onDisksNow σ  = some (σ', r)) : MD l yX6_onDisksNow cX6_onDisksNow 4 3 67 0 0 [.ref (gm g 0)] (RH g A) g A lay σ σ' r := by
  unfold F_X6_onDisksNow at h
  refine e_d (own := RX6) (lo := [(0, .ref (gm g 0))]) hst (plainFor_of_name (by decide)) rfl rfl (Nat.le_of_ble_eq_true rfl) ?_
  intro p e s m args below meth c C K M
  refine j_aload_n 1 C dX6_onDisksNow_0 0 rfl rfl ?_
  refine j_bipush 3 C dX6_onDisksNow_1 bp_6 rfl ?_
  obtain ⟨σ101, r102, hF, h⟩ := bd_e h
  refine k_Vi 6 C K (c_X6_counted K.2.2.2 g A lay  hF) cp_X6_counted (rv_M) mw_1269 dX6_onDisksNow_3 rfl rfl (Nat.le_of_ble_eq_true rfl) ⟨Nat.le_of_ble_eq_true rfl, Nat.le_of_ble_eq_true rfl⟩ ⟨Nat.le_of_ble_eq_true rfl, Nat.le_of_ble_eq_true rfl⟩ rfl (fun lay => ?_)
  refine j_istore_n 7 C dX6_onDisksNow_6 (lo' := [(1, .int r102), (0, .ref (gm g 0))]) (by decide) rfl rfl ?_
  refine j_iconst 8 C dX6_onDisksNow_7 ic_0 rfl ?_
  refine j_istore_n 9 C dX6_onDisksNow_8 (lo' := [(2, .int (0 : Int32)), (1, .int r102), (0, .ref (gm g 0))]) (by decide) rfl rfl ?_
  refine j_iconst 10 C dX6_onDisksNow_9 ic_0 rfl ?_
  refine j_istore_n 11 C dX6_onDisksNow_10 (lo' := [(3, .int (0 : Int32)), (2, .int (0 : Int32)), (1, .int r102), (0, .ref (gm g 0))]) (by decide) rfl rfl ?_
  refine j_sub [3, 2, 1, 0] (lo' := [(0, .ref (gm g 0)), (1, .int r102), (2, .int (0 : Int32)), (3, .int (0 : Int32))]) rfl ?_
  exact wn_X6_onDisksNow_11 C K M  4096 lay σ101 r102 (0 : Int32) (0 : Int32) h
theorem cp_X6_onDisks : CPv yX6_onDisks cX6_onDisks 1 (some .double) RX6 0 := ⟨mw_1376, mw_1377, mw_105, mw_1378, rfl, by decide, by decide, by decide +kernel⟩
set_option maxHeartbeats 4000000 in
set_option maxRecDepth 100000 in
theorem c_X6_onDisks {l : Launch} (hst : l.stackTraces = false) (g : GG) (A : Nat → Prop) (lay : Nat → Nat) {σ : RS} {σ' : RS} {r : UInt64}   (h : F_X6_onDisks σ  = some (σ', r)) : MD l yX6_onDisks cX6_onDisks 1 4 90 0 0 [.ref (gm g 0)] (RH g A) g A lay σ σ' r := by
  unfold F_X6_onDisks at h
  refine e_d (own := RX6) (lo := [(0, .ref (gm g 0))]) hst (plainFor_of_name (by decide)) rfl rfl (Nat.le_of_ble_eq_true rfl) ?_
  intro p e s m args below meth c C K M
  refine j_aload_n 1 C dX6_onDisks_0 0 rfl rfl ?_
  refine j_iconst 2 C dX6_onDisks_1 ic_0 rfl ?_
  refine p_M 5 C K 0 (by decide) rs_0 rfl mw_963 rfl rfl dX6_onDisks_2 rfl (fun σ101 eσ101 => ?_)
  replace h := lt_e h σ101 eσ101
  refine j_aload_n 6 C dX6_onDisks_5 0 rfl rfl ?_
  obtain ⟨σ102, r103, hF, h⟩ := bd_e h
  refine k_Vd 9 C K (c_X6_onDisksNow K.2.2.2 g A lay  hF) cp_X6_onDisksNow (rv_M) mw_1379 dX6_onDisks_6 rfl rfl (Nat.le_of_ble_eq_true rfl) ⟨Nat.le_of_ble_eq_true rfl, Nat.le_of_ble_eq_true rfl⟩ ⟨Nat.le_of_ble_eq_true rfl, Nat.le_of_ble_eq_true rfl⟩ rfl (fun lay => ?_)
  cases h
  exact x_d C M dX6_onDisks_9
theorem cp_X6_mix : CPv yX6_mix cX6_mix 3 none RX6 1 := ⟨mw_1390, mw_95, mw_105, mw_1391, rfl, by decide, by decide, by decide +kernel⟩
set_option maxHeartbeats 4000000 in
set_option maxRecDepth 100000 in
theorem c_X6_mix {l : Launch} (hst : l.stackTraces = false) (g : GG) (A : Nat → Prop) (lay : Nat → Nat) {σ : RS} {σ' : RS} {r : Unit} {y1 : Int64}  (h : F_X6_mix σ y1 = some (σ', r)) : MV l yX6_mix cX6_mix 3 0 0 0 0 [.ref (gm g 0), .long y1] (RH g A) g A lay σ σ' := by
  unfold F_X6_mix at h
  refine e_v (own := RX6) (lo := [(0, .ref (gm g 0)), (1, .long y1)]) hst (plainFor_of_name (by decide)) rfl rfl (Nat.le_of_ble_eq_true rfl) ?_
  intro p e s m args below meth c C K M
  refine j_aload_n 1 C dX6_mix_0 0 rfl rfl ?_
  refine j_ldc2 4 C dX6_mix_1 mw_1392 rfl ?_
  refine j_aload_n 5 C dX6_mix_4 0 rfl rfl ?_
  refine g_M 8 C K 34 (by decide) mw_997 rfl dX6_mix_5 rfl ?_
  refine j_lmul 9 C dX6_mix_8 rfl ?_
  refine j_lload_n 10 C dX6_mix_9 1 rfl rfl ?_
  refine j_ladd 11 C dX6_mix_10 rfl ?_
  refine p_Mh 14 C K mw_997 dX6_mix_11 rfl (fun σ101 eσ101 => ?_)
  replace h := lt_e h σ101 eσ101
  cases h
  exact x_v C M dX6_mix_14
theorem cp_X6_mixNode : CPv yX6_mixNode cX6_mixNode 3 none RX6 1 := ⟨mw_1395, mw_96, mw_105, mw_1396, rfl, by decide, by decide, by decide +kernel⟩
set_option maxHeartbeats 4000000 in
set_option maxRecDepth 100000 in
theorem wn_X6_mixNode_107 {l : Launch} {p : Program} {e : Env} {s : State} {m : MethodId} {args : Array Value} {below : List Frame} {meth : Method} {c : Code} {g : GG} {A : Nat → Prop} (C : KX p m c cX6_mixNode 3 s args RX6) (K : KC l g A s) (M : KM meth none) {σ' : RS} {r : Unit} {x1 : Int32}     : ∀ (fu : Nat) (lay : Nat → Nat) (σ : RS) (v2 : Int32), B_X6_mixNode_107 x1 fu σ v2 = some (σ', r) → JJ p l e (rmk 6 138 0 0) s m args below meth c (MQ below (va_Qv (fun u : RS => u = σ') (BC (RH g A)) A) args s 0 0 A) A 3 (RH g A lay σ) 0 0 107 [(0, .ref (gm g 0)), (1, .int x1), (2, .int v2)] [] := by
  intro fu
  induction fu with
  | zero =>
    intro lay σ v2 h
    exact nomatch (show (none : Option _) = some _ from h)
  | succ fu ih107 =>
    intro lay σ v2 h
    unfold B_X6_mixNode_107 at h
    rw [lo2_s] at h
    refine j_iload_n 108 C dX6_mixNode_107 2 rfl rfl ?_
    refine j_aload_n 109 C dX6_mixNode_108 0 rfl rfl ?_
    refine g_M 112 C K 2 (by decide) mw_965 rfl dX6_mixNode_109 rfl ?_
    refine j_icmp_ge 115 146 C dX6_mixNode_112 (by decide) rfl (fun hc124 => ?_) (fun hc124 => ?_)
    · replace h := it_t hc124 h
      cases h
      exact x_v C M dX6_mixNode_146
    · replace h := it_f hc124 h
      refine j_aload_n 116 C dX6_mixNode_115 0 rfl rfl ?_
      refine g_M 119 C K 18 (by decide) mw_981 rfl dX6_mixNode_116 rfl ?_
      refine j_iload_n 120 C dX6_mixNode_119 1 rfl rfl ?_
      obtain ⟨hz125, h⟩ := gd_e h
      refine m_ild 121 C K ra_18 hz125 dX6_mixNode_120 rfl ?_
      refine j_iconst 122 C dX6_mixNode_121 ic_m1 rfl ?_
      refine j_icmp_eq 125 146 C dX6_mixNode_122 (by decide) rfl (fun hc126 => ?_) (fun hc126 => ?_)
      · replace h := it_t hc126 h
        cases h
        exact x_v C M dX6_mixNode_146
      · replace h := it_f hc126 h
        refine j_aload_n 126 C dX6_mixNode_125 0 rfl rfl ?_
        refine j_aload_n 127 C dX6_mixNode_126 0 rfl rfl ?_
        refine g_M 130 C K 19 (by decide) mw_982 rfl dX6_mixNode_127 rfl ?_
        refine j_iload_n 131 C dX6_mixNode_130 1 rfl rfl ?_
        refine j_iload_n 132 C dX6_mixNode_131 2 rfl rfl ?_
        obtain ⟨σ127, r128, hF, h⟩ := bd_e h
        refine k_Si 135 C K (c_X6_at K.2.2.2 g A lay  hF) cp_X6_at mw_956 dX6_mixNode_132 rfl rfl (Nat.le_of_ble_eq_true rfl) ⟨Nat.le_of_ble_eq_true rfl, Nat.le_of_ble_eq_true rfl⟩ ⟨Nat.le_of_ble_eq_true rfl, Nat.le_of_ble_eq_true rfl⟩ rfl (fun lay => ?_)
        obtain ⟨hz129, h⟩ := gd_e h
        refine m_ild 136 C K ra_19 hz129 dX6_mixNode_135 rfl ?_
        refine j_i2l 137 C dX6_mixNode_136 rfl ?_
        obtain ⟨σ130, u131, hF, h⟩ := bd_e h
        refine k_Vv 140 C K (c_X6_mix K.2.2.2 g A lay  hF) cp_X6_mix (rv_M) mw_1388 dX6_mixNode_137 rfl rfl (Nat.le_of_ble_eq_true rfl) ⟨Nat.le_of_ble_eq_true rfl, Nat.le_of_ble_eq_true rfl⟩ ⟨Nat.le_of_ble_eq_true rfl, Nat.le_of_ble_eq_true rfl⟩ rfl (fun lay => ?_)
        obtain ⟨x132, ex132⟩ : ∃ z : Int32, z = v2 + 1 := ⟨_, rfl⟩
        replace h := lt_e h x132 ex132
        refine j_iinc 143 C dX6_mixNode_140 2 rfl (v := x132) ((ii_1 _).trans ex132.symm) (lo' := [(2, .int x132), (0, .ref (gm g 0)), (1, .int x1)]) (by decide) rfl rfl ?_
        refine j_goto 107 C dX6_mixNode_143 (by decide) ?_
        refine j_sub [1, 2, 0] (lo' := [(0, .ref (gm g 0)), (1, .int x1), (2, .int x132)]) rfl ?_
        exact ih107 lay σ130 x132 h
set_option maxHeartbeats 4000000 in
set_option maxRecDepth 100000 in
theorem wn_X6_mixNode_71 {l : Launch} {p : Program} {e : Env} {s : State} {m : MethodId} {args : Array Value} {below : List Frame} {meth : Method} {c : Code} {g : GG} {A : Nat → Prop} (C : KX p m c cX6_mixNode 3 s args RX6) (K : KC l g A s) (M : KM meth none) {σ' : RS} {r : Unit} {x1 : Int32}     : ∀ (fu : Nat) (lay : Nat → Nat) (σ : RS) (v2 : Int32), B_X6_mixNode_71 x1 fu σ v2 = some (σ', r) → JJ p l e (rmk 6 138 0 0) s m args below meth c (MQ below (va_Qv (fun u : RS => u = σ') (BC (RH g A)) A) args s 0 0 A) A 3 (RH g A lay σ) 0 0 71 [(0, .ref (gm g 0)), (1, .int x1), (2, .int v2)] [] := by
  intro fu
  induction fu with
  | zero =>
    intro lay σ v2 h
    exact nomatch (show (none : Option _) = some _ from h)
  | succ fu ih71 =>
    intro lay σ v2 h
    unfold B_X6_mixNode_71 at h
    rw [lo2_s] at h
    refine j_iload_n 72 C dX6_mixNode_71 2 rfl rfl ?_
    refine j_iconst 73 C dX6_mixNode_72 ic_3 rfl ?_
    refine j_aload_n 74 C dX6_mixNode_73 0 rfl rfl ?_
    refine g_M 77 C K 14 (by decide) mw_977 rfl dX6_mixNode_74 rfl ?_
    refine j_iload_n 78 C dX6_mixNode_77 1 rfl rfl ?_
    obtain ⟨hz117, h⟩ := gd_e h
    refine m_ild 79 C K ra_14 hz117 dX6_mixNode_78 rfl ?_
    refine j_imul 80 C dX6_mixNode_79 rfl ?_
    refine j_icmp_ge 83 105 C dX6_mixNode_80 (by decide) rfl (fun hc118 => ?_) (fun hc118 => ?_)
    · replace h := it_t hc118 h
      refine j_iconst 106 C dX6_mixNode_105 ic_0 rfl ?_
      refine j_istore_n 107 C dX6_mixNode_106 (lo' := [(2, .int (0 : Int32)), (0, .ref (gm g 0)), (1, .int x1)]) (by decide) rfl rfl ?_
      refine j_sub [1, 2, 0] (lo' := [(0, .ref (gm g 0)), (1, .int x1), (2, .int (0 : Int32))]) rfl ?_
      exact wn_X6_mixNode_107 C K M  4096 lay σ (0 : Int32) h
    · replace h := it_f hc118 h
      refine j_aload_n 84 C dX6_mixNode_83 0 rfl rfl ?_
      refine j_aload_n 85 C dX6_mixNode_84 0 rfl rfl ?_
      refine j_iload_n 86 C dX6_mixNode_85 1 rfl rfl ?_
      refine j_iload_n 87 C dX6_mixNode_86 2 rfl rfl ?_
      refine j_iconst 88 C dX6_mixNode_87 ic_3 rfl ?_
      refine j_idiv 89 C dX6_mixNode_88 (by decide) rfl ?_
      refine j_iload_n 90 C dX6_mixNode_89 2 rfl rfl ?_
      refine j_iconst 91 C dX6_mixNode_90 ic_3 rfl ?_
      refine j_irem 92 C dX6_mixNode_91 (by decide) rfl ?_
      obtain ⟨σ119, r120, hF, h⟩ := bd_e h
      refine k_Vi 95 C K (c_X6_waitingNow K.2.2.2 g A lay  hF) cp_X6_waitingNow (rv_M) mw_1293 dX6_mixNode_92 rfl rfl (Nat.le_of_ble_eq_true rfl) ⟨Nat.le_of_ble_eq_true rfl, Nat.le_of_ble_eq_true rfl⟩ ⟨Nat.le_of_ble_eq_true rfl, Nat.le_of_ble_eq_true rfl⟩ rfl (fun lay => ?_)
      refine j_i2l 96 C dX6_mixNode_95 rfl ?_
      obtain ⟨σ121, u122, hF, h⟩ := bd_e h
      refine k_Vv 99 C K (c_X6_mix K.2.2.2 g A lay  hF) cp_X6_mix (rv_M) mw_1388 dX6_mixNode_96 rfl rfl (Nat.le_of_ble_eq_true rfl) ⟨Nat.le_of_ble_eq_true rfl, Nat.le_of_ble_eq_true rfl⟩ ⟨Nat.le_of_ble_eq_true rfl, Nat.le_of_ble_eq_true rfl⟩ rfl (fun lay => ?_)
      obtain ⟨x123, ex123⟩ : ∃ z : Int32, z = v2 + 1 := ⟨_, rfl⟩
      replace h := lt_e h x123 ex123
      refine j_iinc 102 C dX6_mixNode_99 2 rfl (v := x123) ((ii_1 _).trans ex123.symm) (lo' := [(2, .int x123), (0, .ref (gm g 0)), (1, .int x1)]) (by decide) rfl rfl ?_
      refine j_goto 71 C dX6_mixNode_102 (by decide) ?_
      refine j_sub [1, 2, 0] (lo' := [(0, .ref (gm g 0)), (1, .int x1), (2, .int x123)]) rfl ?_
      exact ih71 lay σ121 x123 h
set_option maxHeartbeats 4000000 in
set_option maxRecDepth 100000 in
theorem wn_X6_mixNode_37 {l : Launch} {p : Program} {e : Env} {s : State} {m : MethodId} {args : Array Value} {below : List Frame} {meth : Method} {c : Code} {g : GG} {A : Nat → Prop} (C : KX p m c cX6_mixNode 3 s args RX6) (K : KC l g A s) (M : KM meth none) {σ' : RS} {r : Unit} {x1 : Int32}     : ∀ (fu : Nat) (lay : Nat → Nat) (σ : RS) (v2 : Int32), B_X6_mixNode_37 x1 fu σ v2 = some (σ', r) → JJ p l e (rmk 6 138 0 0) s m args below meth c (MQ below (va_Qv (fun u : RS => u = σ') (BC (RH g A)) A) args s 0 0 A) A 3 (RH g A lay σ) 0 0 37 [(0, .ref (gm g 0)), (1, .int x1), (2, .int v2)] [] := by
  intro fu
  induction fu with
  | zero =>
    intro lay σ v2 h
    exact nomatch (show (none : Option _) = some _ from h)
  | succ fu ih37 =>
    intro lay σ v2 h
    unfold B_X6_mixNode_37 at h
    rw [lo2_s] at h
    refine j_iload_n 38 C dX6_mixNode_37 2 rfl rfl ?_
    refine j_iconst 39 C dX6_mixNode_38 ic_4 rfl ?_
    refine j_aload_n 40 C dX6_mixNode_39 0 rfl rfl ?_
    refine g_M 43 C K 2 (by decide) mw_965 rfl dX6_mixNode_40 rfl ?_
    refine j_imul 44 C dX6_mixNode_43 rfl ?_
    refine j_icmp_ge 47 69 C dX6_mixNode_44 (by decide) rfl (fun hc111 => ?_) (fun hc111 => ?_)
    · replace h := it_t hc111 h
      refine j_iconst 70 C dX6_mixNode_69 ic_0 rfl ?_
      refine j_istore_n 71 C dX6_mixNode_70 (lo' := [(2, .int (0 : Int32)), (0, .ref (gm g 0)), (1, .int x1)]) (by decide) rfl rfl ?_
      refine j_sub [1, 2, 0] (lo' := [(0, .ref (gm g 0)), (1, .int x1), (2, .int (0 : Int32))]) rfl ?_
      exact wn_X6_mixNode_71 C K M  4096 lay σ (0 : Int32) h
    · replace h := it_f hc111 h
      refine j_aload_n 48 C dX6_mixNode_47 0 rfl rfl ?_
      refine j_aload_n 49 C dX6_mixNode_48 0 rfl rfl ?_
      refine j_iload_n 50 C dX6_mixNode_49 1 rfl rfl ?_
      refine j_iload_n 51 C dX6_mixNode_50 2 rfl rfl ?_
      refine j_iconst 52 C dX6_mixNode_51 ic_4 rfl ?_
      refine j_idiv 53 C dX6_mixNode_52 (by decide) rfl ?_
      refine j_iload_n 54 C dX6_mixNode_53 2 rfl rfl ?_
      refine j_iconst 55 C dX6_mixNode_54 ic_4 rfl ?_
      refine j_irem 56 C dX6_mixNode_55 (by decide) rfl ?_
      obtain ⟨σ112, r113, hF, h⟩ := bd_e h
      refine k_Vi 59 C K (c_X6_acceptedNow K.2.2.2 g A lay  hF) cp_X6_acceptedNow (rv_M) mw_1285 dX6_mixNode_56 rfl rfl (Nat.le_of_ble_eq_true rfl) ⟨Nat.le_of_ble_eq_true rfl, Nat.le_of_ble_eq_true rfl⟩ ⟨Nat.le_of_ble_eq_true rfl, Nat.le_of_ble_eq_true rfl⟩ rfl (fun lay => ?_)
      refine j_i2l 60 C dX6_mixNode_59 rfl ?_
      obtain ⟨σ114, u115, hF, h⟩ := bd_e h
      refine k_Vv 63 C K (c_X6_mix K.2.2.2 g A lay  hF) cp_X6_mix (rv_M) mw_1388 dX6_mixNode_60 rfl rfl (Nat.le_of_ble_eq_true rfl) ⟨Nat.le_of_ble_eq_true rfl, Nat.le_of_ble_eq_true rfl⟩ ⟨Nat.le_of_ble_eq_true rfl, Nat.le_of_ble_eq_true rfl⟩ rfl (fun lay => ?_)
      obtain ⟨x116, ex116⟩ : ∃ z : Int32, z = v2 + 1 := ⟨_, rfl⟩
      replace h := lt_e h x116 ex116
      refine j_iinc 66 C dX6_mixNode_63 2 rfl (v := x116) ((ii_1 _).trans ex116.symm) (lo' := [(2, .int x116), (0, .ref (gm g 0)), (1, .int x1)]) (by decide) rfl rfl ?_
      refine j_goto 37 C dX6_mixNode_66 (by decide) ?_
      refine j_sub [1, 2, 0] (lo' := [(0, .ref (gm g 0)), (1, .int x1), (2, .int x116)]) rfl ?_
      exact ih37 lay σ114 x116 h
set_option maxHeartbeats 4000000 in
set_option maxRecDepth 100000 in
theorem wn_X6_mixNode_2 {l : Launch} {p : Program} {e : Env} {s : State} {m : MethodId} {args : Array Value} {below : List Frame} {meth : Method} {c : Code} {g : GG} {A : Nat → Prop} (C : KX p m c cX6_mixNode 3 s args RX6) (K : KC l g A s) (M : KM meth none) {σ' : RS} {r : Unit} {x1 : Int32}     : ∀ (fu : Nat) (lay : Nat → Nat) (σ : RS) (v2 : Int32), B_X6_mixNode_2 x1 fu σ v2 = some (σ', r) → JJ p l e (rmk 6 138 0 0) s m args below meth c (MQ below (va_Qv (fun u : RS => u = σ') (BC (RH g A)) A) args s 0 0 A) A 3 (RH g A lay σ) 0 0 2 [(0, .ref (gm g 0)), (1, .int x1), (2, .int v2)] [] := by
  intro fu
  induction fu with
  | zero =>
    intro lay σ v2 h
    exact nomatch (show (none : Option _) = some _ from h)
  | succ fu ih2 =>
    intro lay σ v2 h
    unfold B_X6_mixNode_2 at h
    rw [lo2_s] at h
    refine j_iload_n 3 C dX6_mixNode_2 2 rfl rfl ?_
    refine j_bipush 5 C dX6_mixNode_3 bp_9 rfl ?_
    refine j_icmp_ge 8 25 C dX6_mixNode_5 (by decide) rfl (fun hc101 => ?_) (fun hc101 => ?_)
    · replace h := it_t hc101 h
      refine j_aload_n 26 C dX6_mixNode_25 0 rfl rfl ?_
      refine j_aload_n 27 C dX6_mixNode_26 0 rfl rfl ?_
      refine j_iload_n 28 C dX6_mixNode_27 1 rfl rfl ?_
      obtain ⟨σ102, r103, hF, h⟩ := bd_e h
      refine k_Vi 31 C K (c_X6_harmlessNow K.2.2.2 g A lay  hF) cp_X6_harmlessNow (rv_M) mw_1341 dX6_mixNode_28 rfl rfl (Nat.le_of_ble_eq_true rfl) ⟨Nat.le_of_ble_eq_true rfl, Nat.le_of_ble_eq_true rfl⟩ ⟨Nat.le_of_ble_eq_true rfl, Nat.le_of_ble_eq_true rfl⟩ rfl (fun lay => ?_)
      refine j_i2l 32 C dX6_mixNode_31 rfl ?_
      obtain ⟨σ104, u105, hF, h⟩ := bd_e h
      refine k_Vv 35 C K (c_X6_mix K.2.2.2 g A lay  hF) cp_X6_mix (rv_M) mw_1388 dX6_mixNode_32 rfl rfl (Nat.le_of_ble_eq_true rfl) ⟨Nat.le_of_ble_eq_true rfl, Nat.le_of_ble_eq_true rfl⟩ ⟨Nat.le_of_ble_eq_true rfl, Nat.le_of_ble_eq_true rfl⟩ rfl (fun lay => ?_)
      refine j_iconst 36 C dX6_mixNode_35 ic_0 rfl ?_
      refine j_istore_n 37 C dX6_mixNode_36 (lo' := [(2, .int (0 : Int32)), (0, .ref (gm g 0)), (1, .int x1)]) (by decide) rfl rfl ?_
      refine j_sub [1, 2, 0] (lo' := [(0, .ref (gm g 0)), (1, .int x1), (2, .int (0 : Int32))]) rfl ?_
      exact wn_X6_mixNode_37 C K M  4096 lay σ104 (0 : Int32) h
    · replace h := it_f hc101 h
      refine j_aload_n 9 C dX6_mixNode_8 0 rfl rfl ?_
      refine j_aload_n 10 C dX6_mixNode_9 0 rfl rfl ?_
      refine j_iload_n 11 C dX6_mixNode_10 1 rfl rfl ?_
      refine j_iload_n 12 C dX6_mixNode_11 2 rfl rfl ?_
      obtain ⟨σ106, r107, hF, h⟩ := bd_e h
      refine k_Vi 15 C K (c_X6_nodeNow K.2.2.2 g A lay  hF) cp_X6_nodeNow (rv_M) mw_1277 dX6_mixNode_12 rfl rfl (Nat.le_of_ble_eq_true rfl) ⟨Nat.le_of_ble_eq_true rfl, Nat.le_of_ble_eq_true rfl⟩ ⟨Nat.le_of_ble_eq_true rfl, Nat.le_of_ble_eq_true rfl⟩ rfl (fun lay => ?_)
      refine j_i2l 16 C dX6_mixNode_15 rfl ?_
      obtain ⟨σ108, u109, hF, h⟩ := bd_e h
      refine k_Vv 19 C K (c_X6_mix K.2.2.2 g A lay  hF) cp_X6_mix (rv_M) mw_1388 dX6_mixNode_16 rfl rfl (Nat.le_of_ble_eq_true rfl) ⟨Nat.le_of_ble_eq_true rfl, Nat.le_of_ble_eq_true rfl⟩ ⟨Nat.le_of_ble_eq_true rfl, Nat.le_of_ble_eq_true rfl⟩ rfl (fun lay => ?_)
      obtain ⟨x110, ex110⟩ : ∃ z : Int32, z = v2 + 1 := ⟨_, rfl⟩
      replace h := lt_e h x110 ex110
      refine j_iinc 22 C dX6_mixNode_19 2 rfl (v := x110) ((ii_1 _).trans ex110.symm) (lo' := [(2, .int x110), (0, .ref (gm g 0)), (1, .int x1)]) (by decide) rfl rfl ?_
      refine j_goto 2 C dX6_mixNode_22 (by decide) ?_
      refine j_sub [1, 2, 0] (lo' := [(0, .ref (gm g 0)), (1, .int x1), (2, .int x110)]) rfl ?_
      exact ih2 lay σ108 x110 h
set_option maxHeartbeats 4000000 in
set_option maxRecDepth 100000 in
theorem c_X6_mixNode {l : Launch} (hst : l.stackTraces = false) (g : GG) (A : Nat → Prop) (lay : Nat → Nat) {σ : RS} {σ' : RS} {r : Unit} {x1 : Int32}  (h : F_X6_mixNode σ x1 = some (σ', r)) : MV l yX6_mixNode cX6_mixNode 3 6 138 0 0 [.ref (gm g 0), .int x1] (RH g A) g A lay σ σ' := by
  unfold F_X6_mixNode at h
  refine e_v (own := RX6) (lo := [(0, .ref (gm g 0)), (1, .int x1)]) hst (plainFor_of_name (by decide)) rfl rfl (Nat.le_of_ble_eq_true rfl) ?_
  intro p e s m args below meth c C K M
  refine j_iconst 1 C dX6_mixNode_0 ic_0 rfl ?_
  refine j_istore_n 2 C dX6_mixNode_1 (lo' := [(2, .int (0 : Int32)), (0, .ref (gm g 0)), (1, .int x1)]) (by decide) rfl rfl ?_
  refine j_sub [1, 2, 0] (lo' := [(0, .ref (gm g 0)), (1, .int x1), (2, .int (0 : Int32))]) rfl ?_
  exact wn_X6_mixNode_2 C K M  4096 lay σ (0 : Int32) h
theorem cp_Jxe99ae_isNaN_b9ae7 : CPs yJxe99ae_isNaN_b9ae7 cJxe99ae_isNaN_b9ae7 2 (some .boolean) 1 := ⟨mw_1401, mw_116, mw_1402, by decide, by decide, by decide +kernel⟩
set_option maxHeartbeats 4000000 in
set_option maxRecDepth 100000 in
theorem c_Jxe99ae_isNaN_b9ae7 {l : Launch} (hst : l.stackTraces = false) (g : GG) (A : Nat → Prop) (lay : Nat → Nat) {σ : RS} {σ' : RS} {r : Int32} {d0 : UInt64}  (h : F_Jxe99ae_isNaN_b9ae7 σ d0 = some (σ', r)) : MI l yJxe99ae_isNaN_b9ae7 cJxe99ae_isNaN_b9ae7 2 .boolean 0 0 0 0 [.double d0] (RH g A) g A lay σ σ' r := by
  unfold F_Jxe99ae_isNaN_b9ae7 at h
  refine e_i (own := RJxe99ae) (lo := [(0, .double d0)]) hst (plainFor_of_name (by decide)) rfl rfl (Nat.le_of_ble_eq_true rfl) ?_
  intro p e s m args below meth c C K M
  refine j_dload_n 1 C dJxe99ae_isNaN_b9ae7_0 0 rfl rfl ?_
  refine j_dload_n 2 C dJxe99ae_isNaN_b9ae7_1 0 rfl rfl ?_
  refine j_dcmp 3 C dJxe99ae_isNaN_b9ae7_2 rfl ?_
  refine j_if_eq 6 10 C dJxe99ae_isNaN_b9ae7_3 (by decide) rfl (fun hc101 => ?_) (fun hc101 => ?_)
  · replace h := it_t hc101 h
    refine j_iconst 11 C dJxe99ae_isNaN_b9ae7_10 ic_0 rfl ?_
    cases h
    exact x_z C M dJxe99ae_isNaN_b9ae7_11 (by decide)
  · replace h := it_f hc101 h
    refine j_iconst 7 C dJxe99ae_isNaN_b9ae7_6 ic_1 rfl ?_
    refine j_goto 11 C dJxe99ae_isNaN_b9ae7_7 (by decide) ?_
    cases h
    exact x_z C M dJxe99ae_isNaN_b9ae7_11 (by decide)
theorem cp_Jxe99ae_doubleToLongBits_ccdee : CPs yJxe99ae_doubleToLongBits_ccdee cJxe99ae_doubleToLongBits_ccdee 2 (some .long) 1 := ⟨mw_1398, mw_116, mw_1399, by decide, by decide, by decide +kernel⟩
set_option maxHeartbeats 4000000 in
set_option maxRecDepth 100000 in
theorem c_Jxe99ae_doubleToLongBits_ccdee {l : Launch} (hst : l.stackTraces = false) (g : GG) (A : Nat → Prop) (lay : Nat → Nat) {σ : RS} {σ' : RS} {r : Int64} {d0 : UInt64}  (h : F_Jxe99ae_doubleToLongBits_ccdee σ d0 = some (σ', r)) : ML l yJxe99ae_doubleToLongBits_ccdee cJxe99ae_doubleToLongBits_ccdee 2 1 30 0 0 [.double d0] (RH g A) g A lay σ σ' r := by
  unfold F_Jxe99ae_doubleToLongBits_ccdee at h
  refine e_l (own := RJxe99ae) (lo := [(0, .double d0)]) hst (plainFor_of_name (by decide)) rfl rfl (Nat.le_of_ble_eq_true rfl) ?_
  intro p e s m args below meth c C K M
  refine j_dload_n 1 C dJxe99ae_doubleToLongBits_ccdee_0 0 rfl rfl ?_
  obtain ⟨σ101, r102, hF, h⟩ := bd_e h
  refine k_Si 4 C K (c_Jxe99ae_isNaN_b9ae7 K.2.2.2 g A lay  hF) cp_Jxe99ae_isNaN_b9ae7 mw_1400 dJxe99ae_doubleToLongBits_ccdee_1 rfl rfl (Nat.le_of_ble_eq_true rfl) ⟨Nat.le_of_ble_eq_true rfl, Nat.le_of_ble_eq_true rfl⟩ ⟨Nat.le_of_ble_eq_true rfl, Nat.le_of_ble_eq_true rfl⟩ rfl (fun lay => ?_)
  refine j_if_ne 7 12 C dJxe99ae_doubleToLongBits_ccdee_4 (by decide) rfl (fun hc103 => ?_) (fun hc103 => ?_)
  · replace h := it_f hc103 h
    refine j_ldc2 15 C dJxe99ae_doubleToLongBits_ccdee_12 mw_1406 rfl ?_
    cases h
    exact x_l C M dJxe99ae_doubleToLongBits_ccdee_15
  · replace h := it_t hc103 h
    refine j_dload_n 8 C dJxe99ae_doubleToLongBits_ccdee_7 0 rfl rfl ?_
    refine j_rawd2l 11 C mw_1403 dJxe99ae_doubleToLongBits_ccdee_8 (Nat.le_of_ble_eq_true rfl) (Nat.le_of_ble_eq_true rfl) rfl ?_
    cases h
    exact x_l C M dJxe99ae_doubleToLongBits_ccdee_11
theorem cp_X6_digest : CPv yX6_digest cX6_digest 2 (some .long) RX6 0 := ⟨mw_1384, mw_1385, mw_105, mw_1386, rfl, by decide, by decide, by decide +kernel⟩
set_option maxHeartbeats 4000000 in
set_option maxRecDepth 100000 in
theorem wn_X6_digest_124 {l : Launch} {p : Program} {e : Env} {s : State} {m : MethodId} {args : Array Value} {below : List Frame} {meth : Method} {c : Code} {g : GG} {A : Nat → Prop} (C : KX p m c cX6_digest 2 s args RX6) (K : KC l g A s) (M : KM meth (some .long)) {σ' : RS} {r : Int64}      : ∀ (fu : Nat) (lay : Nat → Nat) (σ : RS) (v1 : Int32), B_X6_digest_124  fu σ v1 = some (σ', r) → JJ p l e (rmk 7 160 0 0) s m args below meth c (MQ below (va_Ql (fun (r0 : Int64) (u : RS) => r0 = r ∧ u = σ') (BC (RH g A)) A) args s 0 0 A) A 2 (RH g A lay σ) 0 0 124 [(0, .ref (gm g 0)), (1, .int v1)] [] := by
  intro fu
  induction fu with
  | zero =>
    intro lay σ v1 h
    exact nomatch (show (none : Option _) = some _ from h)
  | succ fu ih124 =>
    intro lay σ v1 h
    unfold B_X6_digest_124 at h
    rw [lo2_s] at h
    refine j_iload_n 125 C dX6_digest_124 1 rfl rfl ?_
    refine j_aload_n 126 C dX6_digest_125 0 rfl rfl ?_
    refine g_M 129 C K 27 (by decide) mw_990 rfl dX6_digest_126 rfl ?_
    refine j_icmp_ge 132 149 C dX6_digest_129 (by decide) rfl (fun hc131 => ?_) (fun hc131 => ?_)
    · replace h := it_t hc131 h
      refine j_aload_n 150 C dX6_digest_149 0 rfl rfl ?_
      refine g_M 153 C K 34 (by decide) mw_997 rfl dX6_digest_150 rfl ?_
      cases h
      exact x_l C M dX6_digest_153
    · replace h := it_f hc131 h
      refine j_aload_n 133 C dX6_digest_132 0 rfl rfl ?_
      refine j_aload_n 134 C dX6_digest_133 0 rfl rfl ?_
      refine g_M 137 C K 28 (by decide) mw_991 rfl dX6_digest_134 rfl ?_
      refine j_iload_n 138 C dX6_digest_137 1 rfl rfl ?_
      obtain ⟨hz132, h⟩ := gd_e h
      refine m_ild 139 C K ra_28 hz132 dX6_digest_138 rfl ?_
      refine j_i2l 140 C dX6_digest_139 rfl ?_
      obtain ⟨σ133, u134, hF, h⟩ := bd_e h
      refine k_Vv 143 C K (c_X6_mix K.2.2.2 g A lay  hF) cp_X6_mix (rv_M) mw_1388 dX6_digest_140 rfl rfl (Nat.le_of_ble_eq_true rfl) ⟨Nat.le_of_ble_eq_true rfl, Nat.le_of_ble_eq_true rfl⟩ ⟨Nat.le_of_ble_eq_true rfl, Nat.le_of_ble_eq_true rfl⟩ rfl (fun lay => ?_)
      obtain ⟨x135, ex135⟩ : ∃ z : Int32, z = v1 + 1 := ⟨_, rfl⟩
      replace h := lt_e h x135 ex135
      refine j_iinc 146 C dX6_digest_143 1 rfl (v := x135) ((ii_1 _).trans ex135.symm) (lo' := [(1, .int x135), (0, .ref (gm g 0))]) (by decide) rfl rfl ?_
      refine j_goto 124 C dX6_digest_146 (by decide) ?_
      refine j_sub [1, 0] (lo' := [(0, .ref (gm g 0)), (1, .int x135)]) rfl ?_
      exact ih124 lay σ133 x135 h
set_option maxHeartbeats 4000000 in
set_option maxRecDepth 100000 in
theorem wn_X6_digest_59 {l : Launch} {p : Program} {e : Env} {s : State} {m : MethodId} {args : Array Value} {below : List Frame} {meth : Method} {c : Code} {g : GG} {A : Nat → Prop} (C : KX p m c cX6_digest 2 s args RX6) (K : KC l g A s) (M : KM meth (some .long)) {σ' : RS} {r : Int64}      : ∀ (fu : Nat) (lay : Nat → Nat) (σ : RS) (v1 : Int32), B_X6_digest_59  fu σ v1 = some (σ', r) → JJ p l e (rmk 7 160 0 0) s m args below meth c (MQ below (va_Ql (fun (r0 : Int64) (u : RS) => r0 = r ∧ u = σ') (BC (RH g A)) A) args s 0 0 A) A 2 (RH g A lay σ) 0 0 59 [(0, .ref (gm g 0)), (1, .int v1)] [] := by
  intro fu
  induction fu with
  | zero =>
    intro lay σ v1 h
    exact nomatch (show (none : Option _) = some _ from h)
  | succ fu ih59 =>
    intro lay σ v1 h
    unfold B_X6_digest_59 at h
    rw [lo2_s] at h
    refine j_iload_n 60 C dX6_digest_59 1 rfl rfl ?_
    refine j_bipush 62 C dX6_digest_60 bp_7 rfl ?_
    refine j_aload_n 63 C dX6_digest_62 0 rfl rfl ?_
    refine g_M 66 C K 2 (by decide) mw_965 rfl dX6_digest_63 rfl ?_
    refine j_imul 67 C dX6_digest_66 rfl ?_
    refine j_icmp_ge 70 93 C dX6_digest_67 (by decide) rfl (fun hc113 => ?_) (fun hc113 => ?_)
    · replace h := it_t hc113 h
      refine j_aload_n 94 C dX6_digest_93 0 rfl rfl ?_
      refine j_aload_n 95 C dX6_digest_94 0 rfl rfl ?_
      obtain ⟨σ114, r115, hF, h⟩ := bd_e h
      refine k_Vi 98 C K (c_X6_answeredNow K.2.2.2 g A lay  hF) cp_X6_answeredNow (rv_M) mw_1361 dX6_digest_95 rfl rfl (Nat.le_of_ble_eq_true rfl) ⟨Nat.le_of_ble_eq_true rfl, Nat.le_of_ble_eq_true rfl⟩ ⟨Nat.le_of_ble_eq_true rfl, Nat.le_of_ble_eq_true rfl⟩ rfl (fun lay => ?_)
      refine j_i2l 99 C dX6_digest_98 rfl ?_
      obtain ⟨σ116, u117, hF, h⟩ := bd_e h
      refine k_Vv 102 C K (c_X6_mix K.2.2.2 g A lay  hF) cp_X6_mix (rv_M) mw_1388 dX6_digest_99 rfl rfl (Nat.le_of_ble_eq_true rfl) ⟨Nat.le_of_ble_eq_true rfl, Nat.le_of_ble_eq_true rfl⟩ ⟨Nat.le_of_ble_eq_true rfl, Nat.le_of_ble_eq_true rfl⟩ rfl (fun lay => ?_)
      refine j_aload_n 103 C dX6_digest_102 0 rfl rfl ?_
      refine j_aload_n 104 C dX6_digest_103 0 rfl rfl ?_
      obtain ⟨σ118, r119, hF, h⟩ := bd_e h
      refine k_Vd 107 C K (c_X6_onDisksNow K.2.2.2 g A lay  hF) cp_X6_onDisksNow (rv_M) mw_1379 dX6_digest_104 rfl rfl (Nat.le_of_ble_eq_true rfl) ⟨Nat.le_of_ble_eq_true rfl, Nat.le_of_ble_eq_true rfl⟩ ⟨Nat.le_of_ble_eq_true rfl, Nat.le_of_ble_eq_true rfl⟩ rfl (fun lay => ?_)
      obtain ⟨σ120, r121, hF, h⟩ := bd_e h
      refine k_Sl 110 C K (c_Jxe99ae_doubleToLongBits_ccdee K.2.2.2 g A lay  hF) cp_Jxe99ae_doubleToLongBits_ccdee mw_1397 dX6_digest_107 rfl rfl (Nat.le_of_ble_eq_true rfl) ⟨Nat.le_of_ble_eq_true rfl, Nat.le_of_ble_eq_true rfl⟩ ⟨Nat.le_of_ble_eq_true rfl, Nat.le_of_ble_eq_true rfl⟩ rfl (fun lay => ?_)
      obtain ⟨σ122, u123, hF, h⟩ := bd_e h
      refine k_Vv 113 C K (c_X6_mix K.2.2.2 g A lay  hF) cp_X6_mix (rv_M) mw_1388 dX6_digest_110 rfl rfl (Nat.le_of_ble_eq_true rfl) ⟨Nat.le_of_ble_eq_true rfl, Nat.le_of_ble_eq_true rfl⟩ ⟨Nat.le_of_ble_eq_true rfl, Nat.le_of_ble_eq_true rfl⟩ rfl (fun lay => ?_)
      refine j_aload_n 114 C dX6_digest_113 0 rfl rfl ?_
      refine j_aload_n 115 C dX6_digest_114 0 rfl rfl ?_
      refine g_M 118 C K 27 (by decide) mw_990 rfl dX6_digest_115 rfl ?_
      refine j_i2l 119 C dX6_digest_118 rfl ?_
      obtain ⟨σ124, u125, hF, h⟩ := bd_e h
      refine k_Vv 122 C K (c_X6_mix K.2.2.2 g A lay  hF) cp_X6_mix (rv_M) mw_1388 dX6_digest_119 rfl rfl (Nat.le_of_ble_eq_true rfl) ⟨Nat.le_of_ble_eq_true rfl, Nat.le_of_ble_eq_true rfl⟩ ⟨Nat.le_of_ble_eq_true rfl, Nat.le_of_ble_eq_true rfl⟩ rfl (fun lay => ?_)
      refine j_iconst 123 C dX6_digest_122 ic_0 rfl ?_
      refine j_istore_n 124 C dX6_digest_123 (lo' := [(1, .int (0 : Int32)), (0, .ref (gm g 0))]) (by decide) rfl rfl ?_
      refine j_sub [1, 0] (lo' := [(0, .ref (gm g 0)), (1, .int (0 : Int32))]) rfl ?_
      exact wn_X6_digest_124 C K M  4096 lay σ124 (0 : Int32) h
    · replace h := it_f hc113 h
      refine j_aload_n 71 C dX6_digest_70 0 rfl rfl ?_
      refine j_aload_n 72 C dX6_digest_71 0 rfl rfl ?_
      refine j_iload_n 73 C dX6_digest_72 1 rfl rfl ?_
      refine j_bipush 75 C dX6_digest_73 bp_7 rfl ?_
      refine j_idiv 76 C dX6_digest_75 (by decide) rfl ?_
      refine j_iload_n 77 C dX6_digest_76 1 rfl rfl ?_
      refine j_bipush 79 C dX6_digest_77 bp_7 rfl ?_
      refine j_irem 80 C dX6_digest_79 (by decide) rfl ?_
      obtain ⟨σ126, r127, hF, h⟩ := bd_e h
      refine k_Vi 83 C K (c_X6_slotNow K.2.2.2 g A lay  hF) cp_X6_slotNow (rv_M) mw_1301 dX6_digest_80 rfl rfl (Nat.le_of_ble_eq_true rfl) ⟨Nat.le_of_ble_eq_true rfl, Nat.le_of_ble_eq_true rfl⟩ ⟨Nat.le_of_ble_eq_true rfl, Nat.le_of_ble_eq_true rfl⟩ rfl (fun lay => ?_)
      refine j_i2l 84 C dX6_digest_83 rfl ?_
      obtain ⟨σ128, u129, hF, h⟩ := bd_e h
      refine k_Vv 87 C K (c_X6_mix K.2.2.2 g A lay  hF) cp_X6_mix (rv_M) mw_1388 dX6_digest_84 rfl rfl (Nat.le_of_ble_eq_true rfl) ⟨Nat.le_of_ble_eq_true rfl, Nat.le_of_ble_eq_true rfl⟩ ⟨Nat.le_of_ble_eq_true rfl, Nat.le_of_ble_eq_true rfl⟩ rfl (fun lay => ?_)
      obtain ⟨x130, ex130⟩ : ∃ z : Int32, z = v1 + 1 := ⟨_, rfl⟩
      replace h := lt_e h x130 ex130
      refine j_iinc 90 C dX6_digest_87 1 rfl (v := x130) ((ii_1 _).trans ex130.symm) (lo' := [(1, .int x130), (0, .ref (gm g 0))]) (by decide) rfl rfl ?_
      refine j_goto 59 C dX6_digest_90 (by decide) ?_
      refine j_sub [1, 0] (lo' := [(0, .ref (gm g 0)), (1, .int x130)]) rfl ?_
      exact ih59 lay σ128 x130 h
set_option maxHeartbeats 4000000 in
set_option maxRecDepth 100000 in
theorem wn_X6_digest_38 {l : Launch} {p : Program} {e : Env} {s : State} {m : MethodId} {args : Array Value} {below : List Frame} {meth : Method} {c : Code} {g : GG} {A : Nat → Prop} (C : KX p m c cX6_digest 2 s args RX6) (K : KC l g A s) (M : KM meth (some .long)) {σ' : RS} {r : Int64}      : ∀ (fu : Nat) (lay : Nat → Nat) (σ : RS) (v1 : Int32), B_X6_digest_38  fu σ v1 = some (σ', r) → JJ p l e (rmk 7 160 0 0) s m args below meth c (MQ below (va_Ql (fun (r0 : Int64) (u : RS) => r0 = r ∧ u = σ') (BC (RH g A)) A) args s 0 0 A) A 2 (RH g A lay σ) 0 0 38 [(0, .ref (gm g 0)), (1, .int v1)] [] := by
  intro fu
  induction fu with
  | zero =>
    intro lay σ v1 h
    exact nomatch (show (none : Option _) = some _ from h)
  | succ fu ih38 =>
    intro lay σ v1 h
    unfold B_X6_digest_38 at h
    rw [lo2_s] at h
    refine j_iload_n 39 C dX6_digest_38 1 rfl rfl ?_
    refine j_aload_n 40 C dX6_digest_39 0 rfl rfl ?_
    refine g_M 43 C K 1 (by decide) mw_964 rfl dX6_digest_40 rfl ?_
    refine j_icmp_ge 46 57 C dX6_digest_43 (by decide) rfl (fun hc109 => ?_) (fun hc109 => ?_)
    · replace h := it_t hc109 h
      refine j_iconst 58 C dX6_digest_57 ic_0 rfl ?_
      refine j_istore_n 59 C dX6_digest_58 (lo' := [(1, .int (0 : Int32)), (0, .ref (gm g 0))]) (by decide) rfl rfl ?_
      refine j_sub [1, 0] (lo' := [(0, .ref (gm g 0)), (1, .int (0 : Int32))]) rfl ?_
      exact wn_X6_digest_59 C K M  4096 lay σ (0 : Int32) h
    · replace h := it_f hc109 h
      refine j_aload_n 47 C dX6_digest_46 0 rfl rfl ?_
      refine j_iload_n 48 C dX6_digest_47 1 rfl rfl ?_
      obtain ⟨σ110, u111, hF, h⟩ := bd_e h
      refine k_Vv 51 C K (c_X6_mixNode K.2.2.2 g A lay  hF) cp_X6_mixNode (rv_M) mw_1393 dX6_digest_48 rfl rfl (Nat.le_of_ble_eq_true rfl) ⟨Nat.le_of_ble_eq_true rfl, Nat.le_of_ble_eq_true rfl⟩ ⟨Nat.le_of_ble_eq_true rfl, Nat.le_of_ble_eq_true rfl⟩ rfl (fun lay => ?_)
      obtain ⟨x112, ex112⟩ : ∃ z : Int32, z = v1 + 1 := ⟨_, rfl⟩
      replace h := lt_e h x112 ex112
      refine j_iinc 54 C dX6_digest_51 1 rfl (v := x112) ((ii_1 _).trans ex112.symm) (lo' := [(1, .int x112), (0, .ref (gm g 0))]) (by decide) rfl rfl ?_
      refine j_goto 38 C dX6_digest_54 (by decide) ?_
      refine j_sub [1, 0] (lo' := [(0, .ref (gm g 0)), (1, .int x112)]) rfl ?_
      exact ih38 lay σ110 x112 h
set_option maxHeartbeats 4000000 in
set_option maxRecDepth 100000 in
theorem wn_X6_digest_14 {l : Launch} {p : Program} {e : Env} {s : State} {m : MethodId} {args : Array Value} {below : List Frame} {meth : Method} {c : Code} {g : GG} {A : Nat → Prop} (C : KX p m c cX6_digest 2 s args RX6) (K : KC l g A s) (M : KM meth (some .long)) {σ' : RS} {r : Int64}      : ∀ (fu : Nat) (lay : Nat → Nat) (σ : RS) (v1 : Int32), B_X6_digest_14  fu σ v1 = some (σ', r) → JJ p l e (rmk 7 160 0 0) s m args below meth c (MQ below (va_Ql (fun (r0 : Int64) (u : RS) => r0 = r ∧ u = σ') (BC (RH g A)) A) args s 0 0 A) A 2 (RH g A lay σ) 0 0 14 [(0, .ref (gm g 0)), (1, .int v1)] [] := by
  intro fu
  induction fu with
  | zero =>
    intro lay σ v1 h
    exact nomatch (show (none : Option _) = some _ from h)
  | succ fu ih14 =>
    intro lay σ v1 h
    unfold B_X6_digest_14 at h
    rw [lo2_s] at h
    refine j_iload_n 15 C dX6_digest_14 1 rfl rfl ?_
    refine j_bipush 17 C dX6_digest_15 bp_12 rfl ?_
    refine j_icmp_ge 20 36 C dX6_digest_17 (by decide) rfl (fun hc103 => ?_) (fun hc103 => ?_)
    · replace h := it_t hc103 h
      refine j_iconst 37 C dX6_digest_36 ic_0 rfl ?_
      refine j_istore_n 38 C dX6_digest_37 (lo' := [(1, .int (0 : Int32)), (0, .ref (gm g 0))]) (by decide) rfl rfl ?_
      refine j_sub [1, 0] (lo' := [(0, .ref (gm g 0)), (1, .int (0 : Int32))]) rfl ?_
      exact wn_X6_digest_38 C K M  4096 lay σ (0 : Int32) h
    · replace h := it_f hc103 h
      refine j_aload_n 21 C dX6_digest_20 0 rfl rfl ?_
      refine j_aload_n 22 C dX6_digest_21 0 rfl rfl ?_
      refine j_iload_n 23 C dX6_digest_22 1 rfl rfl ?_
      obtain ⟨σ104, r105, hF, h⟩ := bd_e h
      refine k_Vi 26 C K (c_X6_counted K.2.2.2 g A lay  hF) cp_X6_counted (rv_M) mw_1269 dX6_digest_23 rfl rfl (Nat.le_of_ble_eq_true rfl) ⟨Nat.le_of_ble_eq_true rfl, Nat.le_of_ble_eq_true rfl⟩ ⟨Nat.le_of_ble_eq_true rfl, Nat.le_of_ble_eq_true rfl⟩ rfl (fun lay => ?_)
      refine j_i2l 27 C dX6_digest_26 rfl ?_
      obtain ⟨σ106, u107, hF, h⟩ := bd_e h
      refine k_Vv 30 C K (c_X6_mix K.2.2.2 g A lay  hF) cp_X6_mix (rv_M) mw_1388 dX6_digest_27 rfl rfl (Nat.le_of_ble_eq_true rfl) ⟨Nat.le_of_ble_eq_true rfl, Nat.le_of_ble_eq_true rfl⟩ ⟨Nat.le_of_ble_eq_true rfl, Nat.le_of_ble_eq_true rfl⟩ rfl (fun lay => ?_)
      obtain ⟨x108, ex108⟩ : ∃ z : Int32, z = v1 + 1 := ⟨_, rfl⟩
      replace h := lt_e h x108 ex108
      refine j_iinc 33 C dX6_digest_30 1 rfl (v := x108) ((ii_1 _).trans ex108.symm) (lo' := [(1, .int x108), (0, .ref (gm g 0))]) (by decide) rfl rfl ?_
      refine j_goto 14 C dX6_digest_33 (by decide) ?_
      refine j_sub [1, 0] (lo' := [(0, .ref (gm g 0)), (1, .int x108)]) rfl ?_
      exact ih14 lay σ106 x108 h
set_option maxHeartbeats 4000000 in
set_option maxRecDepth 100000 in
theorem c_X6_digest {l : Launch} (hst : l.stackTraces = false) (g : GG) (A : Nat → Prop) (lay : Nat → Nat) {σ : RS} {σ' : RS} {r : Int64}   (h : F_X6_digest σ  = some (σ', r)) : ML l yX6_digest cX6_digest 2 7 160 0 0 [.ref (gm g 0)] (RH g A) g A lay σ σ' r := by
  unfold F_X6_digest at h
  refine e_l (own := RX6) (lo := [(0, .ref (gm g 0))]) hst (plainFor_of_name (by decide)) rfl rfl (Nat.le_of_ble_eq_true rfl) ?_
  intro p e s m args below meth c C K M
  refine j_aload_n 1 C dX6_digest_0 0 rfl rfl ?_
  refine j_iconst 2 C dX6_digest_1 ic_0 rfl ?_
  refine p_M 5 C K 0 (by decide) rs_0 rfl mw_963 rfl rfl dX6_digest_2 rfl (fun σ101 eσ101 => ?_)
  replace h := lt_e h σ101 eσ101
  refine j_aload_n 6 C dX6_digest_5 0 rfl rfl ?_
  refine j_ldc2 9 C dX6_digest_6 mw_1387 rfl ?_
  refine p_Mh 12 C K mw_997 dX6_digest_9 rfl (fun σ102 eσ102 => ?_)
  replace h := lt_e h σ102 eσ102
  refine j_iconst 13 C dX6_digest_12 ic_0 rfl ?_
  refine j_istore_n 14 C dX6_digest_13 (lo' := [(1, .int (0 : Int32)), (0, .ref (gm g 0))]) (by decide) rfl rfl ?_
  refine j_sub [1, 0] (lo' := [(0, .ref (gm g 0)), (1, .int (0 : Int32))]) rfl ?_
  exact wn_X6_digest_14 C K M  4096 lay σ102 (0 : Int32) h
