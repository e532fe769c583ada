theorem cp_X5_accept : CPv yX5_accept cX5_accept 5 (some .int) RX5 4 := ⟨mw_743, mw_744, mw_96, mw_745, rfl, by decide, by decide, by decide +kernel⟩
set_option maxHeartbeats 4000000 in
set_option maxRecDepth 100000 in
theorem wn_X5_accept_20 {l : Launch} {p : Program} {e : Env} {s : State} {m : MethodId} {args : Array Value} {below : List Frame} {meth : Method} {c : Code} {g : GG} {A : Nat → Prop} (C : KX p m c cX5_accept 5 s args RX5) (K : KC l g A s) (M : KM meth (some .int)) {σ' : CS} {r : Int32} {x1 : Int32} {x2 : Int32} {x3 : Int32} {x4 : Int32}     (lay : Nat → Nat) (σ : CS)   (h : B_X5_accept_20 x1 x2 x3 x4 σ  = some (σ', .inl r)) : JJ p l e (rmk 7 183 24 12288) s m args below meth c (MQ below (va_Qi (fun (r0 : Int32) (u : CS) => r0 = r ∧ u = σ') (BC (CH g A)) A) args s 24 12288 A) A 5 (CH g A lay σ) 0 0 20 [] [] := by
  unfold B_X5_accept_20 at h
  cases h
set_option maxHeartbeats 4000000 in
set_option maxRecDepth 100000 in
theorem c_X5_accept {l : Launch} (hst : l.stackTraces = false) (g : GG) (A : Nat → Prop) (lay : Nat → Nat) {σ : CS} {σ' : CS} {r : Int32} {x1 : Int32} {x2 : Int32} {x3 : Int32} {x4 : Int32}  (h : F_X5_accept σ x1 x2 x3 x4 = some (σ', .inl r)) : MI l yX5_accept cX5_accept 5 .int 7 183 24 12288 [.ref (ga g 0), .int x1, .int x2, .int x3, .int x4] (CH g A) g A lay σ σ' r := by
  unfold F_X5_accept at h
  refine e_i (own := RX5) (lo := [(0, .ref (ga g 0)), (1, .int x1), (2, .int x2), (3, .int x3), (4, .int x4)]) hst (plainFor_of_name (by decide)) rfl rfl (Nat.le_of_ble_eq_true rfl) ?_
  intro p e s m args below meth c C K M
  refine j_aload_n 1 C dX5_accept_0 0 rfl rfl ?_
  refine j_iload_n 2 C dX5_accept_1 1 rfl rfl ?_
  rcases bx_e h with ⟨σ101, u102, hF, h⟩ | ⟨σ101, ex1, hF, h⟩
  · refine k_Vv 5 C K (c_X5_requireNode K.2.2.2 g A lay  hF) cp_X5_requireNode (rv_F) mw_506 dX5_accept_2 rfl rfl (Nat.le_of_ble_eq_true rfl) ⟨Nat.le_of_ble_eq_true rfl, Nat.le_of_ble_eq_true rfl⟩ ⟨by simp only [rmk]; omega, by simp only [rmk]; omega⟩ rfl (fun lay => ?_)
    refine j_aload_n 6 C dX5_accept_5 0 rfl rfl ?_
    refine j_iload_n 7 C dX5_accept_6 2 rfl rfl ?_
    rcases bx_e h with ⟨σ103, u104, hF, h⟩ | ⟨σ103, ex1, hF, h⟩
    · refine k_Vv 10 C K (c_X5_requireSlot K.2.2.2 g A lay  hF) cp_X5_requireSlot (rv_F) mw_575 dX5_accept_7 rfl rfl (Nat.le_of_ble_eq_true rfl) ⟨Nat.le_of_ble_eq_true rfl, Nat.le_of_ble_eq_true rfl⟩ ⟨by simp only [rmk]; omega, by simp only [rmk]; omega⟩ rfl (fun lay => ?_)
      refine j_iload_n 11 C dX5_accept_10 3 rfl rfl ?_
      refine j_if_lt 14 20 C dX5_accept_11 (by decide) rfl (fun hc105 => ?_) (fun hc105 => ?_)
      · replace h := it_t hc105 h
        refine j_sub [] (lo' := []) rfl ?_
        exact wn_X5_accept_20 C K M  lay σ103  h
      · replace h := it_f hc105 h
        refine j_iload_n 15 C dX5_accept_14 3 rfl rfl ?_
        refine j_bipush 17 C dX5_accept_15 bp_9 rfl ?_
        refine j_icmp_le 20 30 C dX5_accept_17 (by decide) rfl (fun hc106 => ?_) (fun hc106 => ?_)
        · replace h := it_t hc106 h
          refine j_aload_n 31 C dX5_accept_30 0 rfl rfl ?_
          refine j_iload 33 C dX5_accept_31 4 rfl rfl ?_
          rcases bx_e h with ⟨σ107, u108, hF, h⟩ | ⟨σ107, ex1, hF, h⟩
          · refine k_Vv 36 C K (c_X5_requireReached K.2.2.2 g A lay  hF) cp_X5_requireReached (rv_F) mw_667 dX5_accept_33 rfl rfl (Nat.le_of_ble_eq_true rfl) ⟨Nat.le_of_ble_eq_true rfl, Nat.le_of_ble_eq_true rfl⟩ ⟨by simp only [rmk]; omega, by simp only [rmk]; omega⟩ rfl (fun lay => ?_)
            refine j_aload_n 37 C dX5_accept_36 0 rfl rfl ?_
            refine j_iload_n 38 C dX5_accept_37 1 rfl rfl ?_
            rcases bx_e h with ⟨σ109, u110, hF, h⟩ | ⟨σ109, ex1, hF, h⟩
            · refine k_Vv 41 C K (c_X5_requireRound K.2.2.2 g A lay  hF) cp_X5_requireRound (rv_F) mw_595 dX5_accept_38 rfl rfl (Nat.le_of_ble_eq_true rfl) ⟨Nat.le_of_ble_eq_true rfl, Nat.le_of_ble_eq_true rfl⟩ ⟨by simp only [rmk]; omega, by simp only [rmk]; omega⟩ rfl (fun lay => ?_)
              refine j_aload_n 42 C dX5_accept_41 0 rfl rfl ?_
              refine j_aload_n 43 C dX5_accept_42 0 rfl rfl ?_
              refine g_F 46 C K 0 (by decide) mw_278 rfl dX5_accept_43 rfl ?_
              refine j_iload_n 47 C dX5_accept_46 1 rfl rfl ?_
              obtain ⟨hz111, h⟩ := gd_e h
              have hb112 : tn x1 < 7 := inb_lt hz111
              refine r_nodes 48 C K hz111 dX5_accept_47 rfl ?_
              refine j_iload_n 49 C dX5_accept_48 2 rfl rfl ?_
              refine j_iload_n 50 C dX5_accept_49 3 rfl rfl ?_
              refine j_iload 52 C dX5_accept_50 4 rfl rfl ?_
              obtain ⟨σ113, r114, hF, h⟩ := bd_e h
              refine k_Vi 55 C K (c_X5_sendAccept K.2.2.2 g A lay hb112 hF) cp_X5_sendAccept (rv_F) mw_747 dX5_accept_52 rfl rfl (Nat.le_of_ble_eq_true rfl) ⟨Nat.le_of_ble_eq_true rfl, Nat.le_of_ble_eq_true rfl⟩ ⟨by simp only [rmk]; omega, by simp only [rmk]; omega⟩ rfl (fun lay => ?_)
              cases h
              exact x_i C M dX5_accept_55
            · cases h
          · cases h
        · replace h := it_f hc106 h
          refine j_sub [] (lo' := []) rfl ?_
          exact wn_X5_accept_20 C K M  lay σ103  h
    · cases h
  · cases h
set_option maxHeartbeats 4000000 in
set_option maxRecDepth 100000 in
theorem wx_X5_accept_20 {l : Launch} {p : Program} {e : Env} {s : State} {m : MethodId} {args : Array Value} {below : List Frame} {meth : Method} {c : Code} {g : GG} {A : Nat → Prop} (C : KX p m c cX5_accept 5 s args RX5) (K : KC l g A s) (M : KM meth (some .int)) (hx : ∀ x ∈ c.exceptionTable.toList, False) {σ' : CS} {ex : Nat} {x1 : Int32} {x2 : Int32} {x3 : Int32} {x4 : Int32}     (lay : Nat → Nat) (σ : CS)   (h : B_X5_accept_20 x1 x2 x3 x4 σ  = some (σ', .inr ex)) : JJ p l e (rmk 7 183 1 6) s m args below meth c (vx_MQ below (va_Qi (fun (_ : Int32) (_ : CS) => False) (BC (CH g A)) A) (xxX (BC (CH g A)) A σ' ex) args s 1 6 A) A 5 (CH g A lay σ) 0 0 20 [] [] := by
  unfold B_X5_accept_20 at h
  cases h
  exact jx_2 C K M hx CH_kept mw_430 xs_92 xat_X5_58 dX5_accept_20 dX5_accept_23 dX5_accept_24 dX5_accept_26 dX5_accept_29 (Nat.le_of_ble_eq_true rfl) (Nat.le_of_ble_eq_true rfl) ⟨Nat.le_of_ble_eq_true rfl, Nat.le_of_ble_eq_true rfl⟩
set_option maxHeartbeats 4000000 in
set_option maxRecDepth 100000 in
theorem x_X5_accept {l : Launch} (hst : l.stackTraces = false) (g : GG) (A : Nat → Prop) (lay : Nat → Nat) {σ : CS} {σ' : CS} {ex : Nat} {x1 : Int32} {x2 : Int32} {x3 : Int32} {x4 : Int32}  (h : F_X5_accept σ x1 x2 x3 x4 = some (σ', .inr ex)) : XI l yX5_accept cX5_accept 5 .int 7 183 [.ref (ga g 0), .int x1, .int x2, .int x3, .int x4] (CH g A) g A lay σ σ' ex := by
  unfold F_X5_accept at h
  refine ex_i (own := RX5) (lo := [(0, .ref (ga g 0)), (1, .int x1), (2, .int x2), (3, .int x3), (4, .int x4)]) hst (by decide) rfl rfl (Nat.le_of_ble_eq_true rfl) ?_
  intro p e s m args below meth c C K M hx
  refine j_aload_n 1 C dX5_accept_0 0 rfl rfl ?_
  refine j_iload_n 2 C dX5_accept_1 1 rfl rfl ?_
  rcases bx_e h with ⟨σ101, u102, hF, h⟩ | ⟨σ101, ex1, hF, h⟩
  · refine k_Vv 5 C K (c_X5_requireNode K.2.2.2 g A lay  hF) cp_X5_requireNode (rv_F) mw_506 dX5_accept_2 rfl rfl (Nat.le_of_ble_eq_true rfl) ⟨Nat.le_of_ble_eq_true rfl, Nat.le_of_ble_eq_true rfl⟩ ⟨Nat.le_of_ble_eq_true rfl, Nat.le_of_ble_eq_true rfl⟩ rfl (fun lay => ?_)
    refine j_aload_n 6 C dX5_accept_5 0 rfl rfl ?_
    refine j_iload_n 7 C dX5_accept_6 2 rfl rfl ?_
    rcases bx_e h with ⟨σ103, u104, hF, h⟩ | ⟨σ103, ex1, hF, h⟩
    · refine k_Vv 10 C K (c_X5_requireSlot K.2.2.2 g A lay  hF) cp_X5_requireSlot (rv_F) mw_575 dX5_accept_7 rfl rfl (Nat.le_of_ble_eq_true rfl) ⟨Nat.le_of_ble_eq_true rfl, Nat.le_of_ble_eq_true rfl⟩ ⟨Nat.le_of_ble_eq_true rfl, Nat.le_of_ble_eq_true rfl⟩ rfl (fun lay => ?_)
      refine j_iload_n 11 C dX5_accept_10 3 rfl rfl ?_
      refine j_if_lt 14 20 C dX5_accept_11 (by decide) rfl (fun hc105 => ?_) (fun hc105 => ?_)
      · replace h := it_t hc105 h
        refine j_sub [] (lo' := []) rfl ?_
        exact wx_X5_accept_20 C K M hx  lay σ103  h
      · replace h := it_f hc105 h
        refine j_iload_n 15 C dX5_accept_14 3 rfl rfl ?_
        refine j_bipush 17 C dX5_accept_15 bp_9 rfl ?_
        refine j_icmp_le 20 30 C dX5_accept_17 (by decide) rfl (fun hc106 => ?_) (fun hc106 => ?_)
        · replace h := it_t hc106 h
          refine j_aload_n 31 C dX5_accept_30 0 rfl rfl ?_
          refine j_iload 33 C dX5_accept_31 4 rfl rfl ?_
          rcases bx_e h with ⟨σ107, u108, hF, h⟩ | ⟨σ107, ex1, hF, h⟩
          · refine k_Vv 36 C K (c_X5_requireReached K.2.2.2 g A lay  hF) cp_X5_requireReached (rv_F) mw_667 dX5_accept_33 rfl rfl (Nat.le_of_ble_eq_true rfl) ⟨Nat.le_of_ble_eq_true rfl, Nat.le_of_ble_eq_true rfl⟩ ⟨Nat.le_of_ble_eq_true rfl, Nat.le_of_ble_eq_true rfl⟩ rfl (fun lay => ?_)
            refine j_aload_n 37 C dX5_accept_36 0 rfl rfl ?_
            refine j_iload_n 38 C dX5_accept_37 1 rfl rfl ?_
            rcases bx_e h with ⟨σ109, u110, hF, h⟩ | ⟨σ109, ex1, hF, h⟩
            · refine k_Vv 41 C K (c_X5_requireRound K.2.2.2 g A lay  hF) cp_X5_requireRound (rv_F) mw_595 dX5_accept_38 rfl rfl (Nat.le_of_ble_eq_true rfl) ⟨Nat.le_of_ble_eq_true rfl, Nat.le_of_ble_eq_true rfl⟩ ⟨Nat.le_of_ble_eq_true rfl, Nat.le_of_ble_eq_true rfl⟩ rfl (fun lay => ?_)
              refine j_aload_n 42 C dX5_accept_41 0 rfl rfl ?_
              refine j_aload_n 43 C dX5_accept_42 0 rfl rfl ?_
              refine g_F 46 C K 0 (by decide) mw_278 rfl dX5_accept_43 rfl ?_
              refine j_iload_n 47 C dX5_accept_46 1 rfl rfl ?_
              obtain ⟨hz111, h⟩ := gd_e h
              have hb112 : tn x1 < 7 := inb_lt hz111
              refine r_nodes 48 C K hz111 dX5_accept_47 rfl ?_
              refine j_iload_n 49 C dX5_accept_48 2 rfl rfl ?_
              refine j_iload_n 50 C dX5_accept_49 3 rfl rfl ?_
              refine j_iload 52 C dX5_accept_50 4 rfl rfl ?_
              obtain ⟨σ113, r114, hF, h⟩ := bd_e h
              cases h
            · cases h
              exact kx_Vv C K M hx (x_X5_requireRound K.2.2.2 g A lay  hF) cp_X5_requireRound (rv_F) mw_595 dX5_accept_38 rfl rfl (Nat.le_of_ble_eq_true rfl) ⟨Nat.le_of_ble_eq_true rfl, Nat.le_of_ble_eq_true rfl⟩ ⟨Nat.le_of_ble_eq_true rfl, Nat.le_of_ble_eq_true rfl⟩
          · cases h
            exact kx_Vv C K M hx (x_X5_requireReached K.2.2.2 g A lay  hF) cp_X5_requireReached (rv_F) mw_667 dX5_accept_33 rfl rfl (Nat.le_of_ble_eq_true rfl) ⟨Nat.le_of_ble_eq_true rfl, Nat.le_of_ble_eq_true rfl⟩ ⟨Nat.le_of_ble_eq_true rfl, Nat.le_of_ble_eq_true rfl⟩
        · replace h := it_f hc106 h
          refine j_sub [] (lo' := []) rfl ?_
          exact wx_X5_accept_20 C K M hx  lay σ103  h
    · cases h
      exact kx_Vv C K M hx (x_X5_requireSlot K.2.2.2 g A lay  hF) cp_X5_requireSlot (rv_F) mw_575 dX5_accept_7 rfl rfl (Nat.le_of_ble_eq_true rfl) ⟨Nat.le_of_ble_eq_true rfl, Nat.le_of_ble_eq_true rfl⟩ ⟨Nat.le_of_ble_eq_true rfl, Nat.le_of_ble_eq_true rfl⟩
  · cases h
    exact kx_Vv C K M hx (x_X5_requireNode K.2.2.2 g A lay  hF) cp_X5_requireNode (rv_F) mw_506 dX5_accept_2 rfl rfl (Nat.le_of_ble_eq_true rfl) ⟨Nat.le_of_ble_eq_true rfl, Nat.le_of_ble_eq_true rfl⟩ ⟨Nat.le_of_ble_eq_true rfl, Nat.le_of_ble_eq_true rfl⟩
theorem cp_X5_requireUp : CPv yX5_requireUp cX5_requireUp 2 none RX5 1 := ⟨mw_765, mw_32, mw_96, mw_766, rfl, by decide, by decide, by decide +kernel⟩
set_option maxHeartbeats 4000000 in
set_option maxRecDepth 100000 in
theorem c_X5_requireUp {l : Launch} (hst : l.stackTraces = false) (g : GG) (A : Nat → Prop) (lay : Nat → Nat) {σ : CS} {σ' : CS} {r : Unit} {x1 : Int32}  (h : F_X5_requireUp σ x1 = some (σ', .inl r)) : MV l yX5_requireUp cX5_requireUp 2 6 90 0 0 [.ref (ga g 0), .int x1] (CH g A) g A lay σ σ' := by
  unfold F_X5_requireUp at h
  refine e_v (own := RX5) (lo := [(0, .ref (ga g 0)), (1, .int x1)]) hst (plainFor_of_name (by decide)) rfl rfl (Nat.le_of_ble_eq_true rfl) ?_
  intro p e s m args below meth c C K M
  refine j_aload_n 1 C dX5_requireUp_0 0 rfl rfl ?_
  refine g_F 4 C K 0 (by decide) mw_278 rfl dX5_requireUp_1 rfl ?_
  refine j_iload_n 5 C dX5_requireUp_4 1 rfl rfl ?_
  obtain ⟨hz101, h⟩ := gd_e h
  have hb102 : tn x1 < 7 := inb_lt hz101
  refine r_nodes 6 C K hz101 dX5_requireUp_5 rfl ?_
  refine g_N 9 C K hb102 5 (by decide) mw_226 rfl dX5_requireUp_6 rfl ?_
  refine j_if_ne 12 23 C dX5_requireUp_9 (by decide) rfl (fun hc103 => ?_) (fun hc103 => ?_)
  · replace h := it_f hc103 h
    cases h
    exact x_v C M dX5_requireUp_23
  · replace h := it_t hc103 h
    cases h
set_option maxHeartbeats 4000000 in
set_option maxRecDepth 100000 in
theorem x_X5_requireUp {l : Launch} (hst : l.stackTraces = false) (g : GG) (A : Nat → Prop) (lay : Nat → Nat) {σ : CS} {σ' : CS} {ex : Nat} {x1 : Int32}  (h : F_X5_requireUp σ x1 = some (σ', .inr ex)) : XV l yX5_requireUp cX5_requireUp 2 6 90 [.ref (ga g 0), .int x1] (CH g A) g A lay σ σ' ex := by
  unfold F_X5_requireUp at h
  refine ex_v (own := RX5) (lo := [(0, .ref (ga g 0)), (1, .int x1)]) hst (by decide) rfl rfl (Nat.le_of_ble_eq_true rfl) ?_
  intro p e s m args below meth c C K M hx
  refine j_aload_n 1 C dX5_requireUp_0 0 rfl rfl ?_
  refine g_F 4 C K 0 (by decide) mw_278 rfl dX5_requireUp_1 rfl ?_
  refine j_iload_n 5 C dX5_requireUp_4 1 rfl rfl ?_
  obtain ⟨hz101, h⟩ := gd_e h
  have hb102 : tn x1 < 7 := inb_lt hz101
  refine r_nodes 6 C K hz101 dX5_requireUp_5 rfl ?_
  refine g_N 9 C K hb102 5 (by decide) mw_226 rfl dX5_requireUp_6 rfl ?_
  refine j_if_ne 12 23 C dX5_requireUp_9 (by decide) rfl (fun hc103 => ?_) (fun hc103 => ?_)
  · replace h := it_f hc103 h
    cases h
  · replace h := it_t hc103 h
    cases h
    exact jx_w3 C K M hx CH_kept mw_599 xs_329 xat_X5_84 dX5_requireUp_12 dX5_requireUp_15 dX5_requireUp_16 dX5_requireUp_19 dX5_requireUp_22 (Nat.le_of_ble_eq_true rfl) (Nat.le_of_ble_eq_true rfl) ⟨Nat.le_of_ble_eq_true rfl, Nat.le_of_ble_eq_true rfl⟩
theorem cp_X5_barrier : CPv yX5_barrier cX5_barrier 2 (some .int) RX5 1 := ⟨mw_760, mw_761, mw_96, mw_762, rfl, by decide, by decide, by decide +kernel⟩
set_option maxHeartbeats 4000000 in
set_option maxRecDepth 100000 in
theorem c_X5_barrier {l : Launch} (hst : l.stackTraces = false) (g : GG) (A : Nat → Prop) (lay : Nat → Nat) {σ : CS} {σ' : CS} {r : Int32} {x1 : Int32}  (h : F_X5_barrier σ x1 = some (σ', .inl r)) : MI l yX5_barrier cX5_barrier 2 .int 7 111 0 0 [.ref (ga g 0), .int x1] (CH g A) g A lay σ σ' r := by
  unfold F_X5_barrier at h
  refine e_i (own := RX5) (lo := [(0, .ref (ga g 0)), (1, .int x1)]) hst (plainFor_of_name (by decide)) rfl rfl (Nat.le_of_ble_eq_true rfl) ?_
  intro p e s m args below meth c C K M
  refine j_aload_n 1 C dX5_barrier_0 0 rfl rfl ?_
  refine j_iload_n 2 C dX5_barrier_1 1 rfl rfl ?_
  rcases bx_e h with ⟨σ101, u102, hF, h⟩ | ⟨σ101, ex1, hF, h⟩
  · refine k_Vv 5 C K (c_X5_requireNode K.2.2.2 g A lay  hF) cp_X5_requireNode (rv_F) mw_506 dX5_barrier_2 rfl rfl (Nat.le_of_ble_eq_true rfl) ⟨Nat.le_of_ble_eq_true rfl, Nat.le_of_ble_eq_true rfl⟩ ⟨Nat.le_of_ble_eq_true rfl, Nat.le_of_ble_eq_true rfl⟩ rfl (fun lay => ?_)
    refine j_aload_n 6 C dX5_barrier_5 0 rfl rfl ?_
    refine j_iload_n 7 C dX5_barrier_6 1 rfl rfl ?_
    rcases bx_e h with ⟨σ103, u104, hF, h⟩ | ⟨σ103, ex1, hF, h⟩
    · refine k_Vv 10 C K (c_X5_requireUp K.2.2.2 g A lay  hF) cp_X5_requireUp (rv_F) mw_763 dX5_barrier_7 rfl rfl (Nat.le_of_ble_eq_true rfl) ⟨Nat.le_of_ble_eq_true rfl, Nat.le_of_ble_eq_true rfl⟩ ⟨Nat.le_of_ble_eq_true rfl, Nat.le_of_ble_eq_true rfl⟩ rfl (fun lay => ?_)
      refine j_aload_n 11 C dX5_barrier_10 0 rfl rfl ?_
      refine g_F 14 C K 0 (by decide) mw_278 rfl dX5_barrier_11 rfl ?_
      refine j_iload_n 15 C dX5_barrier_14 1 rfl rfl ?_
      obtain ⟨hz105, h⟩ := gd_e h
      have hb106 : tn x1 < 7 := inb_lt hz105
      refine r_nodes 16 C K hz105 dX5_barrier_15 rfl ?_
      obtain ⟨σ107, r108, hF, h⟩ := bd_e h
      refine k_Vi 19 C K (c_X3_carryOutAll K.2.2.2 g A lay hb106 hF) cp_X3_carryOutAll (rv_N hb106) mw_721 dX5_barrier_16 rfl rfl (Nat.le_of_ble_eq_true rfl) ⟨Nat.le_of_ble_eq_true rfl, Nat.le_of_ble_eq_true rfl⟩ ⟨Nat.le_of_ble_eq_true rfl, Nat.le_of_ble_eq_true rfl⟩ rfl (fun lay => ?_)
      cases h
      exact x_i C M dX5_barrier_19
    · cases h
  · cases h
set_option maxHeartbeats 4000000 in
set_option maxRecDepth 100000 in
theorem x_X5_barrier {l : Launch} (hst : l.stackTraces = false) (g : GG) (A : Nat → Prop) (lay : Nat → Nat) {σ : CS} {σ' : CS} {ex : Nat} {x1 : Int32}  (h : F_X5_barrier σ x1 = some (σ', .inr ex)) : XI l yX5_barrier cX5_barrier 2 .int 7 111 [.ref (ga g 0), .int x1] (CH g A) g A lay σ σ' ex := by
  unfold F_X5_barrier at h
  refine ex_i (own := RX5) (lo := [(0, .ref (ga g 0)), (1, .int x1)]) hst (by decide) rfl rfl (Nat.le_of_ble_eq_true rfl) ?_
  intro p e s m args below meth c C K M hx
  refine j_aload_n 1 C dX5_barrier_0 0 rfl rfl ?_
  refine j_iload_n 2 C dX5_barrier_1 1 rfl rfl ?_
  rcases bx_e h with ⟨σ101, u102, hF, h⟩ | ⟨σ101, ex1, hF, h⟩
  · refine k_Vv 5 C K (c_X5_requireNode K.2.2.2 g A lay  hF) cp_X5_requireNode (rv_F) mw_506 dX5_barrier_2 rfl rfl (Nat.le_of_ble_eq_true rfl) ⟨Nat.le_of_ble_eq_true rfl, Nat.le_of_ble_eq_true rfl⟩ ⟨Nat.le_of_ble_eq_true rfl, Nat.le_of_ble_eq_true rfl⟩ rfl (fun lay => ?_)
    refine j_aload_n 6 C dX5_barrier_5 0 rfl rfl ?_
    refine j_iload_n 7 C dX5_barrier_6 1 rfl rfl ?_
    rcases bx_e h with ⟨σ103, u104, hF, h⟩ | ⟨σ103, ex1, hF, h⟩
    · refine k_Vv 10 C K (c_X5_requireUp K.2.2.2 g A lay  hF) cp_X5_requireUp (rv_F) mw_763 dX5_barrier_7 rfl rfl (Nat.le_of_ble_eq_true rfl) ⟨Nat.le_of_ble_eq_true rfl, Nat.le_of_ble_eq_true rfl⟩ ⟨Nat.le_of_ble_eq_true rfl, Nat.le_of_ble_eq_true rfl⟩ rfl (fun lay => ?_)
      refine j_aload_n 11 C dX5_barrier_10 0 rfl rfl ?_
      refine g_F 14 C K 0 (by decide) mw_278 rfl dX5_barrier_11 rfl ?_
      refine j_iload_n 15 C dX5_barrier_14 1 rfl rfl ?_
      obtain ⟨hz105, h⟩ := gd_e h
      have hb106 : tn x1 < 7 := inb_lt hz105
      refine r_nodes 16 C K hz105 dX5_barrier_15 rfl ?_
      obtain ⟨σ107, r108, hF, h⟩ := bd_e h
      refine k_Vi 19 C K (c_X3_carryOutAll K.2.2.2 g A lay hb106 hF) cp_X3_carryOutAll (rv_N hb106) mw_721 dX5_barrier_16 rfl rfl (Nat.le_of_ble_eq_true rfl) ⟨Nat.le_of_ble_eq_true rfl, Nat.le_of_ble_eq_true rfl⟩ ⟨Nat.le_of_ble_eq_true rfl, Nat.le_of_ble_eq_true rfl⟩ rfl (fun lay => ?_)
      cases h
    · cases h
      exact kx_Vv C K M hx (x_X5_requireUp K.2.2.2 g A lay  hF) cp_X5_requireUp (rv_F) mw_763 dX5_barrier_7 rfl rfl (Nat.le_of_ble_eq_true rfl) ⟨Nat.le_of_ble_eq_true rfl, Nat.le_of_ble_eq_true rfl⟩ ⟨Nat.le_of_ble_eq_true rfl, Nat.le_of_ble_eq_true rfl⟩
  · cases h
    exact kx_Vv C K M hx (x_X5_requireNode K.2.2.2 g A lay  hF) cp_X5_requireNode (rv_F) mw_506 dX5_barrier_2 rfl rfl (Nat.le_of_ble_eq_true rfl) ⟨Nat.le_of_ble_eq_true rfl, Nat.le_of_ble_eq_true rfl⟩ ⟨Nat.le_of_ble_eq_true rfl, Nat.le_of_ble_eq_true rfl⟩
theorem cp_X5_requireLost : CPs yX5_requireLost cX5_requireLost 1 none 1 := ⟨mw_776, mw_96, mw_777, by decide, by decide, by decide +kernel⟩
set_option maxHeartbeats 4000000 in
set_option maxRecDepth 100000 in
theorem c_X5_requireLost {l : Launch} (hst : l.stackTraces = false) (g : GG) (A : Nat → Prop) (lay : Nat → Nat) {σ : CS} {σ' : CS} {r : Unit} {x0 : Int32}  (h : F_X5_requireLost σ x0 = some (σ', .inl r)) : MV l yX5_requireLost cX5_requireLost 1 6 90 0 0 [.int x0] (CH g A) g A lay σ σ' := by
  unfold F_X5_requireLost at h
  refine e_v (own := RX5) (lo := [(0, .int x0)]) hst (plainFor_of_name (by decide)) rfl rfl (Nat.le_of_ble_eq_true rfl) ?_
  intro p e s m args below meth c C K M
  refine j_iload_n 1 C dX5_requireLost_0 0 rfl rfl ?_
  refine j_if_ge 4 15 C dX5_requireLost_1 (by decide) rfl (fun hc101 => ?_) (fun hc101 => ?_)
  · replace h := it_t hc101 h
    cases h
    exact x_v C M dX5_requireLost_15
  · replace h := it_f hc101 h
    cases h
set_option maxHeartbeats 4000000 in
set_option maxRecDepth 100000 in
theorem x_X5_requireLost {l : Launch} (hst : l.stackTraces = false) (g : GG) (A : Nat → Prop) (lay : Nat → Nat) {σ : CS} {σ' : CS} {ex : Nat} {x0 : Int32}  (h : F_X5_requireLost σ x0 = some (σ', .inr ex)) : XV l yX5_requireLost cX5_requireLost 1 6 90 [.int x0] (CH g A) g A lay σ σ' ex := by
  unfold F_X5_requireLost at h
  refine ex_v (own := RX5) (lo := [(0, .int x0)]) hst (by decide) rfl rfl (Nat.le_of_ble_eq_true rfl) ?_
  intro p e s m args below meth c C K M hx
  refine j_iload_n 1 C dX5_requireLost_0 0 rfl rfl ?_
  refine j_if_ge 4 15 C dX5_requireLost_1 (by decide) rfl (fun hc101 => ?_) (fun hc101 => ?_)
  · replace h := it_t hc101 h
    cases h
  · replace h := it_f hc101 h
    cases h
    exact jx_w2 C K M hx CH_kept mw_430 xs_327 xat_X5_58 dX5_requireLost_4 dX5_requireLost_7 dX5_requireLost_8 dX5_requireLost_11 dX5_requireLost_14 (Nat.le_of_ble_eq_true rfl) (Nat.le_of_ble_eq_true rfl) ⟨Nat.le_of_ble_eq_true rfl, Nat.le_of_ble_eq_true rfl⟩
theorem cp_X5_bringDown : CPv yX5_bringDown cX5_bringDown 4 (some .int) RX5 2 := ⟨mw_781, mw_33, mw_96, mw_782, rfl, by decide, by decide, by decide +kernel⟩
set_option maxHeartbeats 4000000 in
set_option maxRecDepth 100000 in
theorem c_X5_bringDown {l : Launch} (hst : l.stackTraces = false) (g : GG) (A : Nat → Prop) (lay : Nat → Nat) {σ : CS} {σ' : CS} {r : Int32} {o1 : Nat} {x2 : Int32} (ho1 : o1 < 7) (h : F_X5_bringDown σ o1 x2 = some (σ', r)) : MI l yX5_bringDown cX5_bringDown 4 .int 3 74 0 0 [.ref (ga g 0), .ref (ga g (5 + o1)), .int x2] (CH g A) g A lay σ σ' r := by
  unfold F_X5_bringDown at h
  refine e_i (own := RX5) (lo := [(0, .ref (ga g 0)), (1, .ref (ga g (5 + o1))), (2, .int x2)]) hst (plainFor_of_name (by decide)) rfl rfl (Nat.le_of_ble_eq_true rfl) ?_
  intro p e s m args below meth c C K M
  refine j_aload_n 1 C dX5_bringDown_0 1 rfl rfl ?_
  refine j_iload_n 2 C dX5_bringDown_1 2 rfl rfl ?_
  obtain ⟨σ101, r102, hF, h⟩ := bd_e h
  refine k_Vi 5 C K (c_X3_fall K.2.2.2 g A lay ho1 hF) cp_X3_fall (rv_N ho1) mw_783 dX5_bringDown_2 rfl rfl (Nat.le_of_ble_eq_true rfl) ⟨Nat.le_of_ble_eq_true rfl, Nat.le_of_ble_eq_true rfl⟩ ⟨Nat.le_of_ble_eq_true rfl, Nat.le_of_ble_eq_true rfl⟩ rfl (fun lay => ?_)
  refine j_istore_n 6 C dX5_bringDown_5 (lo' := [(3, .int r102), (0, .ref (ga g 0)), (1, .ref (ga g (5 + o1))), (2, .int x2)]) (by decide) rfl rfl ?_
  refine j_aload_n 7 C dX5_bringDown_6 1 rfl rfl ?_
  refine j_dup 8 C dX5_bringDown_7 rfl rfl ?_
  refine g_F 11 C K 11 (by decide) mw_289 rfl dX5_bringDown_8 rfl ?_
  refine j_iload_n 12 C dX5_bringDown_11 0 rfl rfl ?_
  refine j_iadd 13 C dX5_bringDown_12 rfl ?_
  refine p_F 16 C K 11 (by decide) mw_289 rfl rfl dX5_bringDown_13 rfl (fun σ103 eσ103 => ?_)
  replace h := lt_e h σ103 eσ103
  refine j_iload_n 17 C dX5_bringDown_16 0 rfl rfl ?_
  cases h
  exact x_i C M dX5_bringDown_17
theorem cp_X5_crash : CPv yX5_crash cX5_crash 3 (some .int) RX5 2 := ⟨mw_772, mw_773, mw_96, mw_774, rfl, by decide, by decide, by decide +kernel⟩
set_option maxHeartbeats 4000000 in
set_option maxRecDepth 100000 in
theorem c_X5_crash {l : Launch} (hst : l.stackTraces = false) (g : GG) (A : Nat → Prop) (lay : Nat → Nat) {σ : CS} {σ' : CS} {r : Int32} {x1 : Int32} {x2 : Int32}  (h : F_X5_crash σ x1 x2 = some (σ', .inl r)) : MI l yX5_crash cX5_crash 3 .int 7 111 0 0 [.ref (ga g 0), .int x1, .int x2] (CH g A) g A lay σ σ' r := by
  unfold F_X5_crash at h
  refine e_i (own := RX5) (lo := [(0, .ref (ga g 0)), (1, .int x1), (2, .int x2)]) hst (plainFor_of_name (by decide)) rfl rfl (Nat.le_of_ble_eq_true rfl) ?_
  intro p e s m args below meth c C K M
  refine j_aload_n 1 C dX5_crash_0 0 rfl rfl ?_
  refine j_iload_n 2 C dX5_crash_1 1 rfl rfl ?_
  rcases bx_e h with ⟨σ101, u102, hF, h⟩ | ⟨σ101, ex1, hF, h⟩
  · refine k_Vv 5 C K (c_X5_requireNode K.2.2.2 g A lay  hF) cp_X5_requireNode (rv_F) mw_506 dX5_crash_2 rfl rfl (Nat.le_of_ble_eq_true rfl) ⟨Nat.le_of_ble_eq_true rfl, Nat.le_of_ble_eq_true rfl⟩ ⟨Nat.le_of_ble_eq_true rfl, Nat.le_of_ble_eq_true rfl⟩ rfl (fun lay => ?_)
    refine j_iload_n 6 C dX5_crash_5 2 rfl rfl ?_
    rcases bx_e h with ⟨σ103, u104, hF, h⟩ | ⟨σ103, ex1, hF, h⟩
    · refine k_Sv 9 C K (c_X5_requireLost K.2.2.2 g A lay  hF) cp_X5_requireLost mw_775 dX5_crash_6 rfl rfl (Nat.le_of_ble_eq_true rfl) ⟨Nat.le_of_ble_eq_true rfl, Nat.le_of_ble_eq_true rfl⟩ ⟨Nat.le_of_ble_eq_true rfl, Nat.le_of_ble_eq_true rfl⟩ rfl (fun lay => ?_)
      refine j_aload_n 10 C dX5_crash_9 0 rfl rfl ?_
      refine j_iload_n 11 C dX5_crash_10 1 rfl rfl ?_
      rcases bx_e h with ⟨σ105, u106, hF, h⟩ | ⟨σ105, ex1, hF, h⟩
      · refine k_Vv 14 C K (c_X5_requireUp K.2.2.2 g A lay  hF) cp_X5_requireUp (rv_F) mw_763 dX5_crash_11 rfl rfl (Nat.le_of_ble_eq_true rfl) ⟨Nat.le_of_ble_eq_true rfl, Nat.le_of_ble_eq_true rfl⟩ ⟨Nat.le_of_ble_eq_true rfl, Nat.le_of_ble_eq_true rfl⟩ rfl (fun lay => ?_)
        refine j_aload_n 15 C dX5_crash_14 0 rfl rfl ?_
        refine j_aload_n 16 C dX5_crash_15 0 rfl rfl ?_
        refine g_F 19 C K 0 (by decide) mw_278 rfl dX5_crash_16 rfl ?_
        refine j_iload_n 20 C dX5_crash_19 1 rfl rfl ?_
        obtain ⟨hz107, h⟩ := gd_e h
        have hb108 : tn x1 < 7 := inb_lt hz107
        refine r_nodes 21 C K hz107 dX5_crash_20 rfl ?_
        refine j_iload_n 22 C dX5_crash_21 2 rfl rfl ?_
        obtain ⟨σ109, r110, hF, h⟩ := bd_e h
        refine k_Vi 25 C K (c_X5_bringDown K.2.2.2 g A lay hb108 hF) cp_X5_bringDown (rv_F) mw_779 dX5_crash_22 rfl rfl (Nat.le_of_ble_eq_true rfl) ⟨Nat.le_of_ble_eq_true rfl, Nat.le_of_ble_eq_true rfl⟩ ⟨Nat.le_of_ble_eq_true rfl, Nat.le_of_ble_eq_true rfl⟩ rfl (fun lay => ?_)
        cases h
        exact x_i C M dX5_crash_25
      · cases h
    · cases h
  · cases h
set_option maxHeartbeats 4000000 in
set_option maxRecDepth 100000 in
theorem x_X5_crash {l : Launch} (hst : l.stackTraces = false) (g : GG) (A : Nat → Prop) (lay : Nat → Nat) {σ : CS} {σ' : CS} {ex : Nat} {x1 : Int32} {x2 : Int32}  (h : F_X5_crash σ x1 x2 = some (σ', .inr ex)) : XI l yX5_crash cX5_crash 3 .int 7 111 [.ref (ga g 0), .int x1, .int x2] (CH g A) g A lay σ σ' ex := by
  unfold F_X5_crash at h
  refine ex_i (own := RX5) (lo := [(0, .ref (ga g 0)), (1, .int x1), (2, .int x2)]) hst (by decide) rfl rfl (Nat.le_of_ble_eq_true rfl) ?_
  intro p e s m args below meth c C K M hx
  refine j_aload_n 1 C dX5_crash_0 0 rfl rfl ?_
  refine j_iload_n 2 C dX5_crash_1 1 rfl rfl ?_
  rcases bx_e h with ⟨σ101, u102, hF, h⟩ | ⟨σ101, ex1, hF, h⟩
  · refine k_Vv 5 C K (c_X5_requireNode K.2.2.2 g A lay  hF) cp_X5_requireNode (rv_F) mw_506 dX5_crash_2 rfl rfl (Nat.le_of_ble_eq_true rfl) ⟨Nat.le_of_ble_eq_true rfl, Nat.le_of_ble_eq_true rfl⟩ ⟨Nat.le_of_ble_eq_true rfl, Nat.le_of_ble_eq_true rfl⟩ rfl (fun lay => ?_)
    refine j_iload_n 6 C dX5_crash_5 2 rfl rfl ?_
    rcases bx_e h with ⟨σ103, u104, hF, h⟩ | ⟨σ103, ex1, hF, h⟩
    · refine k_Sv 9 C K (c_X5_requireLost K.2.2.2 g A lay  hF) cp_X5_requireLost mw_775 dX5_crash_6 rfl rfl (Nat.le_of_ble_eq_true rfl) ⟨Nat.le_of_ble_eq_true rfl, Nat.le_of_ble_eq_true rfl⟩ ⟨Nat.le_of_ble_eq_true rfl, Nat.le_of_ble_eq_true rfl⟩ rfl (fun lay => ?_)
      refine j_aload_n 10 C dX5_crash_9 0 rfl rfl ?_
      refine j_iload_n 11 C dX5_crash_10 1 rfl rfl ?_
      rcases bx_e h with ⟨σ105, u106, hF, h⟩ | ⟨σ105, ex1, hF, h⟩
      · refine k_Vv 14 C K (c_X5_requireUp K.2.2.2 g A lay  hF) cp_X5_requireUp (rv_F) mw_763 dX5_crash_11 rfl rfl (Nat.le_of_ble_eq_true rfl) ⟨Nat.le_of_ble_eq_true rfl, Nat.le_of_ble_eq_true rfl⟩ ⟨Nat.le_of_ble_eq_true rfl, Nat.le_of_ble_eq_true rfl⟩ rfl (fun lay => ?_)
        refine j_aload_n 15 C dX5_crash_14 0 rfl rfl ?_
        refine j_aload_n 16 C dX5_crash_15 0 rfl rfl ?_
        refine g_F 19 C K 0 (by decide) mw_278 rfl dX5_crash_16 rfl ?_
        refine j_iload_n 20 C dX5_crash_19 1 rfl rfl ?_
        obtain ⟨hz107, h⟩ := gd_e h
        have hb108 : tn x1 < 7 := inb_lt hz107
        refine r_nodes 21 C K hz107 dX5_crash_20 rfl ?_
        refine j_iload_n 22 C dX5_crash_21 2 rfl rfl ?_
        obtain ⟨σ109, r110, hF, h⟩ := bd_e h
        refine k_Vi 25 C K (c_X5_bringDown K.2.2.2 g A lay hb108 hF) cp_X5_bringDown (rv_F) mw_779 dX5_crash_22 rfl rfl (Nat.le_of_ble_eq_true rfl) ⟨Nat.le_of_ble_eq_true rfl, Nat.le_of_ble_eq_true rfl⟩ ⟨Nat.le_of_ble_eq_true rfl, Nat.le_of_ble_eq_true rfl⟩ rfl (fun lay => ?_)
        cases h
      · cases h
        exact kx_Vv C K M hx (x_X5_requireUp K.2.2.2 g A lay  hF) cp_X5_requireUp (rv_F) mw_763 dX5_crash_11 rfl rfl (Nat.le_of_ble_eq_true rfl) ⟨Nat.le_of_ble_eq_true rfl, Nat.le_of_ble_eq_true rfl⟩ ⟨Nat.le_of_ble_eq_true rfl, Nat.le_of_ble_eq_true rfl⟩
    · cases h
      exact kx_Sv C K M hx (x_X5_requireLost K.2.2.2 g A lay  hF) cp_X5_requireLost mw_775 dX5_crash_6 rfl rfl (Nat.le_of_ble_eq_true rfl) ⟨Nat.le_of_ble_eq_true rfl, Nat.le_of_ble_eq_true rfl⟩ ⟨Nat.le_of_ble_eq_true rfl, Nat.le_of_ble_eq_true rfl⟩
  · cases h
    exact kx_Vv C K M hx (x_X5_requireNode K.2.2.2 g A lay  hF) cp_X5_requireNode (rv_F) mw_506 dX5_crash_2 rfl rfl (Nat.le_of_ble_eq_true rfl) ⟨Nat.le_of_ble_eq_true rfl, Nat.le_of_ble_eq_true rfl⟩ ⟨Nat.le_of_ble_eq_true rfl, Nat.le_of_ble_eq_true rfl⟩
theorem cp_X5_requireDown : CPv yX5_requireDown cX5_requireDown 2 none RX5 1 := ⟨mw_802, mw_34, mw_96, mw_803, rfl, by decide, by decide, by decide +kernel⟩
set_option maxHeartbeats 4000000 in
set_option maxRecDepth 100000 in
theorem c_X5_requireDown {l : Launch} (hst : l.stackTraces = false) (g : GG) (A : Nat → Prop) (lay : Nat → Nat) {σ : CS} {σ' : CS} {r : Unit} {x1 : Int32}  (h : F_X5_requireDown σ x1 = some (σ', .inl r)) : MV l yX5_requireDown cX5_requireDown 2 6 90 0 0 [.ref (ga g 0), .int x1] (CH g A) g A lay σ σ' := by
  unfold F_X5_requireDown at h
  refine e_v (own := RX5) (lo := [(0, .ref (ga g 0)), (1, .int x1)]) hst (plainFor_of_name (by decide)) rfl rfl (Nat.le_of_ble_eq_true rfl) ?_
  intro p e s m args below meth c C K M
  refine j_aload_n 1 C dX5_requireDown_0 0 rfl rfl ?_
  refine g_F 4 C K 0 (by decide) mw_278 rfl dX5_requireDown_1 rfl ?_
  refine j_iload_n 5 C dX5_requireDown_4 1 rfl rfl ?_
  obtain ⟨hz101, h⟩ := gd_e h
  have hb102 : tn x1 < 7 := inb_lt hz101
  refine r_nodes 6 C K hz101 dX5_requireDown_5 rfl ?_
  refine g_N 9 C K hb102 5 (by decide) mw_226 rfl dX5_requireDown_6 rfl ?_
  refine j_if_eq 12 23 C dX5_requireDown_9 (by decide) rfl (fun hc103 => ?_) (fun hc103 => ?_)
  · replace h := it_t hc103 h
    cases h
    exact x_v C M dX5_requireDown_23
  · replace h := it_f hc103 h
    cases h
set_option maxHeartbeats 4000000 in
set_option maxRecDepth 100000 in
theorem x_X5_requireDown {l : Launch} (hst : l.stackTraces = false) (g : GG) (A : Nat → Prop) (lay : Nat → Nat) {σ : CS} {σ' : CS} {ex : Nat} {x1 : Int32}  (h : F_X5_requireDown σ x1 = some (σ', .inr ex)) : XV l yX5_requireDown cX5_requireDown 2 6 90 [.ref (ga g 0), .int x1] (CH g A) g A lay σ σ' ex := by
  unfold F_X5_requireDown at h
  refine ex_v (own := RX5) (lo := [(0, .ref (ga g 0)), (1, .int x1)]) hst (by decide) rfl rfl (Nat.le_of_ble_eq_true rfl) ?_
  intro p e s m args below meth c C K M hx
  refine j_aload_n 1 C dX5_requireDown_0 0 rfl rfl ?_
  refine g_F 4 C K 0 (by decide) mw_278 rfl dX5_requireDown_1 rfl ?_
  refine j_iload_n 5 C dX5_requireDown_4 1 rfl rfl ?_
  obtain ⟨hz101, h⟩ := gd_e h
  have hb102 : tn x1 < 7 := inb_lt hz101
  refine r_nodes 6 C K hz101 dX5_requireDown_5 rfl ?_
  refine g_N 9 C K hb102 5 (by decide) mw_226 rfl dX5_requireDown_6 rfl ?_
  refine j_if_eq 12 23 C dX5_requireDown_9 (by decide) rfl (fun hc103 => ?_) (fun hc103 => ?_)
  · replace h := it_t hc103 h
    cases h
  · replace h := it_f hc103 h
    cases h
    exact jx_w3 C K M hx CH_kept mw_599 xs_331 xat_X5_84 dX5_requireDown_12 dX5_requireDown_15 dX5_requireDown_16 dX5_requireDown_19 dX5_requireDown_22 (Nat.le_of_ble_eq_true rfl) (Nat.le_of_ble_eq_true rfl) ⟨Nat.le_of_ble_eq_true rfl, Nat.le_of_ble_eq_true rfl⟩
theorem cp_X5_wipe : CPv yX5_wipe cX5_wipe 2 (some .int) RX5 1 := ⟨mw_797, mw_798, mw_96, mw_799, rfl, by decide, by decide, by decide +kernel⟩
set_option maxHeartbeats 4000000 in
set_option maxRecDepth 100000 in
theorem c_X5_wipe {l : Launch} (hst : l.stackTraces = false) (g : GG) (A : Nat → Prop) (lay : Nat → Nat) {σ : CS} {σ' : CS} {r : Int32} {x1 : Int32}  (h : F_X5_wipe σ x1 = some (σ', .inl r)) : MI l yX5_wipe cX5_wipe 2 .int 7 111 0 0 [.ref (ga g 0), .int x1] (CH g A) g A lay σ σ' r := by
  unfold F_X5_wipe at h
  refine e_i (own := RX5) (lo := [(0, .ref (ga g 0)), (1, .int x1)]) hst (plainFor_of_name (by decide)) rfl rfl (Nat.le_of_ble_eq_true rfl) ?_
  intro p e s m args below meth c C K M
  refine j_aload_n 1 C dX5_wipe_0 0 rfl rfl ?_
  refine j_iload_n 2 C dX5_wipe_1 1 rfl rfl ?_
  rcases bx_e h with ⟨σ101, u102, hF, h⟩ | ⟨σ101, ex1, hF, h⟩
  · refine k_Vv 5 C K (c_X5_requireNode K.2.2.2 g A lay  hF) cp_X5_requireNode (rv_F) mw_506 dX5_wipe_2 rfl rfl (Nat.le_of_ble_eq_true rfl) ⟨Nat.le_of_ble_eq_true rfl, Nat.le_of_ble_eq_true rfl⟩ ⟨Nat.le_of_ble_eq_true rfl, Nat.le_of_ble_eq_true rfl⟩ rfl (fun lay => ?_)
    refine j_aload_n 6 C dX5_wipe_5 0 rfl rfl ?_
    refine j_iload_n 7 C dX5_wipe_6 1 rfl rfl ?_
    rcases bx_e h with ⟨σ103, u104, hF, h⟩ | ⟨σ103, ex1, hF, h⟩
    · refine k_Vv 10 C K (c_X5_requireDown K.2.2.2 g A lay  hF) cp_X5_requireDown (rv_F) mw_800 dX5_wipe_7 rfl rfl (Nat.le_of_ble_eq_true rfl) ⟨Nat.le_of_ble_eq_true rfl, Nat.le_of_ble_eq_true rfl⟩ ⟨Nat.le_of_ble_eq_true rfl, Nat.le_of_ble_eq_true rfl⟩ rfl (fun lay => ?_)
      refine j_aload_n 11 C dX5_wipe_10 0 rfl rfl ?_
      refine g_F 14 C K 0 (by decide) mw_278 rfl dX5_wipe_11 rfl ?_
      refine j_iload_n 15 C dX5_wipe_14 1 rfl rfl ?_
      obtain ⟨hz105, h⟩ := gd_e h
      have hb106 : tn x1 < 7 := inb_lt hz105
      refine r_nodes 16 C K hz105 dX5_wipe_15 rfl ?_
      obtain ⟨σ107, r108, hF, h⟩ := bd_e h
      refine k_Vi 19 C K (c_X3_loseDisk K.2.2.2 g A lay hb106 hF) cp_X3_loseDisk (rv_N hb106) mw_805 dX5_wipe_16 rfl rfl (Nat.le_of_ble_eq_true rfl) ⟨Nat.le_of_ble_eq_true rfl, Nat.le_of_ble_eq_true rfl⟩ ⟨Nat.le_of_ble_eq_true rfl, Nat.le_of_ble_eq_true rfl⟩ rfl (fun lay => ?_)
      cases h
      exact x_i C M dX5_wipe_19
    · cases h
  · cases h
set_option maxHeartbeats 4000000 in
set_option maxRecDepth 100000 in
theorem x_X5_wipe {l : Launch} (hst : l.stackTraces = false) (g : GG) (A : Nat → Prop) (lay : Nat → Nat) {σ : CS} {σ' : CS} {ex : Nat} {x1 : Int32}  (h : F_X5_wipe σ x1 = some (σ', .inr ex)) : XI l yX5_wipe cX5_wipe 2 .int 7 111 [.ref (ga g 0), .int x1] (CH g A) g A lay σ σ' ex := by
  unfold F_X5_wipe at h
  refine ex_i (own := RX5) (lo := [(0, .ref (ga g 0)), (1, .int x1)]) hst (by decide) rfl rfl (Nat.le_of_ble_eq_true rfl) ?_
  intro p e s m args below meth c C K M hx
  refine j_aload_n 1 C dX5_wipe_0 0 rfl rfl ?_
  refine j_iload_n 2 C dX5_wipe_1 1 rfl rfl ?_
  rcases bx_e h with ⟨σ101, u102, hF, h⟩ | ⟨σ101, ex1, hF, h⟩
  · refine k_Vv 5 C K (c_X5_requireNode K.2.2.2 g A lay  hF) cp_X5_requireNode (rv_F) mw_506 dX5_wipe_2 rfl rfl (Nat.le_of_ble_eq_true rfl) ⟨Nat.le_of_ble_eq_true rfl, Nat.le_of_ble_eq_true rfl⟩ ⟨Nat.le_of_ble_eq_true rfl, Nat.le_of_ble_eq_true rfl⟩ rfl (fun lay => ?_)
    refine j_aload_n 6 C dX5_wipe_5 0 rfl rfl ?_
    refine j_iload_n 7 C dX5_wipe_6 1 rfl rfl ?_
    rcases bx_e h with ⟨σ103, u104, hF, h⟩ | ⟨σ103, ex1, hF, h⟩
    · refine k_Vv 10 C K (c_X5_requireDown K.2.2.2 g A lay  hF) cp_X5_requireDown (rv_F) mw_800 dX5_wipe_7 rfl rfl (Nat.le_of_ble_eq_true rfl) ⟨Nat.le_of_ble_eq_true rfl, Nat.le_of_ble_eq_true rfl⟩ ⟨Nat.le_of_ble_eq_true rfl, Nat.le_of_ble_eq_true rfl⟩ rfl (fun lay => ?_)
      refine j_aload_n 11 C dX5_wipe_10 0 rfl rfl ?_
      refine g_F 14 C K 0 (by decide) mw_278 rfl dX5_wipe_11 rfl ?_
      refine j_iload_n 15 C dX5_wipe_14 1 rfl rfl ?_
      obtain ⟨hz105, h⟩ := gd_e h
      have hb106 : tn x1 < 7 := inb_lt hz105
      refine r_nodes 16 C K hz105 dX5_wipe_15 rfl ?_
      obtain ⟨σ107, r108, hF, h⟩ := bd_e h
      refine k_Vi 19 C K (c_X3_loseDisk K.2.2.2 g A lay hb106 hF) cp_X3_loseDisk (rv_N hb106) mw_805 dX5_wipe_16 rfl rfl (Nat.le_of_ble_eq_true rfl) ⟨Nat.le_of_ble_eq_true rfl, Nat.le_of_ble_eq_true rfl⟩ ⟨Nat.le_of_ble_eq_true rfl, Nat.le_of_ble_eq_true rfl⟩ rfl (fun lay => ?_)
      cases h
    · cases h
      exact kx_Vv C K M hx (x_X5_requireDown K.2.2.2 g A lay  hF) cp_X5_requireDown (rv_F) mw_800 dX5_wipe_7 rfl rfl (Nat.le_of_ble_eq_true rfl) ⟨Nat.le_of_ble_eq_true rfl, Nat.le_of_ble_eq_true rfl⟩ ⟨Nat.le_of_ble_eq_true rfl, Nat.le_of_ble_eq_true rfl⟩
  · cases h
    exact kx_Vv C K M hx (x_X5_requireNode K.2.2.2 g A lay  hF) cp_X5_requireNode (rv_F) mw_506 dX5_wipe_2 rfl rfl (Nat.le_of_ble_eq_true rfl) ⟨Nat.le_of_ble_eq_true rfl, Nat.le_of_ble_eq_true rfl⟩ ⟨Nat.le_of_ble_eq_true rfl, Nat.le_of_ble_eq_true rfl⟩
theorem cp_X5_restart : CPv yX5_restart cX5_restart 2 (some .int) RX5 1 := ⟨mw_818, mw_819, mw_96, mw_820, rfl, by decide, by decide, by decide +kernel⟩
set_option maxHeartbeats 4000000 in
set_option maxRecDepth 100000 in
theorem c_X5_restart {l : Launch} (hst : l.stackTraces = false) (g : GG) (A : Nat → Prop) (lay : Nat → Nat) {σ : CS} {σ' : CS} {r : Int32} {x1 : Int32}  (h : F_X5_restart σ x1 = some (σ', .inl r)) : MI l yX5_restart cX5_restart 2 .int 7 111 0 0 [.ref (ga g 0), .int x1] (CH g A) g A lay σ σ' r := by
  unfold F_X5_restart at h
  refine e_i (own := RX5) (lo := [(0, .ref (ga g 0)), (1, .int x1)]) hst (plainFor_of_name (by decide)) rfl rfl (Nat.le_of_ble_eq_true rfl) ?_
  intro p e s m args below meth c C K M
  refine j_aload_n 1 C dX5_restart_0 0 rfl rfl ?_
  refine j_iload_n 2 C dX5_restart_1 1 rfl rfl ?_
  rcases bx_e h with ⟨σ101, u102, hF, h⟩ | ⟨σ101, ex1, hF, h⟩
  · refine k_Vv 5 C K (c_X5_requireNode K.2.2.2 g A lay  hF) cp_X5_requireNode (rv_F) mw_506 dX5_restart_2 rfl rfl (Nat.le_of_ble_eq_true rfl) ⟨Nat.le_of_ble_eq_true rfl, Nat.le_of_ble_eq_true rfl⟩ ⟨Nat.le_of_ble_eq_true rfl, Nat.le_of_ble_eq_true rfl⟩ rfl (fun lay => ?_)
    refine j_aload_n 6 C dX5_restart_5 0 rfl rfl ?_
    refine j_iload_n 7 C dX5_restart_6 1 rfl rfl ?_
    rcases bx_e h with ⟨σ103, u104, hF, h⟩ | ⟨σ103, ex1, hF, h⟩
    · refine k_Vv 10 C K (c_X5_requireDown K.2.2.2 g A lay  hF) cp_X5_requireDown (rv_F) mw_800 dX5_restart_7 rfl rfl (Nat.le_of_ble_eq_true rfl) ⟨Nat.le_of_ble_eq_true rfl, Nat.le_of_ble_eq_true rfl⟩ ⟨Nat.le_of_ble_eq_true rfl, Nat.le_of_ble_eq_true rfl⟩ rfl (fun lay => ?_)
      refine j_aload_n 11 C dX5_restart_10 0 rfl rfl ?_
      refine g_F 14 C K 0 (by decide) mw_278 rfl dX5_restart_11 rfl ?_
      refine j_iload_n 15 C dX5_restart_14 1 rfl rfl ?_
      obtain ⟨hz105, h⟩ := gd_e h
      have hb106 : tn x1 < 7 := inb_lt hz105
      refine r_nodes 16 C K hz105 dX5_restart_15 rfl ?_
      obtain ⟨σ107, r108, hF, h⟩ := bd_e h
      refine k_Vi 19 C K (c_X3_bringUp K.2.2.2 g A lay hb106 hF) cp_X3_bringUp (rv_N hb106) mw_821 dX5_restart_16 rfl rfl (Nat.le_of_ble_eq_true rfl) ⟨Nat.le_of_ble_eq_true rfl, Nat.le_of_ble_eq_true rfl⟩ ⟨Nat.le_of_ble_eq_true rfl, Nat.le_of_ble_eq_true rfl⟩ rfl (fun lay => ?_)
      cases h
      exact x_i C M dX5_restart_19
    · cases h
  · cases h
set_option maxHeartbeats 4000000 in
set_option maxRecDepth 100000 in
theorem x_X5_restart {l : Launch} (hst : l.stackTraces = false) (g : GG) (A : Nat → Prop) (lay : Nat → Nat) {σ : CS} {σ' : CS} {ex : Nat} {x1 : Int32}  (h : F_X5_restart σ x1 = some (σ', .inr ex)) : XI l yX5_restart cX5_restart 2 .int 7 111 [.ref (ga g 0), .int x1] (CH g A) g A lay σ σ' ex := by
  unfold F_X5_restart at h
  refine ex_i (own := RX5) (lo := [(0, .ref (ga g 0)), (1, .int x1)]) hst (by decide) rfl rfl (Nat.le_of_ble_eq_true rfl) ?_
  intro p e s m args below meth c C K M hx
  refine j_aload_n 1 C dX5_restart_0 0 rfl rfl ?_
  refine j_iload_n 2 C dX5_restart_1 1 rfl rfl ?_
  rcases bx_e h with ⟨σ101, u102, hF, h⟩ | ⟨σ101, ex1, hF, h⟩
  · refine k_Vv 5 C K (c_X5_requireNode K.2.2.2 g A lay  hF) cp_X5_requireNode (rv_F) mw_506 dX5_restart_2 rfl rfl (Nat.le_of_ble_eq_true rfl) ⟨Nat.le_of_ble_eq_true rfl, Nat.le_of_ble_eq_true rfl⟩ ⟨Nat.le_of_ble_eq_true rfl, Nat.le_of_ble_eq_true rfl⟩ rfl (fun lay => ?_)
    refine j_aload_n 6 C dX5_restart_5 0 rfl rfl ?_
    refine j_iload_n 7 C dX5_restart_6 1 rfl rfl ?_
    rcases bx_e h with ⟨σ103, u104, hF, h⟩ | ⟨σ103, ex1, hF, h⟩
    · refine k_Vv 10 C K (c_X5_requireDown K.2.2.2 g A lay  hF) cp_X5_requireDown (rv_F) mw_800 dX5_restart_7 rfl rfl (Nat.le_of_ble_eq_true rfl) ⟨Nat.le_of_ble_eq_true rfl, Nat.le_of_ble_eq_true rfl⟩ ⟨Nat.le_of_ble_eq_true rfl, Nat.le_of_ble_eq_true rfl⟩ rfl (fun lay => ?_)
      refine j_aload_n 11 C dX5_restart_10 0 rfl rfl ?_
      refine g_F 14 C K 0 (by decide) mw_278 rfl dX5_restart_11 rfl ?_
      refine j_iload_n 15 C dX5_restart_14 1 rfl rfl ?_
      obtain ⟨hz105, h⟩ := gd_e h
      have hb106 : tn x1 < 7 := inb_lt hz105
      refine r_nodes 16 C K hz105 dX5_restart_15 rfl ?_
      obtain ⟨σ107, r108, hF, h⟩ := bd_e h
      refine k_Vi 19 C K (c_X3_bringUp K.2.2.2 g A lay hb106 hF) cp_X3_bringUp (rv_N hb106) mw_821 dX5_restart_16 rfl rfl (Nat.le_of_ble_eq_true rfl) ⟨Nat.le_of_ble_eq_true rfl, Nat.le_of_ble_eq_true rfl⟩ ⟨Nat.le_of_ble_eq_true rfl, Nat.le_of_ble_eq_true rfl⟩ rfl (fun lay => ?_)
      cases h
    · cases h
      exact kx_Vv C K M hx (x_X5_requireDown K.2.2.2 g A lay  hF) cp_X5_requireDown (rv_F) mw_800 dX5_restart_7 rfl rfl (Nat.le_of_ble_eq_true rfl) ⟨Nat.le_of_ble_eq_true rfl, Nat.le_of_ble_eq_true rfl⟩ ⟨Nat.le_of_ble_eq_true rfl, Nat.le_of_ble_eq_true rfl⟩
  · cases h
    exact kx_Vv C K M hx (x_X5_requireNode K.2.2.2 g A lay  hF) cp_X5_requireNode (rv_F) mw_506 dX5_restart_2 rfl rfl (Nat.le_of_ble_eq_true rfl) ⟨Nat.le_of_ble_eq_true rfl, Nat.le_of_ble_eq_true rfl⟩ ⟨Nat.le_of_ble_eq_true rfl, Nat.le_of_ble_eq_true rfl⟩
theorem cp_X5_readFromOthers : CPv yX5_readFromOthers cX5_readFromOthers 5 (some .int) RX5 2 := ⟨mw_839, mw_35, mw_96, mw_840, rfl, by decide, by decide, by decide +kernel⟩
set_option maxHeartbeats 4000000 in
set_option maxRecDepth 100000 in
theorem wn_X5_readFromOthers_103 {l : Launch} {p : Program} {e : Env} {s : State} {m : MethodId} {args : Array Value} {below : List Frame} {meth : Method} {c : Code} {g : GG} {A : Nat → Prop} (C : KX p m c cX5_readFromOthers 5 s args RX5) (K : KC l g A s) (M : KM meth (some .int)) {σ' : CS} {r : Int32} {o1 : Nat} {x2 : Int32} (ho1 : o1 < 7)    (lay : Nat → Nat) (σ : CS) (v3 : Int32)  (h : B_X5_readFromOthers_103 o1 x2 σ v3 = some (σ', r)) : JJ p l e (rmk 3 72 0 0) s m args below meth c (MQ below (va_Qi (fun (r0 : Int32) (u : CS) => r0 = r ∧ u = σ') (BC (CH g A)) A) args s 0 0 A) A 5 (CH g A lay σ) 0 0 103 [(3, .int v3)] [] := by
  unfold B_X5_readFromOthers_103 at h
  refine j_iload_n 104 C dX5_readFromOthers_103 0 rfl rfl ?_
  cases h
  exact x_i C M dX5_readFromOthers_104
set_option maxHeartbeats 4000000 in
set_option maxRecDepth 100000 in
theorem wn_X5_readFromOthers_81 {l : Launch} {p : Program} {e : Env} {s : State} {m : MethodId} {args : Array Value} {below : List Frame} {meth : Method} {c : Code} {g : GG} {A : Nat → Prop} (C : KX p m c cX5_readFromOthers 5 s args RX5) (K : KC l g A s) (M : KM meth (some .int)) {σ' : CS} {r : Int32} {o1 : Nat} {x2 : Int32} (ho1 : o1 < 7)  {self12 : CS → Int32 → Int32 → Option (CS × Int32)} (ih12 : ∀ (lay : Nat → Nat) (σ : CS) (v3 : Int32) (v4 : Int32), self12 σ v3 v4 = some (σ', r) → JJ p l e (rmk 3 72 0 0) s m args below meth c (MQ below (va_Qi (fun (r0 : Int32) (u : CS) => r0 = r ∧ u = σ') (BC (CH g A)) A) args s 0 0 A) A 5 (CH g A lay σ) 0 0 12 [(0, .ref (ga g 0)), (1, .ref (ga g (5 + o1))), (2, .int x2), (3, .int v3), (4, .int v4)] []) (lay : Nat → Nat) (σ : CS) (v3 : Int32) (v4 : Int32)  (h : B_X5_readFromOthers_81 o1 x2 self12 σ v3 v4 = some (σ', r)) : JJ p l e (rmk 3 72 0 0) s m args below meth c (MQ below (va_Qi (fun (r0 : Int32) (u : CS) => r0 = r ∧ u = σ') (BC (CH g A)) A) args s 0 0 A) A 5 (CH g A lay σ) 0 0 81 [(0, .ref (ga g 0)), (1, .ref (ga g (5 + o1))), (2, .int x2), (3, .int v3), (4, .int v4)] [] := by
  unfold B_X5_readFromOthers_81 at h
  obtain ⟨x120, ex120⟩ : ∃ z : Int32, z = v4 + 1 := ⟨_, rfl⟩
  replace h := lt_e h x120 ex120
  refine j_iinc 84 C dX5_readFromOthers_81 4 rfl (v := x120) ((ii_1 _).trans ex120.symm) (lo' := [(4, .int x120), (0, .ref (ga g 0)), (1, .ref (ga g (5 + o1))), (2, .int x2), (3, .int v3)]) (by decide) rfl rfl ?_
  refine j_goto 12 C dX5_readFromOthers_84 (by decide) ?_
  refine j_sub [1, 2, 3, 4, 0] (lo' := [(0, .ref (ga g 0)), (1, .ref (ga g (5 + o1))), (2, .int x2), (3, .int v3), (4, .int x120)]) rfl ?_
  exact ih12 lay σ v3 x120 h
set_option maxHeartbeats 4000000 in
set_option maxRecDepth 100000 in
theorem wn_X5_readFromOthers_12 {l : Launch} {p : Program} {e : Env} {s : State} {m : MethodId} {args : Array Value} {below : List Frame} {meth : Method} {c : Code} {g : GG} {A : Nat → Prop} (C : KX p m c cX5_readFromOthers 5 s args RX5) (K : KC l g A s) (M : KM meth (some .int)) {σ' : CS} {r : Int32} {o1 : Nat} {x2 : Int32} (ho1 : o1 < 7)    : ∀ (fu : Nat) (lay : Nat → Nat) (σ : CS) (v3 : Int32) (v4 : Int32), B_X5_readFromOthers_12 o1 x2 fu σ v3 v4 = some (σ', r) → JJ p l e (rmk 3 72 0 0) s m args below meth c (MQ below (va_Qi (fun (r0 : Int32) (u : CS) => r0 = r ∧ u = σ') (BC (CH g A)) A) args s 0 0 A) A 5 (CH g A lay σ) 0 0 12 [(0, .ref (ga g 0)), (1, .ref (ga g (5 + o1))), (2, .int x2), (3, .int v3), (4, .int v4)] [] := by
  intro fu
  induction fu with
  | zero =>
    intro lay σ v3 v4 h
    exact nomatch (show (none : Option _) = some _ from h)
  | succ fu ih12 =>
    intro lay σ v3 v4 h
    unfold B_X5_readFromOthers_12 at h
    rw [lo3_s] at h
    refine j_iload 14 C dX5_readFromOthers_12 4 rfl rfl ?_
    refine j_aload_n 15 C dX5_readFromOthers_14 0 rfl rfl ?_
    refine g_F 18 C K 6 (by decide) mw_284 rfl dX5_readFromOthers_15 rfl ?_
    refine j_icmp_ge 21 87 C dX5_readFromOthers_18 (by decide) rfl (fun hc103 => ?_) (fun hc103 => ?_)
    · replace h := it_t hc103 h
      refine j_iload_n 88 C dX5_readFromOthers_87 3 rfl rfl ?_
      refine j_aload_n 89 C dX5_readFromOthers_88 0 rfl rfl ?_
      obtain ⟨σ104, r105, hF, h⟩ := bd_e h
      refine k_Vi 92 C K (c_X5_quorum K.2.2.2 g A lay  hF) cp_X5_quorum (rv_F) mw_410 dX5_readFromOthers_89 rfl rfl (Nat.le_of_ble_eq_true rfl) ⟨Nat.le_of_ble_eq_true rfl, Nat.le_of_ble_eq_true rfl⟩ ⟨Nat.le_of_ble_eq_true rfl, Nat.le_of_ble_eq_true rfl⟩ rfl (fun lay => ?_)
      refine j_icmp_lt 95 103 C dX5_readFromOthers_92 (by decide) rfl (fun hc106 => ?_) (fun hc106 => ?_)
      · replace h := it_t hc106 h
        refine j_sub [3] (lo' := [(3, .int v3)]) rfl ?_
        exact wn_X5_readFromOthers_103 C K M ho1 lay σ104 v3 h
      · replace h := it_f hc106 h
        refine j_aload_n 96 C dX5_readFromOthers_95 1 rfl rfl ?_
        refine j_aload_n 97 C dX5_readFromOthers_96 0 rfl rfl ?_
        refine g_F 100 C K 2 (by decide) mw_280 rfl dX5_readFromOthers_97 rfl ?_
        obtain ⟨σ107, u108, hF, h⟩ := bd_e h
        refine k_Vv 103 C K (c_X3_join K.2.2.2 g A lay ho1 (by omega) hF) cp_X3_join (rv_N ho1) mw_842 dX5_readFromOthers_100 rfl rfl (Nat.le_of_ble_eq_true rfl) ⟨Nat.le_of_ble_eq_true rfl, Nat.le_of_ble_eq_true rfl⟩ ⟨Nat.le_of_ble_eq_true rfl, Nat.le_of_ble_eq_true rfl⟩ rfl (fun lay => ?_)
        refine j_sub [3] (lo' := [(3, .int v3)]) rfl ?_
        exact wn_X5_readFromOthers_103 C K M ho1 lay σ107 v3 h
    · replace h := it_f hc103 h
      refine j_aload_n 22 C dX5_readFromOthers_21 0 rfl rfl ?_
      refine j_iload 24 C dX5_readFromOthers_22 4 rfl rfl ?_
      refine j_iload_n 25 C dX5_readFromOthers_24 2 rfl rfl ?_
      obtain ⟨σ109, r110, hF, h⟩ := bd_e h
      refine k_Vi 28 C K (c_X5_gets K.2.2.2 g A lay  hF) cp_X5_gets (rv_F) mw_686 dX5_readFromOthers_25 rfl rfl (Nat.le_of_ble_eq_true rfl) ⟨Nat.le_of_ble_eq_true rfl, Nat.le_of_ble_eq_true rfl⟩ ⟨Nat.le_of_ble_eq_true rfl, Nat.le_of_ble_eq_true rfl⟩ rfl (fun lay => ?_)
      refine j_if_eq 31 81 C dX5_readFromOthers_28 (by decide) rfl (fun hc111 => ?_) (fun hc111 => ?_)
      · replace h := it_t hc111 h
        exact wn_X5_readFromOthers_81 C K M ho1 ih12 lay σ109 v3 v4 h
      · replace h := it_f hc111 h
        refine j_aload_n 32 C dX5_readFromOthers_31 0 rfl rfl ?_
        refine g_F 35 C K 2 (by decide) mw_280 rfl dX5_readFromOthers_32 rfl ?_
        refine j_aload_n 36 C dX5_readFromOthers_35 0 rfl rfl ?_
        refine g_F 39 C K 0 (by decide) mw_278 rfl dX5_readFromOthers_36 rfl ?_
        refine j_iload 41 C dX5_readFromOthers_39 4 rfl rfl ?_
        obtain ⟨hz112, h⟩ := gd_e h
        have hb113 : tn v4 < 7 := inb_lt hz112
        refine r_nodes 42 C K hz112 dX5_readFromOthers_41 rfl ?_
        refine g_N 45 C K hb113 2 (by decide) mw_220 rfl dX5_readFromOthers_42 rfl ?_
        obtain ⟨σ114, u115, hF, h⟩ := bd_e h
        refine k_Vv 48 C K (c_X1_takeNewer K.2.2.2 g A lay (by omega) (by omega) hF) cp_X1_takeNewer (rv_D (by omega)) mw_730 dX5_readFromOthers_45 rfl rfl (Nat.le_of_ble_eq_true rfl) ⟨Nat.le_of_ble_eq_true rfl, Nat.le_of_ble_eq_true rfl⟩ ⟨Nat.le_of_ble_eq_true rfl, Nat.le_of_ble_eq_true rfl⟩ rfl (fun lay => ?_)
        refine j_aload_n 49 C dX5_readFromOthers_48 0 rfl rfl ?_
        refine g_F 52 C K 2 (by decide) mw_280 rfl dX5_readFromOthers_49 rfl ?_
        refine j_aload_n 53 C dX5_readFromOthers_52 0 rfl rfl ?_
        refine g_F 56 C K 2 (by decide) mw_280 rfl dX5_readFromOthers_53 rfl ?_
        refine g_D 59 C K (by omega) 0 (by decide) mw_138 rfl dX5_readFromOthers_56 rfl ?_
        refine j_aload_n 60 C dX5_readFromOthers_59 0 rfl rfl ?_
        refine g_F 63 C K 0 (by decide) mw_278 rfl dX5_readFromOthers_60 rfl ?_
        refine j_iload 65 C dX5_readFromOthers_63 4 rfl rfl ?_
        obtain ⟨hz116, h⟩ := gd_e h
        have hb117 : tn v4 < 7 := inb_lt hz116
        refine r_nodes 66 C K hz116 dX5_readFromOthers_65 rfl ?_
        refine g_N 69 C K hb117 2 (by decide) mw_220 rfl dX5_readFromOthers_66 rfl ?_
        refine g_D 72 C K (by omega) 0 (by decide) mw_138 rfl dX5_readFromOthers_69 rfl ?_
        refine j_mmax 75 C mw_841 dX5_readFromOthers_72 (Nat.le_of_ble_eq_true rfl) (Nat.le_of_ble_eq_true rfl) (Nat.le_of_ble_eq_true rfl) (Nat.le_of_ble_eq_true rfl) rfl ?_
        refine p_D 78 C K (by omega) 0 (by decide) mw_138 rfl rfl dX5_readFromOthers_75 rfl (fun σ118 eσ118 => ?_)
        replace h := lt_e h σ118 eσ118
        obtain ⟨x119, ex119⟩ : ∃ z : Int32, z = v3 + 1 := ⟨_, rfl⟩
        replace h := lt_e h x119 ex119
        refine j_iinc 81 C dX5_readFromOthers_78 3 rfl (v := x119) ((ii_1 _).trans ex119.symm) (lo' := [(3, .int x119), (0, .ref (ga g 0)), (1, .ref (ga g (5 + o1))), (2, .int x2), (4, .int v4)]) (by decide) rfl rfl ?_
        refine j_sub [1, 2, 3, 0, 4] (lo' := [(0, .ref (ga g 0)), (1, .ref (ga g (5 + o1))), (2, .int x2), (3, .int x119), (4, .int v4)]) rfl ?_
        exact wn_X5_readFromOthers_81 C K M ho1 ih12 lay σ118 x119 v4 h
set_option maxHeartbeats 4000000 in
set_option maxRecDepth 100000 in
theorem c_X5_readFromOthers {l : Launch} (hst : l.stackTraces = false) (g : GG) (A : Nat → Prop) (lay : Nat → Nat) {σ : CS} {σ' : CS} {r : Int32} {o1 : Nat} {x2 : Int32} (ho1 : o1 < 7) (h : F_X5_readFromOthers σ o1 x2 = some (σ', r)) : MI l yX5_readFromOthers cX5_readFromOthers 5 .int 3 72 0 0 [.ref (ga g 0), .ref (ga g (5 + o1)), .int x2] (CH g A) g A lay σ σ' r := by
  unfold F_X5_readFromOthers at h
  refine e_i (own := RX5) (lo := [(0, .ref (ga g 0)), (1, .ref (ga g (5 + o1))), (2, .int x2)]) hst (plainFor_of_name (by decide)) rfl rfl (Nat.le_of_ble_eq_true rfl) ?_
  intro p e s m args below meth c C K M
  refine j_aload_n 1 C dX5_readFromOthers_0 0 rfl rfl ?_
  refine g_F 4 C K 2 (by decide) mw_280 rfl dX5_readFromOthers_1 rfl ?_
  obtain ⟨σ101, u102, hF, h⟩ := bd_e h
  refine k_Vv 7 C K (c_X1_reset K.2.2.2 g A lay (by omega) hF) cp_X1_reset (rv_D (by omega)) mw_685 dX5_readFromOthers_4 rfl rfl (Nat.le_of_ble_eq_true rfl) ⟨Nat.le_of_ble_eq_true rfl, Nat.le_of_ble_eq_true rfl⟩ ⟨Nat.le_of_ble_eq_true rfl, Nat.le_of_ble_eq_true rfl⟩ rfl (fun lay => ?_)
  refine j_iconst 8 C dX5_readFromOthers_7 ic_0 rfl ?_
  refine j_istore_n 9 C dX5_readFromOthers_8 (lo' := [(3, .int (0 : Int32)), (0, .ref (ga g 0)), (1, .ref (ga g (5 + o1))), (2, .int x2)]) (by decide) rfl rfl ?_
  refine j_iconst 10 C dX5_readFromOthers_9 ic_0 rfl ?_
  refine j_istore 12 C dX5_readFromOthers_10 (lo' := [(4, .int (0 : Int32)), (3, .int (0 : Int32)), (0, .ref (ga g 0)), (1, .ref (ga g (5 + o1))), (2, .int x2)]) (by decide) rfl rfl ?_
  refine j_sub [2, 3, 4, 1, 0] (lo' := [(0, .ref (ga g 0)), (1, .ref (ga g (5 + o1))), (2, .int x2), (3, .int (0 : Int32)), (4, .int (0 : Int32))]) rfl ?_
  exact wn_X5_readFromOthers_12 C K M ho1 4096 lay σ101 (0 : Int32) (0 : Int32) h
theorem cp_X5_rejoin : CPv yX5_rejoin cX5_rejoin 3 (some .int) RX5 2 := ⟨mw_829, mw_830, mw_96, mw_831, rfl, by decide, by decide, by decide +kernel⟩
set_option maxHeartbeats 4000000 in
set_option maxRecDepth 100000 in
theorem c_X5_rejoin {l : Launch} (hst : l.stackTraces = false) (g : GG) (A : Nat → Prop) (lay : Nat → Nat) {σ : CS} {σ' : CS} {r : Int32} {x1 : Int32} {x2 : Int32}  (h : F_X5_rejoin σ x1 x2 = some (σ', .inl r)) : MI l yX5_rejoin cX5_rejoin 3 .int 7 111 0 0 [.ref (ga g 0), .int x1, .int x2] (CH g A) g A lay σ σ' r := by
  unfold F_X5_rejoin at h
  refine e_i (own := RX5) (lo := [(0, .ref (ga g 0)), (1, .int x1), (2, .int x2)]) hst (plainFor_of_name (by decide)) rfl rfl (Nat.le_of_ble_eq_true rfl) ?_
  intro p e s m args below meth c C K M
  refine j_aload_n 1 C dX5_rejoin_0 0 rfl rfl ?_
  refine j_iload_n 2 C dX5_rejoin_1 1 rfl rfl ?_
  rcases bx_e h with ⟨σ101, u102, hF, h⟩ | ⟨σ101, ex1, hF, h⟩
  · refine k_Vv 5 C K (c_X5_requireNode K.2.2.2 g A lay  hF) cp_X5_requireNode (rv_F) mw_506 dX5_rejoin_2 rfl rfl (Nat.le_of_ble_eq_true rfl) ⟨Nat.le_of_ble_eq_true rfl, Nat.le_of_ble_eq_true rfl⟩ ⟨Nat.le_of_ble_eq_true rfl, Nat.le_of_ble_eq_true rfl⟩ rfl (fun lay => ?_)
    refine j_aload_n 6 C dX5_rejoin_5 0 rfl rfl ?_
    refine j_iload_n 7 C dX5_rejoin_6 2 rfl rfl ?_
    rcases bx_e h with ⟨σ103, u104, hF, h⟩ | ⟨σ103, ex1, hF, h⟩
    · refine k_Vv 10 C K (c_X5_requireReached K.2.2.2 g A lay  hF) cp_X5_requireReached (rv_F) mw_667 dX5_rejoin_7 rfl rfl (Nat.le_of_ble_eq_true rfl) ⟨Nat.le_of_ble_eq_true rfl, Nat.le_of_ble_eq_true rfl⟩ ⟨Nat.le_of_ble_eq_true rfl, Nat.le_of_ble_eq_true rfl⟩ rfl (fun lay => ?_)
      refine j_aload_n 11 C dX5_rejoin_10 0 rfl rfl ?_
      refine g_F 14 C K 0 (by decide) mw_278 rfl dX5_rejoin_11 rfl ?_
      refine j_iload_n 15 C dX5_rejoin_14 1 rfl rfl ?_
      obtain ⟨hz105, h⟩ := gd_e h
      have hb106 : tn x1 < 7 := inb_lt hz105
      refine r_nodes 16 C K hz105 dX5_rejoin_15 rfl ?_
      obtain ⟨σ107, r108, hF, h⟩ := bd_e h
      refine k_Vi 19 C K (c_X3_canRejoin K.2.2.2 g A lay hb106 hF) cp_X3_canRejoin (rv_N hb106) mw_832 dX5_rejoin_16 rfl rfl (Nat.le_of_ble_eq_true rfl) ⟨Nat.le_of_ble_eq_true rfl, Nat.le_of_ble_eq_true rfl⟩ ⟨Nat.le_of_ble_eq_true rfl, Nat.le_of_ble_eq_true rfl⟩ rfl (fun lay => ?_)
      refine j_if_ne 22 32 C dX5_rejoin_19 (by decide) rfl (fun hc109 => ?_) (fun hc109 => ?_)
      · replace h := it_f hc109 h
        refine j_aload_n 33 C dX5_rejoin_32 0 rfl rfl ?_
        refine j_aload_n 34 C dX5_rejoin_33 0 rfl rfl ?_
        refine g_F 37 C K 0 (by decide) mw_278 rfl dX5_rejoin_34 rfl ?_
        refine j_iload_n 38 C dX5_rejoin_37 1 rfl rfl ?_
        obtain ⟨hz110, h⟩ := gd_e h
        have hb111 : tn x1 < 7 := inb_lt hz110
        refine r_nodes 39 C K hz110 dX5_rejoin_38 rfl ?_
        refine j_iload_n 40 C dX5_rejoin_39 2 rfl rfl ?_
        obtain ⟨σ112, r113, hF, h⟩ := bd_e h
        refine k_Vi 43 C K (c_X5_readFromOthers K.2.2.2 g A lay hb111 hF) cp_X5_readFromOthers (rv_F) mw_837 dX5_rejoin_40 rfl rfl (Nat.le_of_ble_eq_true rfl) ⟨Nat.le_of_ble_eq_true rfl, Nat.le_of_ble_eq_true rfl⟩ ⟨Nat.le_of_ble_eq_true rfl, Nat.le_of_ble_eq_true rfl⟩ rfl (fun lay => ?_)
        cases h
        exact x_i C M dX5_rejoin_43
      · replace h := it_t hc109 h
        cases h
    · cases h
  · cases h
set_option maxHeartbeats 4000000 in
set_option maxRecDepth 100000 in
theorem x_X5_rejoin {l : Launch} (hst : l.stackTraces = false) (g : GG) (A : Nat → Prop) (lay : Nat → Nat) {σ : CS} {σ' : CS} {ex : Nat} {x1 : Int32} {x2 : Int32}  (h : F_X5_rejoin σ x1 x2 = some (σ', .inr ex)) : XI l yX5_rejoin cX5_rejoin 3 .int 7 111 [.ref (ga g 0), .int x1, .int x2] (CH g A) g A lay σ σ' ex := by
  unfold F_X5_rejoin at h
  refine ex_i (own := RX5) (lo := [(0, .ref (ga g 0)), (1, .int x1), (2, .int x2)]) hst (by decide) rfl rfl (Nat.le_of_ble_eq_true rfl) ?_
  intro p e s m args below meth c C K M hx
  refine j_aload_n 1 C dX5_rejoin_0 0 rfl rfl ?_
  refine j_iload_n 2 C dX5_rejoin_1 1 rfl rfl ?_
  rcases bx_e h with ⟨σ101, u102, hF, h⟩ | ⟨σ101, ex1, hF, h⟩
  · refine k_Vv 5 C K (c_X5_requireNode K.2.2.2 g A lay  hF) cp_X5_requireNode (rv_F) mw_506 dX5_rejoin_2 rfl rfl (Nat.le_of_ble_eq_true rfl) ⟨Nat.le_of_ble_eq_true rfl, Nat.le_of_ble_eq_true rfl⟩ ⟨Nat.le_of_ble_eq_true rfl, Nat.le_of_ble_eq_true rfl⟩ rfl (fun lay => ?_)
    refine j_aload_n 6 C dX5_rejoin_5 0 rfl rfl ?_
    refine j_iload_n 7 C dX5_rejoin_6 2 rfl rfl ?_
    rcases bx_e h with ⟨σ103, u104, hF, h⟩ | ⟨σ103, ex1, hF, h⟩
    · refine k_Vv 10 C K (c_X5_requireReached K.2.2.2 g A lay  hF) cp_X5_requireReached (rv_F) mw_667 dX5_rejoin_7 rfl rfl (Nat.le_of_ble_eq_true rfl) ⟨Nat.le_of_ble_eq_true rfl, Nat.le_of_ble_eq_true rfl⟩ ⟨Nat.le_of_ble_eq_true rfl, Nat.le_of_ble_eq_true rfl⟩ rfl (fun lay => ?_)
      refine j_aload_n 11 C dX5_rejoin_10 0 rfl rfl ?_
      refine g_F 14 C K 0 (by decide) mw_278 rfl dX5_rejoin_11 rfl ?_
      refine j_iload_n 15 C dX5_rejoin_14 1 rfl rfl ?_
      obtain ⟨hz105, h⟩ := gd_e h
      have hb106 : tn x1 < 7 := inb_lt hz105
      refine r_nodes 16 C K hz105 dX5_rejoin_15 rfl ?_
      obtain ⟨σ107, r108, hF, h⟩ := bd_e h
      refine k_Vi 19 C K (c_X3_canRejoin K.2.2.2 g A lay hb106 hF) cp_X3_canRejoin (rv_N hb106) mw_832 dX5_rejoin_16 rfl rfl (Nat.le_of_ble_eq_true rfl) ⟨Nat.le_of_ble_eq_true rfl, Nat.le_of_ble_eq_true rfl⟩ ⟨Nat.le_of_ble_eq_true rfl, Nat.le_of_ble_eq_true rfl⟩ rfl (fun lay => ?_)
      refine j_if_ne 22 32 C dX5_rejoin_19 (by decide) rfl (fun hc109 => ?_) (fun hc109 => ?_)
      · replace h := it_f hc109 h
        refine j_aload_n 33 C dX5_rejoin_32 0 rfl rfl ?_
        refine j_aload_n 34 C dX5_rejoin_33 0 rfl rfl ?_
        refine g_F 37 C K 0 (by decide) mw_278 rfl dX5_rejoin_34 rfl ?_
        refine j_iload_n 38 C dX5_rejoin_37 1 rfl rfl ?_
        obtain ⟨hz110, h⟩ := gd_e h
        have hb111 : tn x1 < 7 := inb_lt hz110
        refine r_nodes 39 C K hz110 dX5_rejoin_38 rfl ?_
        refine j_iload_n 40 C dX5_rejoin_39 2 rfl rfl ?_
        obtain ⟨σ112, r113, hF, h⟩ := bd_e h
        refine k_Vi 43 C K (c_X5_readFromOthers K.2.2.2 g A lay hb111 hF) cp_X5_readFromOthers (rv_F) mw_837 dX5_rejoin_40 rfl rfl (Nat.le_of_ble_eq_true rfl) ⟨Nat.le_of_ble_eq_true rfl, Nat.le_of_ble_eq_true rfl⟩ ⟨Nat.le_of_ble_eq_true rfl, Nat.le_of_ble_eq_true rfl⟩ rfl (fun lay => ?_)
        cases h
      · replace h := it_t hc109 h
        cases h
        exact jx_3 C K M hx CH_kept mw_599 xs_126 xat_X5_84 dX5_rejoin_22 dX5_rejoin_25 dX5_rejoin_26 dX5_rejoin_28 dX5_rejoin_31 (Nat.le_of_ble_eq_true rfl) (Nat.le_of_ble_eq_true rfl) ⟨Nat.le_of_ble_eq_true rfl, Nat.le_of_ble_eq_true rfl⟩
    · cases h
      exact kx_Vv C K M hx (x_X5_requireReached K.2.2.2 g A lay  hF) cp_X5_requireReached (rv_F) mw_667 dX5_rejoin_7 rfl rfl (Nat.le_of_ble_eq_true rfl) ⟨Nat.le_of_ble_eq_true rfl, Nat.le_of_ble_eq_true rfl⟩ ⟨Nat.le_of_ble_eq_true rfl, Nat.le_of_ble_eq_true rfl⟩
  · cases h
    exact kx_Vv C K M hx (x_X5_requireNode K.2.2.2 g A lay  hF) cp_X5_requireNode (rv_F) mw_506 dX5_rejoin_2 rfl rfl (Nat.le_of_ble_eq_true rfl) ⟨Nat.le_of_ble_eq_true rfl, Nat.le_of_ble_eq_true rfl⟩ ⟨Nat.le_of_ble_eq_true rfl, Nat.le_of_ble_eq_true rfl⟩
theorem cp_X5_append : CPv yX5_append cX5_append 2 (some .int) RX5 1 := ⟨mw_851, mw_852, mw_96, mw_853, rfl, by decide, by decide, by decide +kernel⟩
set_option maxHeartbeats 4000000 in
set_option maxRecDepth 100000 in
theorem wn_X5_append_12 {l : Launch} {p : Program} {e : Env} {s : State} {m : MethodId} {args : Array Value} {below : List Frame} {meth : Method} {c : Code} {g : GG} {A : Nat → Prop} (C : KX p m c cX5_append 2 s args RX5) (K : KC l g A s) (M : KM meth (some .int)) {σ' : CS} {r : Int32} {x1 : Int32}     (lay : Nat → Nat) (σ : CS)   (h : B_X5_append_12 x1 σ  = some (σ', .inl r)) : JJ p l e (rmk 6 90 0 0) s m args below meth c (MQ below (va_Qi (fun (r0 : Int32) (u : CS) => r0 = r ∧ u = σ') (BC (CH g A)) A) args s 0 0 A) A 2 (CH g A lay σ) 0 0 12 [] [] := by
  unfold B_X5_append_12 at h
  cases h
set_option maxHeartbeats 4000000 in
set_option maxRecDepth 100000 in
theorem c_X5_append {l : Launch} (hst : l.stackTraces = false) (g : GG) (A : Nat → Prop) (lay : Nat → Nat) {σ : CS} {σ' : CS} {r : Int32} {x1 : Int32}  (h : F_X5_append σ x1 = some (σ', .inl r)) : MI l yX5_append cX5_append 2 .int 6 90 0 0 [.ref (ga g 0), .int x1] (CH g A) g A lay σ σ' r := by
  unfold F_X5_append at h
  refine e_i (own := RX5) (lo := [(0, .ref (ga g 0)), (1, .int x1)]) hst (plainFor_of_name (by decide)) rfl rfl (Nat.le_of_ble_eq_true rfl) ?_
  intro p e s m args below meth c C K M
  refine j_iload_n 1 C dX5_append_0 1 rfl rfl ?_
  refine j_bipush 3 C dX5_append_1 bp_32 rfl ?_
  refine j_icmp_lt 6 12 C dX5_append_3 (by decide) rfl (fun hc101 => ?_) (fun hc101 => ?_)
  · replace h := it_t hc101 h
    refine j_sub [] (lo' := []) rfl ?_
    exact wn_X5_append_12 C K M  lay σ  h
  · replace h := it_f hc101 h
    refine j_iload_n 7 C dX5_append_6 1 rfl rfl ?_
    refine j_bipush 9 C dX5_append_7 bp_126 rfl ?_
    refine j_icmp_le 12 22 C dX5_append_9 (by decide) rfl (fun hc102 => ?_) (fun hc102 => ?_)
    · replace h := it_t hc102 h
      refine j_aload_n 23 C dX5_append_22 0 rfl rfl ?_
      refine g_F 26 C K 5 (by decide) mw_283 rfl dX5_append_23 rfl ?_
      refine j_bipush 28 C dX5_append_26 bp_60 rfl ?_
      refine j_icmp_lt 31 41 C dX5_append_28 (by decide) rfl (fun hc103 => ?_) (fun hc103 => ?_)
      · replace h := it_t hc103 h
        refine j_aload_n 42 C dX5_append_41 0 rfl rfl ?_
        refine g_F 45 C K 4 (by decide) mw_282 rfl dX5_append_42 rfl ?_
        refine j_aload_n 46 C dX5_append_45 0 rfl rfl ?_
        refine g_F 49 C K 5 (by decide) mw_283 rfl dX5_append_46 rfl ?_
        refine j_iload_n 50 C dX5_append_49 1 rfl rfl ?_
        obtain ⟨hz104, h⟩ := gd_e h
        refine r_ist 51 C K (ar_I _ ) (ca_I _ _ ) hz104 dX5_append_50 rfl (fun σ105 eσ105 => ?_)
        replace h := lt_e h σ105 eσ105
        refine j_aload_n 52 C dX5_append_51 0 rfl rfl ?_
        refine j_dup 53 C dX5_append_52 rfl rfl ?_
        refine g_F 56 C K 5 (by decide) mw_283 rfl dX5_append_53 rfl ?_
        refine j_iconst 57 C dX5_append_56 ic_1 rfl ?_
        refine j_iadd 58 C dX5_append_57 rfl ?_
        refine p_F 61 C K 5 (by decide) mw_283 rfl rfl dX5_append_58 rfl (fun σ106 eσ106 => ?_)
        replace h := lt_e h σ106 eσ106
        refine j_aload_n 62 C dX5_append_61 0 rfl rfl ?_
        refine g_F 65 C K 5 (by decide) mw_283 rfl dX5_append_62 rfl ?_
        cases h
        exact x_i C M dX5_append_65
      · replace h := it_f hc103 h
        cases h
    · replace h := it_f hc102 h
      refine j_sub [] (lo' := []) rfl ?_
      exact wn_X5_append_12 C K M  lay σ  h
set_option maxHeartbeats 4000000 in
set_option maxRecDepth 100000 in
theorem wx_X5_append_12 {l : Launch} {p : Program} {e : Env} {s : State} {m : MethodId} {args : Array Value} {below : List Frame} {meth : Method} {c : Code} {g : GG} {A : Nat → Prop} (C : KX p m c cX5_append 2 s args RX5) (K : KC l g A s) (M : KM meth (some .int)) (hx : ∀ x ∈ c.exceptionTable.toList, False) {σ' : CS} {ex : Nat} {x1 : Int32}     (lay : Nat → Nat) (σ : CS)   (h : B_X5_append_12 x1 σ  = some (σ', .inr ex)) : JJ p l e (rmk 6 90 1 6) s m args below meth c (vx_MQ below (va_Qi (fun (_ : Int32) (_ : CS) => False) (BC (CH g A)) A) (xxX (BC (CH g A)) A σ' ex) args s 1 6 A) A 2 (CH g A lay σ) 0 0 12 [] [] := by
  unfold B_X5_append_12 at h
  cases h
  exact jx_2 C K M hx CH_kept mw_430 xs_131 xat_X5_58 dX5_append_12 dX5_append_15 dX5_append_16 dX5_append_18 dX5_append_21 (Nat.le_of_ble_eq_true rfl) (Nat.le_of_ble_eq_true rfl) ⟨Nat.le_of_ble_eq_true rfl, Nat.le_of_ble_eq_true rfl⟩
set_option maxHeartbeats 4000000 in
set_option maxRecDepth 100000 in
theorem x_X5_append {l : Launch} (hst : l.stackTraces = false) (g : GG) (A : Nat → Prop) (lay : Nat → Nat) {σ : CS} {σ' : CS} {ex : Nat} {x1 : Int32}  (h : F_X5_append σ x1 = some (σ', .inr ex)) : XI l yX5_append cX5_append 2 .int 6 90 [.ref (ga g 0), .int x1] (CH g A) g A lay σ σ' ex := by
  unfold F_X5_append at h
  refine ex_i (own := RX5) (lo := [(0, .ref (ga g 0)), (1, .int x1)]) hst (by decide) rfl rfl (Nat.le_of_ble_eq_true rfl) ?_
  intro p e s m args below meth c C K M hx
  refine j_iload_n 1 C dX5_append_0 1 rfl rfl ?_
  refine j_bipush 3 C dX5_append_1 bp_32 rfl ?_
  refine j_icmp_lt 6 12 C dX5_append_3 (by decide) rfl (fun hc101 => ?_) (fun hc101 => ?_)
  · replace h := it_t hc101 h
    refine j_sub [] (lo' := []) rfl ?_
    exact wx_X5_append_12 C K M hx  lay σ  h
  · replace h := it_f hc101 h
    refine j_iload_n 7 C dX5_append_6 1 rfl rfl ?_
    refine j_bipush 9 C dX5_append_7 bp_126 rfl ?_
    refine j_icmp_le 12 22 C dX5_append_9 (by decide) rfl (fun hc102 => ?_) (fun hc102 => ?_)
    · replace h := it_t hc102 h
      refine j_aload_n 23 C dX5_append_22 0 rfl rfl ?_
      refine g_F 26 C K 5 (by decide) mw_283 rfl dX5_append_23 rfl ?_
      refine j_bipush 28 C dX5_append_26 bp_60 rfl ?_
      refine j_icmp_lt 31 41 C dX5_append_28 (by decide) rfl (fun hc103 => ?_) (fun hc103 => ?_)
      · replace h := it_t hc103 h
        refine j_aload_n 42 C dX5_append_41 0 rfl rfl ?_
        refine g_F 45 C K 4 (by decide) mw_282 rfl dX5_append_42 rfl ?_
        refine j_aload_n 46 C dX5_append_45 0 rfl rfl ?_
        refine g_F 49 C K 5 (by decide) mw_283 rfl dX5_append_46 rfl ?_
        refine j_iload_n 50 C dX5_append_49 1 rfl rfl ?_
        obtain ⟨hz104, h⟩ := gd_e h
        refine r_ist 51 C K (ar_I _ ) (ca_I _ _ ) hz104 dX5_append_50 rfl (fun σ105 eσ105 => ?_)
        replace h := lt_e h σ105 eσ105
        refine j_aload_n 52 C dX5_append_51 0 rfl rfl ?_
        refine j_dup 53 C dX5_append_52 rfl rfl ?_
        refine g_F 56 C K 5 (by decide) mw_283 rfl dX5_append_53 rfl ?_
        refine j_iconst 57 C dX5_append_56 ic_1 rfl ?_
        refine j_iadd 58 C dX5_append_57 rfl ?_
        refine p_F 61 C K 5 (by decide) mw_283 rfl rfl dX5_append_58 rfl (fun σ106 eσ106 => ?_)
        replace h := lt_e h σ106 eσ106
        refine j_aload_n 62 C dX5_append_61 0 rfl rfl ?_
        refine g_F 65 C K 5 (by decide) mw_283 rfl dX5_append_62 rfl ?_
        cases h
      · replace h := it_f hc103 h
        cases h
        exact jx_3 C K M hx CH_kept mw_599 xs_136 xat_X5_84 dX5_append_31 dX5_append_34 dX5_append_35 dX5_append_37 dX5_append_40 (Nat.le_of_ble_eq_true rfl) (Nat.le_of_ble_eq_true rfl) ⟨Nat.le_of_ble_eq_true rfl, Nat.le_of_ble_eq_true rfl⟩
    · replace h := it_f hc102 h
      refine j_sub [] (lo' := []) rfl ?_
      exact wx_X5_append_12 C K M hx  lay σ  h
theorem cp_X5_clearInput : CPv yX5_clearInput cX5_clearInput 2 (some .int) RX5 0 := ⟨mw_323, mw_324, mw_96, mw_325, rfl, by decide, by decide, by decide +kernel⟩
set_option maxHeartbeats 4000000 in
set_option maxRecDepth 100000 in
theorem c_X5_clearInput {l : Launch} (hst : l.stackTraces = false) (g : GG) (A : Nat → Prop) (lay : Nat → Nat) {σ : CS} {σ' : CS} {r : Int32}   (h : F_X5_clearInput σ  = some (σ', r)) : MI l yX5_clearInput cX5_clearInput 2 .int 0 0 0 0 [.ref (ga g 0)] (CH g A) g A lay σ σ' r := by
  unfold F_X5_clearInput at h
  refine e_i (own := RX5) (lo := [(0, .ref (ga g 0))]) hst (plainFor_of_name (by decide)) rfl rfl (Nat.le_of_ble_eq_true rfl) ?_
  intro p e s m args below meth c C K M
  refine j_aload_n 1 C dX5_clearInput_0 0 rfl rfl ?_
  refine g_F 4 C K 5 (by decide) mw_283 rfl dX5_clearInput_1 rfl ?_
  refine j_topi (fun x101 ex101 => ?_)
  replace h := lt_e h x101 ex101
  refine j_istore_n 5 C dX5_clearInput_4 (lo' := [(1, .int x101), (0, .ref (ga g 0))]) (by decide) rfl rfl ?_
  refine j_aload_n 6 C dX5_clearInput_5 1 rfl rfl ?_
  refine j_iconst 7 C dX5_clearInput_6 ic_0 rfl ?_
  refine p_F 10 C K 5 (by decide) mw_283 rfl rfl dX5_clearInput_7 rfl (fun σ102 eσ102 => ?_)
  replace h := lt_e h σ102 eσ102
  refine j_iload_n 11 C dX5_clearInput_10 0 rfl rfl ?_
  cases h
  exact x_i C M dX5_clearInput_11
theorem cp_X5_readInput : CPv yX5_readInput cX5_readInput 2 (some .int) RX5 0 := ⟨mw_332, mw_0, mw_96, mw_333, rfl, by decide, by decide, by decide +kernel⟩
set_option maxHeartbeats 4000000 in
set_option maxRecDepth 100000 in
theorem wn_X5_readInput_9 {l : Launch} {p : Program} {e : Env} {s : State} {m : MethodId} {args : Array Value} {below : List Frame} {meth : Method} {c : Code} {g : GG} {A : Nat → Prop} (C : KX p m c cX5_readInput 2 s args RX5) (K : KC l g A s) (M : KM meth (some .int)) {σ' : CS} {r : Int32}      : ∀ (fu : Nat) (lay : Nat → Nat) (σ : CS) (v1 : Int32), B_X5_readInput_9  fu σ v1 = some (σ', r) → JJ p l e (rmk 3 66 0 0) s m args below meth c (MQ below (va_Qi (fun (r0 : Int32) (u : CS) => r0 = r ∧ u = σ') (BC (CH g A)) A) args s 0 0 A) A 2 (CH g A lay σ) 0 0 9 [(0, .ref (ga g 0)), (1, .int v1)] [] := by
  intro fu
  induction fu with
  | zero =>
    intro lay σ v1 h
    exact nomatch (show (none : Option _) = some _ from h)
  | succ fu ih9 =>
    intro lay σ v1 h
    unfold B_X5_readInput_9 at h
    rw [lo2_s] at h
    refine j_iload_n 10 C dX5_readInput_9 1 rfl rfl ?_
    refine j_aload_n 11 C dX5_readInput_10 0 rfl rfl ?_
    refine g_F 14 C K 5 (by decide) mw_283 rfl dX5_readInput_11 rfl ?_
    refine j_icmp_ge 17 49 C dX5_readInput_14 (by decide) rfl (fun hc103 => ?_) (fun hc103 => ?_)
    · replace h := it_t hc103 h
      refine j_aload_n 50 C dX5_readInput_49 0 rfl rfl ?_
      refine g_F 53 C K 5 (by decide) mw_283 rfl dX5_readInput_50 rfl ?_
      cases h
      exact x_i C M dX5_readInput_53
    · replace h := it_f hc103 h
      refine j_aload_n 18 C dX5_readInput_17 0 rfl rfl ?_
      refine g_F 21 C K 3 (by decide) mw_281 rfl dX5_readInput_18 rfl ?_
      refine j_aload_n 22 C dX5_readInput_21 0 rfl rfl ?_
      refine g_F 25 C K 4 (by decide) mw_282 rfl dX5_readInput_22 rfl ?_
      refine j_iload_n 26 C dX5_readInput_25 1 rfl rfl ?_
      obtain ⟨hz104, h⟩ := gd_e h
      refine r_ild 27 C K (ar_I _ ) (ca_I _ _ ) hz104 dX5_readInput_26 rfl ?_
      refine j_aload_n 28 C dX5_readInput_27 0 rfl rfl ?_
      refine g_F 31 C K 6 (by decide) mw_284 rfl dX5_readInput_28 rfl ?_
      refine j_aload_n 32 C dX5_readInput_31 0 rfl rfl ?_
      refine g_F 35 C K 7 (by decide) mw_285 rfl dX5_readInput_32 rfl ?_
      obtain ⟨σ105, r106, hF, h⟩ := bd_e h
      refine k_Vi 38 C K (c_X2_take K.2.2.2 g A lay  hF) cp_X2_take (rv_R) mw_338 dX5_readInput_35 rfl rfl (Nat.le_of_ble_eq_true rfl) ⟨Nat.le_of_ble_eq_true rfl, Nat.le_of_ble_eq_true rfl⟩ ⟨Nat.le_of_ble_eq_true rfl, Nat.le_of_ble_eq_true rfl⟩ rfl (fun lay => ?_)
      refine j_if_ne 41 43 C dX5_readInput_38 (by decide) rfl (fun hc107 => ?_) (fun hc107 => ?_)
      · replace h := it_f hc107 h
        obtain ⟨x108, ex108⟩ : ∃ z : Int32, z = v1 + 1 := ⟨_, rfl⟩
        replace h := lt_e h x108 ex108
        refine j_iinc 46 C dX5_readInput_43 1 rfl (v := x108) ((ii_1 _).trans ex108.symm) (lo' := [(1, .int x108), (0, .ref (ga g 0))]) (by decide) rfl rfl ?_
        refine j_goto 9 C dX5_readInput_46 (by decide) ?_
        refine j_sub [1, 0] (lo' := [(0, .ref (ga g 0)), (1, .int x108)]) rfl ?_
        exact ih9 lay σ105 x108 h
      · replace h := it_t hc107 h
        refine j_iload_n 42 C dX5_readInput_41 1 rfl rfl ?_
        cases h
        exact x_i C M dX5_readInput_42
set_option maxHeartbeats 4000000 in
set_option maxRecDepth 100000 in
theorem c_X5_readInput {l : Launch} (hst : l.stackTraces = false) (g : GG) (A : Nat → Prop) (lay : Nat → Nat) {σ : CS} {σ' : CS} {r : Int32}   (h : F_X5_readInput σ  = some (σ', r)) : MI l yX5_readInput cX5_readInput 2 .int 3 66 0 0 [.ref (ga g 0)] (CH g A) g A lay σ σ' r := by
  unfold F_X5_readInput at h
  refine e_i (own := RX5) (lo := [(0, .ref (ga g 0))]) hst (plainFor_of_name (by decide)) rfl rfl (Nat.le_of_ble_eq_true rfl) ?_
  intro p e s m args below meth c C K M
  refine j_aload_n 1 C dX5_readInput_0 0 rfl rfl ?_
  refine g_F 4 C K 3 (by decide) mw_281 rfl dX5_readInput_1 rfl ?_
  obtain ⟨σ101, u102, hF, h⟩ := bd_e h
  refine k_Vv 7 C K (c_X2_reset K.2.2.2 g A lay  hF) cp_X2_reset (rv_R) mw_334 dX5_readInput_4 rfl rfl (Nat.le_of_ble_eq_true rfl) ⟨Nat.le_of_ble_eq_true rfl, Nat.le_of_ble_eq_true rfl⟩ ⟨Nat.le_of_ble_eq_true rfl, Nat.le_of_ble_eq_true rfl⟩ rfl (fun lay => ?_)
  refine j_iconst 8 C dX5_readInput_7 ic_0 rfl ?_
  refine j_istore_n 9 C dX5_readInput_8 (lo' := [(1, .int (0 : Int32)), (0, .ref (ga g 0))]) (by decide) rfl rfl ?_
  refine j_sub [1, 0] (lo' := [(0, .ref (ga g 0)), (1, .int (0 : Int32))]) rfl ?_
  exact wn_X5_readInput_9 C K M  4096 lay σ101 (0 : Int32) h
theorem cp_X5_firstError : CPv yX5_firstError cX5_firstError 1 (some .int) RX5 0 := ⟨mw_327, mw_328, mw_96, mw_329, rfl, by decide, by decide, by decide +kernel⟩
set_option maxHeartbeats 4000000 in
set_option maxRecDepth 100000 in
theorem c_X5_firstError {l : Launch} (hst : l.stackTraces = false) (g : GG) (A : Nat → Prop) (lay : Nat → Nat) {σ : CS} {σ' : CS} {r : Int32}   (h : F_X5_firstError σ  = some (σ', r)) : MI l yX5_firstError cX5_firstError 1 .int 4 87 0 0 [.ref (ga g 0)] (CH g A) g A lay σ σ' r := by
  unfold F_X5_firstError at h
  refine e_i (own := RX5) (lo := [(0, .ref (ga g 0))]) hst (plainFor_of_name (by decide)) rfl rfl (Nat.le_of_ble_eq_true rfl) ?_
  intro p e s m args below meth c C K M
  refine j_aload_n 1 C dX5_firstError_0 0 rfl rfl ?_
  obtain ⟨σ101, r102, hF, h⟩ := bd_e h
  refine k_Vi 4 C K (c_X5_readInput K.2.2.2 g A lay  hF) cp_X5_readInput (rv_F) mw_330 dX5_firstError_1 rfl rfl (Nat.le_of_ble_eq_true rfl) ⟨Nat.le_of_ble_eq_true rfl, Nat.le_of_ble_eq_true rfl⟩ ⟨Nat.le_of_ble_eq_true rfl, Nat.le_of_ble_eq_true rfl⟩ rfl (fun lay => ?_)
  cases h
  exact x_i C M dX5_firstError_4
theorem cp_X5_isPossible : CPv yX5_isPossible cX5_isPossible 2 (some .boolean) RX5 1 := ⟨mw_874, mw_37, mw_96, mw_875, rfl, by decide, by decide, by decide +kernel⟩
set_option maxHeartbeats 4000000 in
set_option maxRecDepth 100000 in
theorem c_X5_isPossible {l : Launch} (hst : l.stackTraces = false) (g : GG) (A : Nat → Prop) (lay : Nat → Nat) {σ : CS} {σ' : CS} {r : Int32} {o1 : Nat} (ho1 : o1 < 7) (h : F_X5_isPossible σ o1 = some (σ', r)) : MI l yX5_isPossible cX5_isPossible 2 .boolean 1 20 0 0 [.ref (ga g 0), .ref (ga g (5 + o1))] (CH g A) g A lay σ σ' r := by
  unfold F_X5_isPossible at h
  refine e_i (own := RX5) (lo := [(0, .ref (ga g 0)), (1, .ref (ga g (5 + o1)))]) hst (plainFor_of_name (by decide)) rfl rfl (Nat.le_of_ble_eq_true rfl) ?_
  intro p e s m args below meth c C K M
  refine j_aload_n 1 C dX5_isPossible_0 0 rfl rfl ?_
  refine g_F 4 C K 3 (by decide) mw_281 rfl dX5_isPossible_1 rfl ?_
  refine g_R 7 C K 0 (by decide) mw_158 rfl dX5_isPossible_4 rfl ?_
  refine j_topi (fun x101 ex101 => ?_)
  replace h := lt_e h x101 ex101
  by_cases hc102 : x101 = 97
  · replace h := it_t hc102 h
    refine j_lookup 69 C dX5_isPossible_7 (off := 62) (by decide) (by rw [hc102]; decide) (by decide) ?_
    refine j_aload_n 70 C dX5_isPossible_69 1 rfl rfl ?_
    obtain ⟨σ103, r104, hF, h⟩ := bd_e h
    refine k_Vi 73 C K (c_X3_hasRound K.2.2.2 g A lay ho1 hF) cp_X3_hasRound (rv_N ho1) mw_587 dX5_isPossible_70 rfl rfl (Nat.le_of_ble_eq_true rfl) ⟨Nat.le_of_ble_eq_true rfl, Nat.le_of_ble_eq_true rfl⟩ ⟨Nat.le_of_ble_eq_true rfl, Nat.le_of_ble_eq_true rfl⟩ rfl (fun lay => ?_)
    obtain ⟨hz105, h⟩ := gd_e h
    cases h
    exact x_z C M dX5_isPossible_73 hz105
  replace h := it_f hc102 h
  by_cases hc106 : x101 = 99
  · replace h := it_t hc106 h
    refine j_lookup 74 C dX5_isPossible_7 (off := 67) (by decide) (by rw [hc106]; decide) (by decide) ?_
    refine j_aload_n 75 C dX5_isPossible_74 1 rfl rfl ?_
    refine g_N 78 C K ho1 5 (by decide) mw_226 rfl dX5_isPossible_75 rfl ?_
    obtain ⟨hz107, h⟩ := gd_e h
    cases h
    exact x_z C M dX5_isPossible_78 hz107
  replace h := it_f hc106 h
  by_cases hc108 : x101 = 102
  · replace h := it_t hc108 h
    refine j_lookup 74 C dX5_isPossible_7 (off := 67) (by decide) (by rw [hc108]; decide) (by decide) ?_
    refine j_aload_n 75 C dX5_isPossible_74 1 rfl rfl ?_
    refine g_N 78 C K ho1 5 (by decide) mw_226 rfl dX5_isPossible_75 rfl ?_
    obtain ⟨hz109, h⟩ := gd_e h
    cases h
    exact x_z C M dX5_isPossible_78 hz109
  replace h := it_f hc108 h
  by_cases hc110 : x101 = 112
  · replace h := it_t hc110 h
    refine j_lookup 64 C dX5_isPossible_7 (off := 57) (by decide) (by rw [hc110]; decide) (by decide) ?_
    refine j_aload_n 65 C dX5_isPossible_64 1 rfl rfl ?_
    obtain ⟨σ111, r112, hF, h⟩ := bd_e h
    refine k_Vi 68 C K (c_X3_takesPart K.2.2.2 g A lay ho1 hF) cp_X3_takesPart (rv_N ho1) mw_672 dX5_isPossible_65 rfl rfl (Nat.le_of_ble_eq_true rfl) ⟨Nat.le_of_ble_eq_true rfl, Nat.le_of_ble_eq_true rfl⟩ ⟨Nat.le_of_ble_eq_true rfl, Nat.le_of_ble_eq_true rfl⟩ rfl (fun lay => ?_)
    obtain ⟨hz113, h⟩ := gd_e h
    cases h
    exact x_z C M dX5_isPossible_68 hz113
  replace h := it_f hc110 h
  by_cases hc114 : x101 = 114
  · replace h := it_t hc114 h
    refine j_lookup 79 C dX5_isPossible_7 (off := 72) (by decide) (by rw [hc114]; decide) (by decide) ?_
    refine j_aload_n 80 C dX5_isPossible_79 1 rfl rfl ?_
    refine g_N 83 C K ho1 5 (by decide) mw_226 rfl dX5_isPossible_80 rfl ?_
    refine j_if_ne 86 90 C dX5_isPossible_83 (by decide) rfl (fun hc115 => ?_) (fun hc115 => ?_)
    · replace h := it_f hc115 h
      refine j_iconst 91 C dX5_isPossible_90 ic_0 rfl ?_
      cases h
      exact x_z C M dX5_isPossible_91 (by decide)
    · replace h := it_t hc115 h
      refine j_iconst 87 C dX5_isPossible_86 ic_1 rfl ?_
      refine j_goto 91 C dX5_isPossible_87 (by decide) ?_
      cases h
      exact x_z C M dX5_isPossible_91 (by decide)
  replace h := it_f hc114 h
  by_cases hc116 : x101 = 119
  · replace h := it_t hc116 h
    refine j_lookup 79 C dX5_isPossible_7 (off := 72) (by decide) (by rw [hc116]; decide) (by decide) ?_
    refine j_aload_n 80 C dX5_isPossible_79 1 rfl rfl ?_
    refine g_N 83 C K ho1 5 (by decide) mw_226 rfl dX5_isPossible_80 rfl ?_
    refine j_if_ne 86 90 C dX5_isPossible_83 (by decide) rfl (fun hc117 => ?_) (fun hc117 => ?_)
    · replace h := it_f hc117 h
      refine j_iconst 91 C dX5_isPossible_90 ic_0 rfl ?_
      cases h
      exact x_z C M dX5_isPossible_91 (by decide)
    · replace h := it_t hc117 h
      refine j_iconst 87 C dX5_isPossible_86 ic_1 rfl ?_
      refine j_goto 91 C dX5_isPossible_87 (by decide) ?_
      cases h
      exact x_z C M dX5_isPossible_91 (by decide)
  replace h := it_f hc116 h
  refine j_lookup 92 C dX5_isPossible_7 (off := 85) (by decide) (by refine (lv_osw hc102 (by decide)).trans ?_; refine (lv_osw hc106 (by decide)).trans ?_; refine (lv_osw hc108 (by decide)).trans ?_; refine (lv_osw hc110 (by decide)).trans ?_; refine (lv_osw hc114 (by decide)).trans ?_; refine (lv_osw hc116 (by decide)).trans ?_; rfl) (by decide) ?_
  refine j_aload_n 93 C dX5_isPossible_92 1 rfl rfl ?_
  obtain ⟨σ118, r119, hF, h⟩ := bd_e h
  refine k_Vi 96 C K (c_X3_canRejoin K.2.2.2 g A lay ho1 hF) cp_X3_canRejoin (rv_N ho1) mw_832 dX5_isPossible_93 rfl rfl (Nat.le_of_ble_eq_true rfl) ⟨Nat.le_of_ble_eq_true rfl, Nat.le_of_ble_eq_true rfl⟩ ⟨Nat.le_of_ble_eq_true rfl, Nat.le_of_ble_eq_true rfl⟩ rfl (fun lay => ?_)
  obtain ⟨hz120, h⟩ := gd_e h
  cases h
  exact x_z C M dX5_isPossible_96 hz120
theorem cp_X5_carryOutEvent : CPv yX5_carryOutEvent cX5_carryOutEvent 2 (some .boolean) RX5 0 := ⟨mw_870, mw_36, mw_96, mw_871, rfl, by decide, by decide, by decide +kernel⟩
set_option maxHeartbeats 4000000 in
set_option maxRecDepth 100000 in
theorem wn_X5_carryOutEvent_187 {l : Launch} {p : Program} {e : Env} {s : State} {m : MethodId} {args : Array Value} {below : List Frame} {meth : Method} {c : Code} {g : GG} {A : Nat → Prop} (C : KX p m c cX5_carryOutEvent 2 s args RX5) (K : KC l g A s) (M : KM meth (some .boolean)) {σ' : CS} {r : Int32}      (lay : Nat → Nat) (σ : CS)   (h : B_X5_carryOutEvent_187  σ  = some (σ', r)) : JJ p l e (rmk 7 183 24 12288) s m args below meth c (MQ below (va_Qi (fun (r0 : Int32) (u : CS) => r0 = r ∧ u = σ') (BC (CH g A)) A) args s 24 12288 A) A 2 (CH g A lay σ) 24 12288 187 [] [] := by
  unfold B_X5_carryOutEvent_187 at h
  refine j_iconst 188 C dX5_carryOutEvent_187 ic_1 rfl ?_
  cases h
  exact x_z C M dX5_carryOutEvent_188 (by decide)
set_option maxHeartbeats 4000000 in
set_option maxRecDepth 100000 in
theorem c_X5_carryOutEvent {l : Launch} (hst : l.stackTraces = false) (g : GG) (A : Nat → Prop) (lay : Nat → Nat) {σ : CS} {σ' : CS} {r : Int32}   (h : F_X5_carryOutEvent σ  = some (σ', r)) : MI l yX5_carryOutEvent cX5_carryOutEvent 2 .boolean 7 183 24 12288 [.ref (ga g 0)] (CH g A) g A lay σ σ' r := by
  unfold F_X5_carryOutEvent at h
  refine e_i (own := RX5) (lo := [(0, .ref (ga g 0))]) hst (plainFor_of_name (by decide)) rfl rfl (Nat.le_of_ble_eq_true rfl) ?_
  intro p e s m args below meth c C K M
  refine j_aload_n 1 C dX5_carryOutEvent_0 0 rfl rfl ?_
  refine g_F 4 C K 0 (by decide) mw_278 rfl dX5_carryOutEvent_1 rfl ?_
  refine j_aload_n 5 C dX5_carryOutEvent_4 0 rfl rfl ?_
  refine g_F 8 C K 3 (by decide) mw_281 rfl dX5_carryOutEvent_5 rfl ?_
  refine g_R 11 C K 1 (by decide) mw_160 rfl dX5_carryOutEvent_8 rfl ?_
  obtain ⟨hz101, h⟩ := gd_e h
  have hb102 : tn (σ 71 0 0) < 7 := inb_lt hz101
  refine r_nodes 12 C K hz101 dX5_carryOutEvent_11 rfl ?_
  refine j_astore_n 13 C dX5_carryOutEvent_12 (lo' := [(1, .ref (ga g (5 + (tn (σ 71 0 0))))), (0, .ref (ga g 0))]) (by decide) rfl rfl ?_
  refine j_aload_n 14 C dX5_carryOutEvent_13 1 rfl rfl ?_
  refine j_aload_n 15 C dX5_carryOutEvent_14 0 rfl rfl ?_
  obtain ⟨σ103, r104, hF, h⟩ := bd_e h
  refine k_Vi 18 C K (c_X5_isPossible K.2.2.2 g A lay hb102 hF) cp_X5_isPossible (rv_F) mw_872 dX5_carryOutEvent_15 rfl rfl (Nat.le_of_ble_eq_true rfl) ⟨Nat.le_of_ble_eq_true rfl, Nat.le_of_ble_eq_true rfl⟩ ⟨by simp only [rmk]; omega, by simp only [rmk]; omega⟩ rfl (fun lay => ?_)
  refine j_if_ne 21 23 C dX5_carryOutEvent_18 (by decide) rfl (fun hc105 => ?_) (fun hc105 => ?_)
  · replace h := it_f hc105 h
    refine j_aload_n 24 C dX5_carryOutEvent_23 1 rfl rfl ?_
    refine g_F 27 C K 3 (by decide) mw_281 rfl dX5_carryOutEvent_24 rfl ?_
    refine g_R 30 C K 0 (by decide) mw_158 rfl dX5_carryOutEvent_27 rfl ?_
    refine j_topi (fun x106 ex106 => ?_)
    replace h := lt_e h x106 ex106
    by_cases hc107 : x106 = 97
    · replace h := it_t hc107 h
      refine j_lookup 104 C dX5_carryOutEvent_30 (off := 74) (by decide) (by rw [hc107]; decide) (by decide) ?_
      refine j_aload_n 105 C dX5_carryOutEvent_104 1 rfl rfl ?_
      refine j_aload_n 106 C dX5_carryOutEvent_105 0 rfl rfl ?_
      refine j_aload_n 107 C dX5_carryOutEvent_106 1 rfl rfl ?_
      refine g_F 110 C K 3 (by decide) mw_281 rfl dX5_carryOutEvent_107 rfl ?_
      refine g_R 113 C K 2 (by decide) mw_162 rfl dX5_carryOutEvent_110 rfl ?_
      refine j_aload_n 114 C dX5_carryOutEvent_113 1 rfl rfl ?_
      refine g_F 117 C K 3 (by decide) mw_281 rfl dX5_carryOutEvent_114 rfl ?_
      refine g_R 120 C K 3 (by decide) mw_164 rfl dX5_carryOutEvent_117 rfl ?_
      refine j_aload_n 121 C dX5_carryOutEvent_120 1 rfl rfl ?_
      refine g_F 124 C K 3 (by decide) mw_281 rfl dX5_carryOutEvent_121 rfl ?_
      refine g_R 127 C K 4 (by decide) mw_166 rfl dX5_carryOutEvent_124 rfl ?_
      obtain ⟨σ108, r109, hF, h⟩ := bd_e h
      refine k_Vi 130 C K (c_X5_sendAccept K.2.2.2 g A lay hb102 hF) cp_X5_sendAccept (rv_F) mw_747 dX5_carryOutEvent_127 rfl rfl (Nat.le_of_ble_eq_true rfl) ⟨Nat.le_of_ble_eq_true rfl, Nat.le_of_ble_eq_true rfl⟩ ⟨by simp only [rmk]; omega, by simp only [rmk]; omega⟩ rfl (fun lay => ?_)
      refine j_pop 131 C dX5_carryOutEvent_130 rfl rfl ?_
      refine j_goto 187 C dX5_carryOutEvent_131 (by decide) ?_
      refine j_sub [] (lo' := []) rfl ?_
      exact wn_X5_carryOutEvent_187 C K M  lay σ108  h
    replace h := it_f hc107 h
    by_cases hc110 : x106 = 99
    · replace h := it_t hc110 h
      refine j_lookup 142 C dX5_carryOutEvent_30 (off := 112) (by decide) (by rw [hc110]; decide) (by decide) ?_
      refine j_aload_n 143 C dX5_carryOutEvent_142 1 rfl rfl ?_
      refine j_aload_n 144 C dX5_carryOutEvent_143 0 rfl rfl ?_
      refine j_aload_n 145 C dX5_carryOutEvent_144 1 rfl rfl ?_
      refine g_F 148 C K 3 (by decide) mw_281 rfl dX5_carryOutEvent_145 rfl ?_
      refine g_R 151 C K 5 (by decide) mw_168 rfl dX5_carryOutEvent_148 rfl ?_
      obtain ⟨σ111, r112, hF, h⟩ := bd_e h
      refine k_Vi 154 C K (c_X5_bringDown K.2.2.2 g A lay hb102 hF) cp_X5_bringDown (rv_F) mw_779 dX5_carryOutEvent_151 rfl rfl (Nat.le_of_ble_eq_true rfl) ⟨Nat.le_of_ble_eq_true rfl, Nat.le_of_ble_eq_true rfl⟩ ⟨by simp only [rmk]; omega, by simp only [rmk]; omega⟩ rfl (fun lay => ?_)
      refine j_pop 155 C dX5_carryOutEvent_154 rfl rfl ?_
      refine j_goto 187 C dX5_carryOutEvent_155 (by decide) ?_
      refine j_sub [] (lo' := []) rfl ?_
      refine j_widen (k' := 24) (n' := 12288) (by omega) (by omega) ?_
      exact wn_X5_carryOutEvent_187 C K M  lay σ111  h
    replace h := it_f hc110 h
    by_cases hc113 : x106 = 102
    · replace h := it_t hc113 h
      refine j_lookup 134 C dX5_carryOutEvent_30 (off := 104) (by decide) (by rw [hc113]; decide) (by decide) ?_
      refine j_aload_n 135 C dX5_carryOutEvent_134 0 rfl rfl ?_
      obtain ⟨σ114, r115, hF, h⟩ := bd_e h
      refine k_Vi 138 C K (c_X3_carryOutAll K.2.2.2 g A lay hb102 hF) cp_X3_carryOutAll (rv_N hb102) mw_721 dX5_carryOutEvent_135 rfl rfl (Nat.le_of_ble_eq_true rfl) ⟨Nat.le_of_ble_eq_true rfl, Nat.le_of_ble_eq_true rfl⟩ ⟨by simp only [rmk]; omega, by simp only [rmk]; omega⟩ rfl (fun lay => ?_)
      refine j_pop 139 C dX5_carryOutEvent_138 rfl rfl ?_
      refine j_goto 187 C dX5_carryOutEvent_139 (by decide) ?_
      refine j_sub [] (lo' := []) rfl ?_
      refine j_widen (k' := 24) (n' := 12288) (by omega) (by omega) ?_
      exact wn_X5_carryOutEvent_187 C K M  lay σ114  h
    replace h := it_f hc113 h
    by_cases hc116 : x106 = 112
    · replace h := it_t hc116 h
      refine j_lookup 88 C dX5_carryOutEvent_30 (off := 58) (by decide) (by rw [hc116]; decide) (by decide) ?_
      refine j_aload_n 89 C dX5_carryOutEvent_88 1 rfl rfl ?_
      refine j_aload_n 90 C dX5_carryOutEvent_89 0 rfl rfl ?_
      refine j_aload_n 91 C dX5_carryOutEvent_90 1 rfl rfl ?_
      refine g_F 94 C K 3 (by decide) mw_281 rfl dX5_carryOutEvent_91 rfl ?_
      refine g_R 97 C K 4 (by decide) mw_166 rfl dX5_carryOutEvent_94 rfl ?_
      obtain ⟨σ117, r118, hF, h⟩ := bd_e h
      refine k_Vi 100 C K (c_X5_sendPrepare K.2.2.2 g A lay hb102 hF) cp_X5_sendPrepare (rv_F) mw_677 dX5_carryOutEvent_97 rfl rfl (Nat.le_of_ble_eq_true rfl) ⟨Nat.le_of_ble_eq_true rfl, Nat.le_of_ble_eq_true rfl⟩ ⟨by simp only [rmk]; omega, by simp only [rmk]; omega⟩ rfl (fun lay => ?_)
      refine j_pop 101 C dX5_carryOutEvent_100 rfl rfl ?_
      refine j_goto 187 C dX5_carryOutEvent_101 (by decide) ?_
      refine j_sub [] (lo' := []) rfl ?_
      exact wn_X5_carryOutEvent_187 C K M  lay σ117  h
    replace h := it_f hc116 h
    by_cases hc119 : x106 = 114
    · replace h := it_t hc119 h
      refine j_lookup 166 C dX5_carryOutEvent_30 (off := 136) (by decide) (by rw [hc119]; decide) (by decide) ?_
      refine j_aload_n 167 C dX5_carryOutEvent_166 0 rfl rfl ?_
      obtain ⟨σ120, r121, hF, h⟩ := bd_e h
      refine k_Vi 170 C K (c_X3_bringUp K.2.2.2 g A lay hb102 hF) cp_X3_bringUp (rv_N hb102) mw_821 dX5_carryOutEvent_167 rfl rfl (Nat.le_of_ble_eq_true rfl) ⟨Nat.le_of_ble_eq_true rfl, Nat.le_of_ble_eq_true rfl⟩ ⟨by simp only [rmk]; omega, by simp only [rmk]; omega⟩ rfl (fun lay => ?_)
      refine j_pop 171 C dX5_carryOutEvent_170 rfl rfl ?_
      refine j_goto 187 C dX5_carryOutEvent_171 (by decide) ?_
      refine j_sub [] (lo' := []) rfl ?_
      refine j_widen (k' := 24) (n' := 12288) (by omega) (by omega) ?_
      exact wn_X5_carryOutEvent_187 C K M  lay σ120  h
    replace h := it_f hc119 h
    by_cases hc122 : x106 = 119
    · replace h := it_t hc122 h
      refine j_lookup 158 C dX5_carryOutEvent_30 (off := 128) (by decide) (by rw [hc122]; decide) (by decide) ?_
      refine j_aload_n 159 C dX5_carryOutEvent_158 0 rfl rfl ?_
      obtain ⟨σ123, r124, hF, h⟩ := bd_e h
      refine k_Vi 162 C K (c_X3_loseDisk K.2.2.2 g A lay hb102 hF) cp_X3_loseDisk (rv_N hb102) mw_805 dX5_carryOutEvent_159 rfl rfl (Nat.le_of_ble_eq_true rfl) ⟨Nat.le_of_ble_eq_true rfl, Nat.le_of_ble_eq_true rfl⟩ ⟨by simp only [rmk]; omega, by simp only [rmk]; omega⟩ rfl (fun lay => ?_)
      refine j_pop 163 C dX5_carryOutEvent_162 rfl rfl ?_
      refine j_goto 187 C dX5_carryOutEvent_163 (by decide) ?_
      refine j_sub [] (lo' := []) rfl ?_
      refine j_widen (k' := 24) (n' := 12288) (by omega) (by omega) ?_
      exact wn_X5_carryOutEvent_187 C K M  lay σ123  h
    replace h := it_f hc122 h
    refine j_lookup 174 C dX5_carryOutEvent_30 (off := 144) (by decide) (by refine (lv_osw hc107 (by decide)).trans ?_; refine (lv_osw hc110 (by decide)).trans ?_; refine (lv_osw hc113 (by decide)).trans ?_; refine (lv_osw hc116 (by decide)).trans ?_; refine (lv_osw hc119 (by decide)).trans ?_; refine (lv_osw hc122 (by decide)).trans ?_; rfl) (by decide) ?_
    refine j_aload_n 175 C dX5_carryOutEvent_174 1 rfl rfl ?_
    refine j_aload_n 176 C dX5_carryOutEvent_175 0 rfl rfl ?_
    refine j_aload_n 177 C dX5_carryOutEvent_176 1 rfl rfl ?_
    refine g_F 180 C K 3 (by decide) mw_281 rfl dX5_carryOutEvent_177 rfl ?_
    refine g_R 183 C K 4 (by decide) mw_166 rfl dX5_carryOutEvent_180 rfl ?_
    obtain ⟨σ125, r126, hF, h⟩ := bd_e h
    refine k_Vi 186 C K (c_X5_readFromOthers K.2.2.2 g A lay hb102 hF) cp_X5_readFromOthers (rv_F) mw_837 dX5_carryOutEvent_183 rfl rfl (Nat.le_of_ble_eq_true rfl) ⟨Nat.le_of_ble_eq_true rfl, Nat.le_of_ble_eq_true rfl⟩ ⟨by simp only [rmk]; omega, by simp only [rmk]; omega⟩ rfl (fun lay => ?_)
    refine j_pop 187 C dX5_carryOutEvent_186 rfl rfl ?_
    refine j_sub [] (lo' := []) rfl ?_
    refine j_widen (k' := 24) (n' := 12288) (by omega) (by omega) ?_
    exact wn_X5_carryOutEvent_187 C K M  lay σ125  h
  · replace h := it_t hc105 h
    refine j_iconst 22 C dX5_carryOutEvent_21 ic_0 rfl ?_
    cases h
    refine j_widen (k' := 24) (n' := 12288) (by omega) (by omega) ?_
    exact x_z C M dX5_carryOutEvent_22 (by decide)
