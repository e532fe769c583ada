theorem cp_X5_accept : CPv yX5_accept cX5_accept 5 (some .int) RX5 4 := ⟨mw_753, mw_754, mw_98, mw_755, rfl, by decide, by decide, by decide +kernel⟩
set_option maxHeartbeats 4000000 in
set_option maxRecDepth 100000 in
theorem wn_X5_accept_20 {l : Launch} {p : Program} {e : Env} {s : State} {m : MethodId} {args : Array Value} {below : List Frame} {meth : Method} {c : Code} {g : GG} {A : Nat → Prop} (C : KX p m c cX5_accept 5 s args RX5) (K : KC l g A s) (M : KM meth (some .int)) {σ' : CS} {r : Int32} {x1 : Int32} {x2 : Int32} {x3 : Int32} {x4 : Int32}     (lay : Nat → Nat) (σ : CS)   (h : B_X5_accept_20 x1 x2 x3 x4 σ  = some (σ', .inl r)) : JJ p l e (rmk 7 183 24 12288) s m args below meth c (MQ below (va_Qi (fun (r0 : Int32) (u : CS) => r0 = r ∧ u = σ') (BC (CH g A)) A) args s 24 12288 A) A 5 (CH g A lay σ) 0 0 20 [] [] := by
  unfold B_X5_accept_20 at h
  cases h
set_option maxHeartbeats 4000000 in
set_option maxRecDepth 100000 in
theorem c_X5_accept {l : Launch} (hst : l.stackTraces = false) (g : GG) (A : Nat → Prop) (lay : Nat → Nat) {σ : CS} {σ' : CS} {r : Int32} {x1 : Int32} {x2 : Int32} {x3 : Int32} {x4 : Int32}  (h : F_X5_accept σ x1 x2 x3 x4 = some (σ', .inl r)) : MI l yX5_accept cX5_accept 5 .int 7 183 24 12288 [.ref (ga g 0), .int x1, .int x2, .int x3, .int x4] (CH g A) g A lay σ σ' r := by
  unfold F_X5_accept at h
  refine e_i (own := RX5) (lo := [(0, .ref (ga g 0)), (1, .int x1), (2, .int x2), (3, .int x3), (4, .int x4)]) hst (plainFor_of_name (by decide)) rfl rfl (Nat.le_of_ble_eq_true rfl) ?_
  intro p e s m args below meth c C K M
  refine j_aload_n 1 C dX5_accept_0 0 rfl rfl ?_
  refine j_iload_n 2 C dX5_accept_1 1 rfl rfl ?_
  rcases bx_e h with ⟨σ101, u102, hF, h⟩ | ⟨σ101, ex1, hF, h⟩
  · refine k_Vv 5 C K (c_X5_requireNode K.2.2.2 g A lay  hF) cp_X5_requireNode (rv_F) mw_508 dX5_accept_2 rfl rfl (Nat.le_of_ble_eq_true rfl) ⟨Nat.le_of_ble_eq_true rfl, Nat.le_of_ble_eq_true rfl⟩ ⟨by simp only [rmk]; omega, by simp only [rmk]; omega⟩ rfl (fun lay => ?_)
    refine j_aload_n 6 C dX5_accept_5 0 rfl rfl ?_
    refine j_iload_n 7 C dX5_accept_6 2 rfl rfl ?_
    rcases bx_e h with ⟨σ103, u104, hF, h⟩ | ⟨σ103, ex1, hF, h⟩
    · refine k_Vv 10 C K (c_X5_requireSlot K.2.2.2 g A lay  hF) cp_X5_requireSlot (rv_F) mw_581 dX5_accept_7 rfl rfl (Nat.le_of_ble_eq_true rfl) ⟨Nat.le_of_ble_eq_true rfl, Nat.le_of_ble_eq_true rfl⟩ ⟨by simp only [rmk]; omega, by simp only [rmk]; omega⟩ rfl (fun lay => ?_)
      refine j_iload_n 11 C dX5_accept_10 3 rfl rfl ?_
      refine j_if_lt 14 20 C dX5_accept_11 (by decide) rfl (fun hc105 => ?_) (fun hc105 => ?_)
      · replace h := it_t hc105 h
        refine j_sub [] (lo' := []) rfl ?_
        exact wn_X5_accept_20 C K M  lay σ103  h
      · replace h := it_f hc105 h
        refine j_iload_n 15 C dX5_accept_14 3 rfl rfl ?_
        refine j_bipush 17 C dX5_accept_15 bp_9 rfl ?_
        refine j_icmp_le 20 30 C dX5_accept_17 (by decide) rfl (fun hc106 => ?_) (fun hc106 => ?_)
        · replace h := it_t hc106 h
          refine j_aload_n 31 C dX5_accept_30 0 rfl rfl ?_
          refine j_iload 33 C dX5_accept_31 4 rfl rfl ?_
          rcases bx_e h with ⟨σ107, u108, hF, h⟩ | ⟨σ107, ex1, hF, h⟩
          · refine k_Vv 36 C K (c_X5_requireReached K.2.2.2 g A lay  hF) cp_X5_requireReached (rv_F) mw_677 dX5_accept_33 rfl rfl (Nat.le_of_ble_eq_true rfl) ⟨Nat.le_of_ble_eq_true rfl, Nat.le_of_ble_eq_true rfl⟩ ⟨by simp only [rmk]; omega, by simp only [rmk]; omega⟩ rfl (fun lay => ?_)
            refine j_aload_n 37 C dX5_accept_36 0 rfl rfl ?_
            refine j_iload_n 38 C dX5_accept_37 1 rfl rfl ?_
            rcases bx_e h with ⟨σ109, u110, hF, h⟩ | ⟨σ109, ex1, hF, h⟩
            · refine k_Vv 41 C K (c_X5_requireRound K.2.2.2 g A lay  hF) cp_X5_requireRound (rv_F) mw_605 dX5_accept_38 rfl rfl (Nat.le_of_ble_eq_true rfl) ⟨Nat.le_of_ble_eq_true rfl, Nat.le_of_ble_eq_true rfl⟩ ⟨by simp only [rmk]; omega, by simp only [rmk]; omega⟩ rfl (fun lay => ?_)
              refine j_aload_n 42 C dX5_accept_41 0 rfl rfl ?_
              refine j_aload_n 43 C dX5_accept_42 0 rfl rfl ?_
              refine g_F 46 C K 0 (by decide) mw_280 rfl dX5_accept_43 rfl ?_
              refine j_iload_n 47 C dX5_accept_46 1 rfl rfl ?_
              obtain ⟨hz111, h⟩ := gd_e h
              have hb112 : tn x1 < 7 := inb_lt hz111
              refine r_nodes 48 C K hz111 dX5_accept_47 rfl ?_
              refine j_iload_n 49 C dX5_accept_48 2 rfl rfl ?_
              refine j_iload_n 50 C dX5_accept_49 3 rfl rfl ?_
              refine j_iload 52 C dX5_accept_50 4 rfl rfl ?_
              obtain ⟨σ113, r114, hF, h⟩ := bd_e h
              refine k_Vi 55 C K (c_X5_sendAccept K.2.2.2 g A lay hb112 hF) cp_X5_sendAccept (rv_F) mw_757 dX5_accept_52 rfl rfl (Nat.le_of_ble_eq_true rfl) ⟨Nat.le_of_ble_eq_true rfl, Nat.le_of_ble_eq_true rfl⟩ ⟨by simp only [rmk]; omega, by simp only [rmk]; omega⟩ rfl (fun lay => ?_)
              cases h
              exact x_i C M dX5_accept_55
            · cases h
          · cases h
        · replace h := it_f hc106 h
          refine j_sub [] (lo' := []) rfl ?_
          exact wn_X5_accept_20 C K M  lay σ103  h
    · cases h
  · cases h
set_option maxHeartbeats 4000000 in
set_option maxRecDepth 100000 in
theorem wx_X5_accept_20 {l : Launch} {p : Program} {e : Env} {s : State} {m : MethodId} {args : Array Value} {below : List Frame} {meth : Method} {c : Code} {g : GG} {A : Nat → Prop} (C : KX p m c cX5_accept 5 s args RX5) (K : KC l g A s) (M : KM meth (some .int)) (hx : ∀ x ∈ c.exceptionTable.toList, False) {σ' : CS} {ex : Nat} {x1 : Int32} {x2 : Int32} {x3 : Int32} {x4 : Int32}     (lay : Nat → Nat) (σ : CS)   (h : B_X5_accept_20 x1 x2 x3 x4 σ  = some (σ', .inr ex)) : JJ p l e (rmk 7 183 1 6) s m args below meth c (vx_MQ below (va_Qi (fun (_ : Int32) (_ : CS) => False) (BC (CH g A)) A) (xxX (BC (CH g A)) A σ' ex) args s 1 6 A) A 5 (CH g A lay σ) 0 0 20 [] [] := by
  unfold B_X5_accept_20 at h
  cases h
  exact jx_2 C K M hx CH_kept mw_432 xs_92 xat_X5_58 dX5_accept_20 dX5_accept_23 dX5_accept_24 dX5_accept_26 dX5_accept_29 (Nat.le_of_ble_eq_true rfl) (Nat.le_of_ble_eq_true rfl) ⟨Nat.le_of_ble_eq_true rfl, Nat.le_of_ble_eq_true rfl⟩
set_option maxHeartbeats 4000000 in
set_option maxRecDepth 100000 in
theorem x_X5_accept {l : Launch} (hst : l.stackTraces = false) (g : GG) (A : Nat → Prop) (lay : Nat → Nat) {σ : CS} {σ' : CS} {ex : Nat} {x1 : Int32} {x2 : Int32} {x3 : Int32} {x4 : Int32}  (h : F_X5_accept σ x1 x2 x3 x4 = some (σ', .inr ex)) : XI l yX5_accept cX5_accept 5 .int 7 183 [.ref (ga g 0), .int x1, .int x2, .int x3, .int x4] (CH g A) g A lay σ σ' ex := by
  unfold F_X5_accept at h
  refine ex_i (own := RX5) (lo := [(0, .ref (ga g 0)), (1, .int x1), (2, .int x2), (3, .int x3), (4, .int x4)]) hst (by decide) rfl rfl (Nat.le_of_ble_eq_true rfl) ?_
  intro p e s m args below meth c C K M hx
  refine j_aload_n 1 C dX5_accept_0 0 rfl rfl ?_
  refine j_iload_n 2 C dX5_accept_1 1 rfl rfl ?_
  rcases bx_e h with ⟨σ101, u102, hF, h⟩ | ⟨σ101, ex1, hF, h⟩
  · refine k_Vv 5 C K (c_X5_requireNode K.2.2.2 g A lay  hF) cp_X5_requireNode (rv_F) mw_508 dX5_accept_2 rfl rfl (Nat.le_of_ble_eq_true rfl) ⟨Nat.le_of_ble_eq_true rfl, Nat.le_of_ble_eq_true rfl⟩ ⟨Nat.le_of_ble_eq_true rfl, Nat.le_of_ble_eq_true rfl⟩ rfl (fun lay => ?_)
    refine j_aload_n 6 C dX5_accept_5 0 rfl rfl ?_
    refine j_iload_n 7 C dX5_accept_6 2 rfl rfl ?_
    rcases bx_e h with ⟨σ103, u104, hF, h⟩ | ⟨σ103, ex1, hF, h⟩
    · refine k_Vv 10 C K (c_X5_requireSlot K.2.2.2 g A lay  hF) cp_X5_requireSlot (rv_F) mw_581 dX5_accept_7 rfl rfl (Nat.le_of_ble_eq_true rfl) ⟨Nat.le_of_ble_eq_true rfl, Nat.le_of_ble_eq_true rfl⟩ ⟨Nat.le_of_ble_eq_true rfl, Nat.le_of_ble_eq_true rfl⟩ rfl (fun lay => ?_)
      refine j_iload_n 11 C dX5_accept_10 3 rfl rfl ?_
      refine j_if_lt 14 20 C dX5_accept_11 (by decide) rfl (fun hc105 => ?_) (fun hc105 => ?_)
      · replace h := it_t hc105 h
        refine j_sub [] (lo' := []) rfl ?_
        exact wx_X5_accept_20 C K M hx  lay σ103  h
      · replace h := it_f hc105 h
        refine j_iload_n 15 C dX5_accept_14 3 rfl rfl ?_
        refine j_bipush 17 C dX5_accept_15 bp_9 rfl ?_
        refine j_icmp_le 20 30 C dX5_accept_17 (by decide) rfl (fun hc106 => ?_) (fun hc106 => ?_)
        · replace h := it_t hc106 h
          refine j_aload_n 31 C dX5_accept_30 0 rfl rfl ?_
          refine j_iload 33 C dX5_accept_31 4 rfl rfl ?_
          rcases bx_e h with ⟨σ107, u108, hF, h⟩ | ⟨σ107, ex1, hF, h⟩
          · refine k_Vv 36 C K (c_X5_requireReached K.2.2.2 g A lay  hF) cp_X5_requireReached (rv_F) mw_677 dX5_accept_33 rfl rfl (Nat.le_of_ble_eq_true rfl) ⟨Nat.le_of_ble_eq_true rfl, Nat.le_of_ble_eq_true rfl⟩ ⟨Nat.le_of_ble_eq_true rfl, Nat.le_of_ble_eq_true rfl⟩ rfl (fun lay => ?_)
            refine j_aload_n 37 C dX5_accept_36 0 rfl rfl ?_
            refine j_iload_n 38 C dX5_accept_37 1 rfl rfl ?_
            rcases bx_e h with ⟨σ109, u110, hF, h⟩ | ⟨σ109, ex1, hF, h⟩
            · refine k_Vv 41 C K (c_X5_requireRound K.2.2.2 g A lay  hF) cp_X5_requireRound (rv_F) mw_605 dX5_accept_38 rfl rfl (Nat.le_of_ble_eq_true rfl) ⟨Nat.le_of_ble_eq_true rfl, Nat.le_of_ble_eq_true rfl⟩ ⟨Nat.le_of_ble_eq_true rfl, Nat.le_of_ble_eq_true rfl⟩ rfl (fun lay => ?_)
              refine j_aload_n 42 C dX5_accept_41 0 rfl rfl ?_
              refine j_aload_n 43 C dX5_accept_42 0 rfl rfl ?_
              refine g_F 46 C K 0 (by decide) mw_280 rfl dX5_accept_43 rfl ?_
              refine j_iload_n 47 C dX5_accept_46 1 rfl rfl ?_
              obtain ⟨hz111, h⟩ := gd_e h
              have hb112 : tn x1 < 7 := inb_lt hz111
              refine r_nodes 48 C K hz111 dX5_accept_47 rfl ?_
              refine j_iload_n 49 C dX5_accept_48 2 rfl rfl ?_
              refine j_iload_n 50 C dX5_accept_49 3 rfl rfl ?_
              refine j_iload 52 C dX5_accept_50 4 rfl rfl ?_
              obtain ⟨σ113, r114, hF, h⟩ := bd_e h
              cases h
            · cases h
              exact kx_Vv C K M hx (x_X5_requireRound K.2.2.2 g A lay  hF) cp_X5_requireRound (rv_F) mw_605 dX5_accept_38 rfl rfl (Nat.le_of_ble_eq_true rfl) ⟨Nat.le_of_ble_eq_true rfl, Nat.le_of_ble_eq_true rfl⟩ ⟨Nat.le_of_ble_eq_true rfl, Nat.le_of_ble_eq_true rfl⟩
          · cases h
            exact kx_Vv C K M hx (x_X5_requireReached K.2.2.2 g A lay  hF) cp_X5_requireReached (rv_F) mw_677 dX5_accept_33 rfl rfl (Nat.le_of_ble_eq_true rfl) ⟨Nat.le_of_ble_eq_true rfl, Nat.le_of_ble_eq_true rfl⟩ ⟨Nat.le_of_ble_eq_true rfl, Nat.le_of_ble_eq_true rfl⟩
        · replace h := it_f hc106 h
          refine j_sub [] (lo' := []) rfl ?_
          exact wx_X5_accept_20 C K M hx  lay σ103  h
    · cases h
      exact kx_Vv C K M hx (x_X5_requireSlot K.2.2.2 g A lay  hF) cp_X5_requireSlot (rv_F) mw_581 dX5_accept_7 rfl rfl (Nat.le_of_ble_eq_true rfl) ⟨Nat.le_of_ble_eq_true rfl, Nat.le_of_ble_eq_true rfl⟩ ⟨Nat.le_of_ble_eq_true rfl, Nat.le_of_ble_eq_true rfl⟩
  · cases h
    exact kx_Vv C K M hx (x_X5_requireNode K.2.2.2 g A lay  hF) cp_X5_requireNode (rv_F) mw_508 dX5_accept_2 rfl rfl (Nat.le_of_ble_eq_true rfl) ⟨Nat.le_of_ble_eq_true rfl, Nat.le_of_ble_eq_true rfl⟩ ⟨Nat.le_of_ble_eq_true rfl, Nat.le_of_ble_eq_true rfl⟩
theorem cp_X5_requireUp : CPv yX5_requireUp cX5_requireUp 2 none RX5 1 := ⟨mw_775, mw_34, mw_98, mw_776, rfl, by decide, by decide, by decide +kernel⟩
set_option maxHeartbeats 4000000 in
set_option maxRecDepth 100000 in
theorem c_X5_requireUp {l : Launch} (hst : l.stackTraces = false) (g : GG) (A : Nat → Prop) (lay : Nat → Nat) {σ : CS} {σ' : CS} {r : Unit} {x1 : Int32}  (h : F_X5_requireUp σ x1 = some (σ', .inl r)) : MV l yX5_requireUp cX5_requireUp 2 6 90 0 0 [.ref (ga g 0), .int x1] (CH g A) g A lay σ σ' := by
  unfold F_X5_requireUp at h
  refine e_v (own := RX5) (lo := [(0, .ref (ga g 0)), (1, .int x1)]) hst (plainFor_of_name (by decide)) rfl rfl (Nat.le_of_ble_eq_true rfl) ?_
  intro p e s m args below meth c C K M
  refine j_aload_n 1 C dX5_requireUp_0 0 rfl rfl ?_
  refine g_F 4 C K 0 (by decide) mw_280 rfl dX5_requireUp_1 rfl ?_
  refine j_iload_n 5 C dX5_requireUp_4 1 rfl rfl ?_
  obtain ⟨hz101, h⟩ := gd_e h
  have hb102 : tn x1 < 7 := inb_lt hz101
  refine r_nodes 6 C K hz101 dX5_requireUp_5 rfl ?_
  refine g_N 9 C K hb102 5 (by decide) mw_228 rfl dX5_requireUp_6 rfl ?_
  refine j_if_ne 12 23 C dX5_requireUp_9 (by decide) rfl (fun hc103 => ?_) (fun hc103 => ?_)
  · replace h := it_f hc103 h
    cases h
    exact x_v C M dX5_requireUp_23
  · replace h := it_t hc103 h
    cases h
set_option maxHeartbeats 4000000 in
set_option maxRecDepth 100000 in
theorem x_X5_requireUp {l : Launch} (hst : l.stackTraces = false) (g : GG) (A : Nat → Prop) (lay : Nat → Nat) {σ : CS} {σ' : CS} {ex : Nat} {x1 : Int32}  (h : F_X5_requireUp σ x1 = some (σ', .inr ex)) : XV l yX5_requireUp cX5_requireUp 2 6 90 [.ref (ga g 0), .int x1] (CH g A) g A lay σ σ' ex := by
  unfold F_X5_requireUp at h
  refine ex_v (own := RX5) (lo := [(0, .ref (ga g 0)), (1, .int x1)]) hst (by decide) rfl rfl (Nat.le_of_ble_eq_true rfl) ?_
  intro p e s m args below meth c C K M hx
  refine j_aload_n 1 C dX5_requireUp_0 0 rfl rfl ?_
  refine g_F 4 C K 0 (by decide) mw_280 rfl dX5_requireUp_1 rfl ?_
  refine j_iload_n 5 C dX5_requireUp_4 1 rfl rfl ?_
  obtain ⟨hz101, h⟩ := gd_e h
  have hb102 : tn x1 < 7 := inb_lt hz101
  refine r_nodes 6 C K hz101 dX5_requireUp_5 rfl ?_
  refine g_N 9 C K hb102 5 (by decide) mw_228 rfl dX5_requireUp_6 rfl ?_
  refine j_if_ne 12 23 C dX5_requireUp_9 (by decide) rfl (fun hc103 => ?_) (fun hc103 => ?_)
  · replace h := it_f hc103 h
    cases h
  · replace h := it_t hc103 h
    cases h
    exact jx_w3 C K M hx CH_kept mw_609 xs_335 xat_X5_84 dX5_requireUp_12 dX5_requireUp_15 dX5_requireUp_16 dX5_requireUp_19 dX5_requireUp_22 (Nat.le_of_ble_eq_true rfl) (Nat.le_of_ble_eq_true rfl) ⟨Nat.le_of_ble_eq_true rfl, Nat.le_of_ble_eq_true rfl⟩
theorem cp_X5_barrier : CPv yX5_barrier cX5_barrier 2 (some .int) RX5 1 := ⟨mw_770, mw_771, mw_98, mw_772, rfl, by decide, by decide, by decide +kernel⟩
set_option maxHeartbeats 4000000 in
set_option maxRecDepth 100000 in
theorem c_X5_barrier {l : Launch} (hst : l.stackTraces = false) (g : GG) (A : Nat → Prop) (lay : Nat → Nat) {σ : CS} {σ' : CS} {r : Int32} {x1 : Int32}  (h : F_X5_barrier σ x1 = some (σ', .inl r)) : MI l yX5_barrier cX5_barrier 2 .int 7 111 0 0 [.ref (ga g 0), .int x1] (CH g A) g A lay σ σ' r := by
  unfold F_X5_barrier at h
  refine e_i (own := RX5) (lo := [(0, .ref (ga g 0)), (1, .int x1)]) hst (plainFor_of_name (by decide)) rfl rfl (Nat.le_of_ble_eq_true rfl) ?_
  intro p e s m args below meth c C K M
  refine j_aload_n 1 C dX5_barrier_0 0 rfl rfl ?_
  refine j_iload_n 2 C dX5_barrier_1 1 rfl rfl ?_
  rcases bx_e h with ⟨σ101, u102, hF, h⟩ | ⟨σ101, ex1, hF, h⟩
  · refine k_Vv 5 C K (c_X5_requireNode K.2.2.2 g A lay  hF) cp_X5_requireNode (rv_F) mw_508 dX5_barrier_2 rfl rfl (Nat.le_of_ble_eq_true rfl) ⟨Nat.le_of_ble_eq_true rfl, Nat.le_of_ble_eq_true rfl⟩ ⟨Nat.le_of_ble_eq_true rfl, Nat.le_of_ble_eq_true rfl⟩ rfl (fun lay => ?_)
    refine j_aload_n 6 C dX5_barrier_5 0 rfl rfl ?_
    refine j_iload_n 7 C dX5_barrier_6 1 rfl rfl ?_
    rcases bx_e h with ⟨σ103, u104, hF, h⟩ | ⟨σ103, ex1, hF, h⟩
    · refine k_Vv 10 C K (c_X5_requireUp K.2.2.2 g A lay  hF) cp_X5_requireUp (rv_F) mw_773 dX5_barrier_7 rfl rfl (Nat.le_of_ble_eq_true rfl) ⟨Nat.le_of_ble_eq_true rfl, Nat.le_of_ble_eq_true rfl⟩ ⟨Nat.le_of_ble_eq_true rfl, Nat.le_of_ble_eq_true rfl⟩ rfl (fun lay => ?_)
      refine j_aload_n 11 C dX5_barrier_10 0 rfl rfl ?_
      refine g_F 14 C K 0 (by decide) mw_280 rfl dX5_barrier_11 rfl ?_
      refine j_iload_n 15 C dX5_barrier_14 1 rfl rfl ?_
      obtain ⟨hz105, h⟩ := gd_e h
      have hb106 : tn x1 < 7 := inb_lt hz105
      refine r_nodes 16 C K hz105 dX5_barrier_15 rfl ?_
      obtain ⟨σ107, r108, hF, h⟩ := bd_e h
      refine k_Vi 19 C K (c_X3_carryOutAll K.2.2.2 g A lay hb106 hF) cp_X3_carryOutAll (rv_N hb106) mw_731 dX5_barrier_16 rfl rfl (Nat.le_of_ble_eq_true rfl) ⟨Nat.le_of_ble_eq_true rfl, Nat.le_of_ble_eq_true rfl⟩ ⟨Nat.le_of_ble_eq_true rfl, Nat.le_of_ble_eq_true rfl⟩ rfl (fun lay => ?_)
      cases h
      exact x_i C M dX5_barrier_19
    · cases h
  · cases h
set_option maxHeartbeats 4000000 in
set_option maxRecDepth 100000 in
theorem x_X5_barrier {l : Launch} (hst : l.stackTraces = false) (g : GG) (A : Nat → Prop) (lay : Nat → Nat) {σ : CS} {σ' : CS} {ex : Nat} {x1 : Int32}  (h : F_X5_barrier σ x1 = some (σ', .inr ex)) : XI l yX5_barrier cX5_barrier 2 .int 7 111 [.ref (ga g 0), .int x1] (CH g A) g A lay σ σ' ex := by
  unfold F_X5_barrier at h
  refine ex_i (own := RX5) (lo := [(0, .ref (ga g 0)), (1, .int x1)]) hst (by decide) rfl rfl (Nat.le_of_ble_eq_true rfl) ?_
  intro p e s m args below meth c C K M hx
  refine j_aload_n 1 C dX5_barrier_0 0 rfl rfl ?_
  refine j_iload_n 2 C dX5_barrier_1 1 rfl rfl ?_
  rcases bx_e h with ⟨σ101, u102, hF, h⟩ | ⟨σ101, ex1, hF, h⟩
  · refine k_Vv 5 C K (c_X5_requireNode K.2.2.2 g A lay  hF) cp_X5_requireNode (rv_F) mw_508 dX5_barrier_2 rfl rfl (Nat.le_of_ble_eq_true rfl) ⟨Nat.le_of_ble_eq_true rfl, Nat.le_of_ble_eq_true rfl⟩ ⟨Nat.le_of_ble_eq_true rfl, Nat.le_of_ble_eq_true rfl⟩ rfl (fun lay => ?_)
    refine j_aload_n 6 C dX5_barrier_5 0 rfl rfl ?_
    refine j_iload_n 7 C dX5_barrier_6 1 rfl rfl ?_
    rcases bx_e h with ⟨σ103, u104, hF, h⟩ | ⟨σ103, ex1, hF, h⟩
    · refine k_Vv 10 C K (c_X5_requireUp K.2.2.2 g A lay  hF) cp_X5_requireUp (rv_F) mw_773 dX5_barrier_7 rfl rfl (Nat.le_of_ble_eq_true rfl) ⟨Nat.le_of_ble_eq_true rfl, Nat.le_of_ble_eq_true rfl⟩ ⟨Nat.le_of_ble_eq_true rfl, Nat.le_of_ble_eq_true rfl⟩ rfl (fun lay => ?_)
      refine j_aload_n 11 C dX5_barrier_10 0 rfl rfl ?_
      refine g_F 14 C K 0 (by decide) mw_280 rfl dX5_barrier_11 rfl ?_
      refine j_iload_n 15 C dX5_barrier_14 1 rfl rfl ?_
      obtain ⟨hz105, h⟩ := gd_e h
      have hb106 : tn x1 < 7 := inb_lt hz105
      refine r_nodes 16 C K hz105 dX5_barrier_15 rfl ?_
      obtain ⟨σ107, r108, hF, h⟩ := bd_e h
      refine k_Vi 19 C K (c_X3_carryOutAll K.2.2.2 g A lay hb106 hF) cp_X3_carryOutAll (rv_N hb106) mw_731 dX5_barrier_16 rfl rfl (Nat.le_of_ble_eq_true rfl) ⟨Nat.le_of_ble_eq_true rfl, Nat.le_of_ble_eq_true rfl⟩ ⟨Nat.le_of_ble_eq_true rfl, Nat.le_of_ble_eq_true rfl⟩ rfl (fun lay => ?_)
      cases h
    · cases h
      exact kx_Vv C K M hx (x_X5_requireUp K.2.2.2 g A lay  hF) cp_X5_requireUp (rv_F) mw_773 dX5_barrier_7 rfl rfl (Nat.le_of_ble_eq_true rfl) ⟨Nat.le_of_ble_eq_true rfl, Nat.le_of_ble_eq_true rfl⟩ ⟨Nat.le_of_ble_eq_true rfl, Nat.le_of_ble_eq_true rfl⟩
  · cases h
    exact kx_Vv C K M hx (x_X5_requireNode K.2.2.2 g A lay  hF) cp_X5_requireNode (rv_F) mw_508 dX5_barrier_2 rfl rfl (Nat.le_of_ble_eq_true rfl) ⟨Nat.le_of_ble_eq_true rfl, Nat.le_of_ble_eq_true rfl⟩ ⟨Nat.le_of_ble_eq_true rfl, Nat.le_of_ble_eq_true rfl⟩
theorem cp_X5_requireLost : CPs yX5_requireLost cX5_requireLost 1 none 1 := ⟨mw_786, mw_98, mw_787, by decide, by decide, by decide +kernel⟩
set_option maxHeartbeats 4000000 in
set_option maxRecDepth 100000 in
theorem c_X5_requireLost {l : Launch} (hst : l.stackTraces = false) (g : GG) (A : Nat → Prop) (lay : Nat → Nat) {σ : CS} {σ' : CS} {r : Unit} {x0 : Int32}  (h : F_X5_requireLost σ x0 = some (σ', .inl r)) : MV l yX5_requireLost cX5_requireLost 1 6 90 0 0 [.int x0] (CH g A) g A lay σ σ' := by
  unfold F_X5_requireLost at h
  refine e_v (own := RX5) (lo := [(0, .int x0)]) hst (plainFor_of_name (by decide)) rfl rfl (Nat.le_of_ble_eq_true rfl) ?_
  intro p e s m args below meth c C K M
  refine j_iload_n 1 C dX5_requireLost_0 0 rfl rfl ?_
  refine j_if_ge 4 15 C dX5_requireLost_1 (by decide) rfl (fun hc101 => ?_) (fun hc101 => ?_)
  · replace h := it_t hc101 h
    cases h
    exact x_v C M dX5_requireLost_15
  · replace h := it_f hc101 h
    cases h
set_option maxHeartbeats 4000000 in
set_option maxRecDepth 100000 in
theorem x_X5_requireLost {l : Launch} (hst : l.stackTraces = false) (g : GG) (A : Nat → Prop) (lay : Nat → Nat) {σ : CS} {σ' : CS} {ex : Nat} {x0 : Int32}  (h : F_X5_requireLost σ x0 = some (σ', .inr ex)) : XV l yX5_requireLost cX5_requireLost 1 6 90 [.int x0] (CH g A) g A lay σ σ' ex := by
  unfold F_X5_requireLost at h
  refine ex_v (own := RX5) (lo := [(0, .int x0)]) hst (by decide) rfl rfl (Nat.le_of_ble_eq_true rfl) ?_
  intro p e s m args below meth c C K M hx
  refine j_iload_n 1 C dX5_requireLost_0 0 rfl rfl ?_
  refine j_if_ge 4 15 C dX5_requireLost_1 (by decide) rfl (fun hc101 => ?_) (fun hc101 => ?_)
  · replace h := it_t hc101 h
    cases h
  · replace h := it_f hc101 h
    cases h
    exact jx_w2 C K M hx CH_kept mw_432 xs_333 xat_X5_58 dX5_requireLost_4 dX5_requireLost_7 dX5_requireLost_8 dX5_requireLost_11 dX5_requireLost_14 (Nat.le_of_ble_eq_true rfl) (Nat.le_of_ble_eq_true rfl) ⟨Nat.le_of_ble_eq_true rfl, Nat.le_of_ble_eq_true rfl⟩
theorem cp_X5_bringDown : CPv yX5_bringDown cX5_bringDown 4 (some .int) RX5 2 := ⟨mw_791, mw_35, mw_98, mw_792, rfl, by decide, by decide, by decide +kernel⟩
set_option maxHeartbeats 4000000 in
set_option maxRecDepth 100000 in
theorem c_X5_bringDown {l : Launch} (hst : l.stackTraces = false) (g : GG) (A : Nat → Prop) (lay : Nat → Nat) {σ : CS} {σ' : CS} {r : Int32} {o1 : Nat} {x2 : Int32} (ho1 : o1 < 7) (h : F_X5_bringDown σ o1 x2 = some (σ', r)) : MI l yX5_bringDown cX5_bringDown 4 .int 3 74 0 0 [.ref (ga g 0), .ref (ga g (5 + o1)), .int x2] (CH g A) g A lay σ σ' r := by
  unfold F_X5_bringDown at h
  refine e_i (own := RX5) (lo := [(0, .ref (ga g 0)), (1, .ref (ga g (5 + o1))), (2, .int x2)]) hst (plainFor_of_name (by decide)) rfl rfl (Nat.le_of_ble_eq_true rfl) ?_
  intro p e s m args below meth c C K M
  refine j_aload_n 1 C dX5_bringDown_0 1 rfl rfl ?_
  refine j_iload_n 2 C dX5_bringDown_1 2 rfl rfl ?_
  obtain ⟨σ101, r102, hF, h⟩ := bd_e h
  refine k_Vi 5 C K (c_X3_fall K.2.2.2 g A lay ho1 hF) cp_X3_fall (rv_N ho1) mw_793 dX5_bringDown_2 rfl rfl (Nat.le_of_ble_eq_true rfl) ⟨Nat.le_of_ble_eq_true rfl, Nat.le_of_ble_eq_true rfl⟩ ⟨Nat.le_of_ble_eq_true rfl, Nat.le_of_ble_eq_true rfl⟩ rfl (fun lay => ?_)
  refine j_istore_n 6 C dX5_bringDown_5 (lo' := [(3, .int r102), (0, .ref (ga g 0)), (1, .ref (ga g (5 + o1))), (2, .int x2)]) (by decide) rfl rfl ?_
  refine j_aload_n 7 C dX5_bringDown_6 1 rfl rfl ?_
  refine j_dup 8 C dX5_bringDown_7 rfl rfl ?_
  refine g_F 11 C K 11 (by decide) mw_291 rfl dX5_bringDown_8 rfl ?_
  refine j_iload_n 12 C dX5_bringDown_11 0 rfl rfl ?_
  refine j_iadd 13 C dX5_bringDown_12 rfl ?_
  refine p_F 16 C K 11 (by decide) mw_291 rfl rfl dX5_bringDown_13 rfl (fun σ103 eσ103 => ?_)
  replace h := lt_e h σ103 eσ103
  refine j_iload_n 17 C dX5_bringDown_16 0 rfl rfl ?_
  cases h
  exact x_i C M dX5_bringDown_17
theorem cp_X5_crash : CPv yX5_crash cX5_crash 3 (some .int) RX5 2 := ⟨mw_782, mw_783, mw_98, mw_784, rfl, by decide, by decide, by decide +kernel⟩
set_option maxHeartbeats 4000000 in
set_option maxRecDepth 100000 in
theorem c_X5_crash {l : Launch} (hst : l.stackTraces = false) (g : GG) (A : Nat → Prop) (lay : Nat → Nat) {σ : CS} {σ' : CS} {r : Int32} {x1 : Int32} {x2 : Int32}  (h : F_X5_crash σ x1 x2 = some (σ', .inl r)) : MI l yX5_crash cX5_crash 3 .int 7 111 0 0 [.ref (ga g 0), .int x1, .int x2] (CH g A) g A lay σ σ' r := by
  unfold F_X5_crash at h
  refine e_i (own := RX5) (lo := [(0, .ref (ga g 0)), (1, .int x1), (2, .int x2)]) hst (plainFor_of_name (by decide)) rfl rfl (Nat.le_of_ble_eq_true rfl) ?_
  intro p e s m args below meth c C K M
  refine j_aload_n 1 C dX5_crash_0 0 rfl rfl ?_
  refine j_iload_n 2 C dX5_crash_1 1 rfl rfl ?_
  rcases bx_e h with ⟨σ101, u102, hF, h⟩ | ⟨σ101, ex1, hF, h⟩
  · refine k_Vv 5 C K (c_X5_requireNode K.2.2.2 g A lay  hF) cp_X5_requireNode (rv_F) mw_508 dX5_crash_2 rfl rfl (Nat.le_of_ble_eq_true rfl) ⟨Nat.le_of_ble_eq_true rfl, Nat.le_of_ble_eq_true rfl⟩ ⟨Nat.le_of_ble_eq_true rfl, Nat.le_of_ble_eq_true rfl⟩ rfl (fun lay => ?_)
    refine j_iload_n 6 C dX5_crash_5 2 rfl rfl ?_
    rcases bx_e h with ⟨σ103, u104, hF, h⟩ | ⟨σ103, ex1, hF, h⟩
    · refine k_Sv 9 C K (c_X5_requireLost K.2.2.2 g A lay  hF) cp_X5_requireLost mw_785 dX5_crash_6 rfl rfl (Nat.le_of_ble_eq_true rfl) ⟨Nat.le_of_ble_eq_true rfl, Nat.le_of_ble_eq_true rfl⟩ ⟨Nat.le_of_ble_eq_true rfl, Nat.le_of_ble_eq_true rfl⟩ rfl (fun lay => ?_)
      refine j_aload_n 10 C dX5_crash_9 0 rfl rfl ?_
      refine j_iload_n 11 C dX5_crash_10 1 rfl rfl ?_
      rcases bx_e h with ⟨σ105, u106, hF, h⟩ | ⟨σ105, ex1, hF, h⟩
      · refine k_Vv 14 C K (c_X5_requireUp K.2.2.2 g A lay  hF) cp_X5_requireUp (rv_F) mw_773 dX5_crash_11 rfl rfl (Nat.le_of_ble_eq_true rfl) ⟨Nat.le_of_ble_eq_true rfl, Nat.le_of_ble_eq_true rfl⟩ ⟨Nat.le_of_ble_eq_true rfl, Nat.le_of_ble_eq_true rfl⟩ rfl (fun lay => ?_)
        refine j_aload_n 15 C dX5_crash_14 0 rfl rfl ?_
        refine j_aload_n 16 C dX5_crash_15 0 rfl rfl ?_
        refine g_F 19 C K 0 (by decide) mw_280 rfl dX5_crash_16 rfl ?_
        refine j_iload_n 20 C dX5_crash_19 1 rfl rfl ?_
        obtain ⟨hz107, h⟩ := gd_e h
        have hb108 : tn x1 < 7 := inb_lt hz107
        refine r_nodes 21 C K hz107 dX5_crash_20 rfl ?_
        refine j_iload_n 22 C dX5_crash_21 2 rfl rfl ?_
        obtain ⟨σ109, r110, hF, h⟩ := bd_e h
        refine k_Vi 25 C K (c_X5_bringDown K.2.2.2 g A lay hb108 hF) cp_X5_bringDown (rv_F) mw_789 dX5_crash_22 rfl rfl (Nat.le_of_ble_eq_true rfl) ⟨Nat.le_of_ble_eq_true rfl, Nat.le_of_ble_eq_true rfl⟩ ⟨Nat.le_of_ble_eq_true rfl, Nat.le_of_ble_eq_true rfl⟩ rfl (fun lay => ?_)
        cases h
        exact x_i C M dX5_crash_25
      · cases h
    · cases h
  · cases h
set_option maxHeartbeats 4000000 in
set_option maxRecDepth 100000 in
theorem x_X5_crash {l : Launch} (hst : l.stackTraces = false) (g : GG) (A : Nat → Prop) (lay : Nat → Nat) {σ : CS} {σ' : CS} {ex : Nat} {x1 : Int32} {x2 : Int32}  (h : F_X5_crash σ x1 x2 = some (σ', .inr ex)) : XI l yX5_crash cX5_crash 3 .int 7 111 [.ref (ga g 0), .int x1, .int x2] (CH g A) g A lay σ σ' ex := by
  unfold F_X5_crash at h
  refine ex_i (own := RX5) (lo := [(0, .ref (ga g 0)), (1, .int x1), (2, .int x2)]) hst (by decide) rfl rfl (Nat.le_of_ble_eq_true rfl) ?_
  intro p e s m args below meth c C K M hx
  refine j_aload_n 1 C dX5_crash_0 0 rfl rfl ?_
  refine j_iload_n 2 C dX5_crash_1 1 rfl rfl ?_
  rcases bx_e h with ⟨σ101, u102, hF, h⟩ | ⟨σ101, ex1, hF, h⟩
  · refine k_Vv 5 C K (c_X5_requireNode K.2.2.2 g A lay  hF) cp_X5_requireNode (rv_F) mw_508 dX5_crash_2 rfl rfl (Nat.le_of_ble_eq_true rfl) ⟨Nat.le_of_ble_eq_true rfl, Nat.le_of_ble_eq_true rfl⟩ ⟨Nat.le_of_ble_eq_true rfl, Nat.le_of_ble_eq_true rfl⟩ rfl (fun lay => ?_)
    refine j_iload_n 6 C dX5_crash_5 2 rfl rfl ?_
    rcases bx_e h with ⟨σ103, u104, hF, h⟩ | ⟨σ103, ex1, hF, h⟩
    · refine k_Sv 9 C K (c_X5_requireLost K.2.2.2 g A lay  hF) cp_X5_requireLost mw_785 dX5_crash_6 rfl rfl (Nat.le_of_ble_eq_true rfl) ⟨Nat.le_of_ble_eq_true rfl, Nat.le_of_ble_eq_true rfl⟩ ⟨Nat.le_of_ble_eq_true rfl, Nat.le_of_ble_eq_true rfl⟩ rfl (fun lay => ?_)
      refine j_aload_n 10 C dX5_crash_9 0 rfl rfl ?_
      refine j_iload_n 11 C dX5_crash_10 1 rfl rfl ?_
      rcases bx_e h with ⟨σ105, u106, hF, h⟩ | ⟨σ105, ex1, hF, h⟩
      · refine k_Vv 14 C K (c_X5_requireUp K.2.2.2 g A lay  hF) cp_X5_requireUp (rv_F) mw_773 dX5_crash_11 rfl rfl (Nat.le_of_ble_eq_true rfl) ⟨Nat.le_of_ble_eq_true rfl, Nat.le_of_ble_eq_true rfl⟩ ⟨Nat.le_of_ble_eq_true rfl, Nat.le_of_ble_eq_true rfl⟩ rfl (fun lay => ?_)
        refine j_aload_n 15 C dX5_crash_14 0 rfl rfl ?_
        refine j_aload_n 16 C dX5_crash_15 0 rfl rfl ?_
        refine g_F 19 C K 0 (by decide) mw_280 rfl dX5_crash_16 rfl ?_
        refine j_iload_n 20 C dX5_crash_19 1 rfl rfl ?_
        obtain ⟨hz107, h⟩ := gd_e h
        have hb108 : tn x1 < 7 := inb_lt hz107
        refine r_nodes 21 C K hz107 dX5_crash_20 rfl ?_
        refine j_iload_n 22 C dX5_crash_21 2 rfl rfl ?_
        obtain ⟨σ109, r110, hF, h⟩ := bd_e h
        refine k_Vi 25 C K (c_X5_bringDown K.2.2.2 g A lay hb108 hF) cp_X5_bringDown (rv_F) mw_789 dX5_crash_22 rfl rfl (Nat.le_of_ble_eq_true rfl) ⟨Nat.le_of_ble_eq_true rfl, Nat.le_of_ble_eq_true rfl⟩ ⟨Nat.le_of_ble_eq_true rfl, Nat.le_of_ble_eq_true rfl⟩ rfl (fun lay => ?_)
        cases h
      · cases h
        exact kx_Vv C K M hx (x_X5_requireUp K.2.2.2 g A lay  hF) cp_X5_requireUp (rv_F) mw_773 dX5_crash_11 rfl rfl (Nat.le_of_ble_eq_true rfl) ⟨Nat.le_of_ble_eq_true rfl, Nat.le_of_ble_eq_true rfl⟩ ⟨Nat.le_of_ble_eq_true rfl, Nat.le_of_ble_eq_true rfl⟩
    · cases h
      exact kx_Sv C K M hx (x_X5_requireLost K.2.2.2 g A lay  hF) cp_X5_requireLost mw_785 dX5_crash_6 rfl rfl (Nat.le_of_ble_eq_true rfl) ⟨Nat.le_of_ble_eq_true rfl, Nat.le_of_ble_eq_true rfl⟩ ⟨Nat.le_of_ble_eq_true rfl, Nat.le_of_ble_eq_true rfl⟩
  · cases h
    exact kx_Vv C K M hx (x_X5_requireNode K.2.2.2 g A lay  hF) cp_X5_requireNode (rv_F) mw_508 dX5_crash_2 rfl rfl (Nat.le_of_ble_eq_true rfl) ⟨Nat.le_of_ble_eq_true rfl, Nat.le_of_ble_eq_true rfl⟩ ⟨Nat.le_of_ble_eq_true rfl, Nat.le_of_ble_eq_true rfl⟩
theorem cp_X5_requireDown : CPv yX5_requireDown cX5_requireDown 2 none RX5 1 := ⟨mw_812, mw_36, mw_98, mw_813, rfl, by decide, by decide, by decide +kernel⟩
set_option maxHeartbeats 4000000 in
set_option maxRecDepth 100000 in
theorem c_X5_requireDown {l : Launch} (hst : l.stackTraces = false) (g : GG) (A : Nat → Prop) (lay : Nat → Nat) {σ : CS} {σ' : CS} {r : Unit} {x1 : Int32}  (h : F_X5_requireDown σ x1 = some (σ', .inl r)) : MV l yX5_requireDown cX5_requireDown 2 6 90 0 0 [.ref (ga g 0), .int x1] (CH g A) g A lay σ σ' := by
  unfold F_X5_requireDown at h
  refine e_v (own := RX5) (lo := [(0, .ref (ga g 0)), (1, .int x1)]) hst (plainFor_of_name (by decide)) rfl rfl (Nat.le_of_ble_eq_true rfl) ?_
  intro p e s m args below meth c C K M
  refine j_aload_n 1 C dX5_requireDown_0 0 rfl rfl ?_
  refine g_F 4 C K 0 (by decide) mw_280 rfl dX5_requireDown_1 rfl ?_
  refine j_iload_n 5 C dX5_requireDown_4 1 rfl rfl ?_
  obtain ⟨hz101, h⟩ := gd_e h
  have hb102 : tn x1 < 7 := inb_lt hz101
  refine r_nodes 6 C K hz101 dX5_requireDown_5 rfl ?_
  refine g_N 9 C K hb102 5 (by decide) mw_228 rfl dX5_requireDown_6 rfl ?_
  refine j_if_eq 12 23 C dX5_requireDown_9 (by decide) rfl (fun hc103 => ?_) (fun hc103 => ?_)
  · replace h := it_t hc103 h
    cases h
    exact x_v C M dX5_requireDown_23
  · replace h := it_f hc103 h
    cases h
set_option maxHeartbeats 4000000 in
set_option maxRecDepth 100000 in
theorem x_X5_requireDown {l : Launch} (hst : l.stackTraces = false) (g : GG) (A : Nat → Prop) (lay : Nat → Nat) {σ : CS} {σ' : CS} {ex : Nat} {x1 : Int32}  (h : F_X5_requireDown σ x1 = some (σ', .inr ex)) : XV l yX5_requireDown cX5_requireDown 2 6 90 [.ref (ga g 0), .int x1] (CH g A) g A lay σ σ' ex := by
  unfold F_X5_requireDown at h
  refine ex_v (own := RX5) (lo := [(0, .ref (ga g 0)), (1, .int x1)]) hst (by decide) rfl rfl (Nat.le_of_ble_eq_true rfl) ?_
  intro p e s m args below meth c C K M hx
  refine j_aload_n 1 C dX5_requireDown_0 0 rfl rfl ?_
  refine g_F 4 C K 0 (by decide) mw_280 rfl dX5_requireDown_1 rfl ?_
  refine j_iload_n 5 C dX5_requireDown_4 1 rfl rfl ?_
  obtain ⟨hz101, h⟩ := gd_e h
  have hb102 : tn x1 < 7 := inb_lt hz101
  refine r_nodes 6 C K hz101 dX5_requireDown_5 rfl ?_
  refine g_N 9 C K hb102 5 (by decide) mw_228 rfl dX5_requireDown_6 rfl ?_
  refine j_if_eq 12 23 C dX5_requireDown_9 (by decide) rfl (fun hc103 => ?_) (fun hc103 => ?_)
  · replace h := it_t hc103 h
    cases h
  · replace h := it_f hc103 h
    cases h
    exact jx_w3 C K M hx CH_kept mw_609 xs_337 xat_X5_84 dX5_requireDown_12 dX5_requireDown_15 dX5_requireDown_16 dX5_requireDown_19 dX5_requireDown_22 (Nat.le_of_ble_eq_true rfl) (Nat.le_of_ble_eq_true rfl) ⟨Nat.le_of_ble_eq_true rfl, Nat.le_of_ble_eq_true rfl⟩
theorem cp_X5_wipe : CPv yX5_wipe cX5_wipe 2 (some .int) RX5 1 := ⟨mw_807, mw_808, mw_98, mw_809, rfl, by decide, by decide, by decide +kernel⟩
set_option maxHeartbeats 4000000 in
set_option maxRecDepth 100000 in
theorem c_X5_wipe {l : Launch} (hst : l.stackTraces = false) (g : GG) (A : Nat → Prop) (lay : Nat → Nat) {σ : CS} {σ' : CS} {r : Int32} {x1 : Int32}  (h : F_X5_wipe σ x1 = some (σ', .inl r)) : MI l yX5_wipe cX5_wipe 2 .int 7 111 0 0 [.ref (ga g 0), .int x1] (CH g A) g A lay σ σ' r := by
  unfold F_X5_wipe at h
  refine e_i (own := RX5) (lo := [(0, .ref (ga g 0)), (1, .int x1)]) hst (plainFor_of_name (by decide)) rfl rfl (Nat.le_of_ble_eq_true rfl) ?_
  intro p e s m args below meth c C K M
  refine j_aload_n 1 C dX5_wipe_0 0 rfl rfl ?_
  refine j_iload_n 2 C dX5_wipe_1 1 rfl rfl ?_
  rcases bx_e h with ⟨σ101, u102, hF, h⟩ | ⟨σ101, ex1, hF, h⟩
  · refine k_Vv 5 C K (c_X5_requireNode K.2.2.2 g A lay  hF) cp_X5_requireNode (rv_F) mw_508 dX5_wipe_2 rfl rfl (Nat.le_of_ble_eq_true rfl) ⟨Nat.le_of_ble_eq_true rfl, Nat.le_of_ble_eq_true rfl⟩ ⟨Nat.le_of_ble_eq_true rfl, Nat.le_of_ble_eq_true rfl⟩ rfl (fun lay => ?_)
    refine j_aload_n 6 C dX5_wipe_5 0 rfl rfl ?_
    refine j_iload_n 7 C dX5_wipe_6 1 rfl rfl ?_
    rcases bx_e h with ⟨σ103, u104, hF, h⟩ | ⟨σ103, ex1, hF, h⟩
    · refine k_Vv 10 C K (c_X5_requireDown K.2.2.2 g A lay  hF) cp_X5_requireDown (rv_F) mw_810 dX5_wipe_7 rfl rfl (Nat.le_of_ble_eq_true rfl) ⟨Nat.le_of_ble_eq_true rfl, Nat.le_of_ble_eq_true rfl⟩ ⟨Nat.le_of_ble_eq_true rfl, Nat.le_of_ble_eq_true rfl⟩ rfl (fun lay => ?_)
      refine j_aload_n 11 C dX5_wipe_10 0 rfl rfl ?_
      refine g_F 14 C K 0 (by decide) mw_280 rfl dX5_wipe_11 rfl ?_
      refine j_iload_n 15 C dX5_wipe_14 1 rfl rfl ?_
      obtain ⟨hz105, h⟩ := gd_e h
      have hb106 : tn x1 < 7 := inb_lt hz105
      refine r_nodes 16 C K hz105 dX5_wipe_15 rfl ?_
      obtain ⟨σ107, r108, hF, h⟩ := bd_e h
      refine k_Vi 19 C K (c_X3_loseDisk K.2.2.2 g A lay hb106 hF) cp_X3_loseDisk (rv_N hb106) mw_815 dX5_wipe_16 rfl rfl (Nat.le_of_ble_eq_true rfl) ⟨Nat.le_of_ble_eq_true rfl, Nat.le_of_ble_eq_true rfl⟩ ⟨Nat.le_of_ble_eq_true rfl, Nat.le_of_ble_eq_true rfl⟩ rfl (fun lay => ?_)
      cases h
      exact x_i C M dX5_wipe_19
    · cases h
  · cases h
set_option maxHeartbeats 4000000 in
set_option maxRecDepth 100000 in
theorem x_X5_wipe {l : Launch} (hst : l.stackTraces = false) (g : GG) (A : Nat → Prop) (lay : Nat → Nat) {σ : CS} {σ' : CS} {ex : Nat} {x1 : Int32}  (h : F_X5_wipe σ x1 = some (σ', .inr ex)) : XI l yX5_wipe cX5_wipe 2 .int 7 111 [.ref (ga g 0), .int x1] (CH g A) g A lay σ σ' ex := by
  unfold F_X5_wipe at h
  refine ex_i (own := RX5) (lo := [(0, .ref (ga g 0)), (1, .int x1)]) hst (by decide) rfl rfl (Nat.le_of_ble_eq_true rfl) ?_
  intro p e s m args below meth c C K M hx
  refine j_aload_n 1 C dX5_wipe_0 0 rfl rfl ?_
  refine j_iload_n 2 C dX5_wipe_1 1 rfl rfl ?_
  rcases bx_e h with ⟨σ101, u102, hF, h⟩ | ⟨σ101, ex1, hF, h⟩
  · refine k_Vv 5 C K (c_X5_requireNode K.2.2.2 g A lay  hF) cp_X5_requireNode (rv_F) mw_508 dX5_wipe_2 rfl rfl (Nat.le_of_ble_eq_true rfl) ⟨Nat.le_of_ble_eq_true rfl, Nat.le_of_ble_eq_true rfl⟩ ⟨Nat.le_of_ble_eq_true rfl, Nat.le_of_ble_eq_true rfl⟩ rfl (fun lay => ?_)
    refine j_aload_n 6 C dX5_wipe_5 0 rfl rfl ?_
    refine j_iload_n 7 C dX5_wipe_6 1 rfl rfl ?_
    rcases bx_e h with ⟨σ103, u104, hF, h⟩ | ⟨σ103, ex1, hF, h⟩
    · refine k_Vv 10 C K (c_X5_requireDown K.2.2.2 g A lay  hF) cp_X5_requireDown (rv_F) mw_810 dX5_wipe_7 rfl rfl (Nat.le_of_ble_eq_true rfl) ⟨Nat.le_of_ble_eq_true rfl, Nat.le_of_ble_eq_true rfl⟩ ⟨Nat.le_of_ble_eq_true rfl, Nat.le_of_ble_eq_true rfl⟩ rfl (fun lay => ?_)
      refine j_aload_n 11 C dX5_wipe_10 0 rfl rfl ?_
      refine g_F 14 C K 0 (by decide) mw_280 rfl dX5_wipe_11 rfl ?_
      refine j_iload_n 15 C dX5_wipe_14 1 rfl rfl ?_
      obtain ⟨hz105, h⟩ := gd_e h
      have hb106 : tn x1 < 7 := inb_lt hz105
      refine r_nodes 16 C K hz105 dX5_wipe_15 rfl ?_
      obtain ⟨σ107, r108, hF, h⟩ := bd_e h
      refine k_Vi 19 C K (c_X3_loseDisk K.2.2.2 g A lay hb106 hF) cp_X3_loseDisk (rv_N hb106) mw_815 dX5_wipe_16 rfl rfl (Nat.le_of_ble_eq_true rfl) ⟨Nat.le_of_ble_eq_true rfl, Nat.le_of_ble_eq_true rfl⟩ ⟨Nat.le_of_ble_eq_true rfl, Nat.le_of_ble_eq_true rfl⟩ rfl (fun lay => ?_)
      cases h
    · cases h
      exact kx_Vv C K M hx (x_X5_requireDown K.2.2.2 g A lay  hF) cp_X5_requireDown (rv_F) mw_810 dX5_wipe_7 rfl rfl (Nat.le_of_ble_eq_true rfl) ⟨Nat.le_of_ble_eq_true rfl, Nat.le_of_ble_eq_true rfl⟩ ⟨Nat.le_of_ble_eq_true rfl, Nat.le_of_ble_eq_true rfl⟩
  · cases h
    exact kx_Vv C K M hx (x_X5_requireNode K.2.2.2 g A lay  hF) cp_X5_requireNode (rv_F) mw_508 dX5_wipe_2 rfl rfl (Nat.le_of_ble_eq_true rfl) ⟨Nat.le_of_ble_eq_true rfl, Nat.le_of_ble_eq_true rfl⟩ ⟨Nat.le_of_ble_eq_true rfl, Nat.le_of_ble_eq_true rfl⟩
theorem cp_X5_restart : CPv yX5_restart cX5_restart 2 (some .int) RX5 1 := ⟨mw_828, mw_829, mw_98, mw_830, rfl, by decide, by decide, by decide +kernel⟩
set_option maxHeartbeats 4000000 in
set_option maxRecDepth 100000 in
theorem c_X5_restart {l : Launch} (hst : l.stackTraces = false) (g : GG) (A : Nat → Prop) (lay : Nat → Nat) {σ : CS} {σ' : CS} {r : Int32} {x1 : Int32}  (h : F_X5_restart σ x1 = some (σ', .inl r)) : MI l yX5_restart cX5_restart 2 .int 7 111 0 0 [.ref (ga g 0), .int x1] (CH g A) g A lay σ σ' r := by
  unfold F_X5_restart at h
  refine e_i (own := RX5) (lo := [(0, .ref (ga g 0)), (1, .int x1)]) hst (plainFor_of_name (by decide)) rfl rfl (Nat.le_of_ble_eq_true rfl) ?_
  intro p e s m args below meth c C K M
  refine j_aload_n 1 C dX5_restart_0 0 rfl rfl ?_
  refine j_iload_n 2 C dX5_restart_1 1 rfl rfl ?_
  rcases bx_e h with ⟨σ101, u102, hF, h⟩ | ⟨σ101, ex1, hF, h⟩
  · refine k_Vv 5 C K (c_X5_requireNode K.2.2.2 g A lay  hF) cp_X5_requireNode (rv_F) mw_508 dX5_restart_2 rfl rfl (Nat.le_of_ble_eq_true rfl) ⟨Nat.le_of_ble_eq_true rfl, Nat.le_of_ble_eq_true rfl⟩ ⟨Nat.le_of_ble_eq_true rfl, Nat.le_of_ble_eq_true rfl⟩ rfl (fun lay => ?_)
    refine j_aload_n 6 C dX5_restart_5 0 rfl rfl ?_
    refine j_iload_n 7 C dX5_restart_6 1 rfl rfl ?_
    rcases bx_e h with ⟨σ103, u104, hF, h⟩ | ⟨σ103, ex1, hF, h⟩
    · refine k_Vv 10 C K (c_X5_requireDown K.2.2.2 g A lay  hF) cp_X5_requireDown (rv_F) mw_810 dX5_restart_7 rfl rfl (Nat.le_of_ble_eq_true rfl) ⟨Nat.le_of_ble_eq_true rfl, Nat.le_of_ble_eq_true rfl⟩ ⟨Nat.le_of_ble_eq_true rfl, Nat.le_of_ble_eq_true rfl⟩ rfl (fun lay => ?_)
      refine j_aload_n 11 C dX5_restart_10 0 rfl rfl ?_
      refine g_F 14 C K 0 (by decide) mw_280 rfl dX5_restart_11 rfl ?_
      refine j_iload_n 15 C dX5_restart_14 1 rfl rfl ?_
      obtain ⟨hz105, h⟩ := gd_e h
      have hb106 : tn x1 < 7 := inb_lt hz105
      refine r_nodes 16 C K hz105 dX5_restart_15 rfl ?_
      obtain ⟨σ107, r108, hF, h⟩ := bd_e h
      refine k_Vi 19 C K (c_X3_bringUp K.2.2.2 g A lay hb106 hF) cp_X3_bringUp (rv_N hb106) mw_831 dX5_restart_16 rfl rfl (Nat.le_of_ble_eq_true rfl) ⟨Nat.le_of_ble_eq_true rfl, Nat.le_of_ble_eq_true rfl⟩ ⟨Nat.le_of_ble_eq_true rfl, Nat.le_of_ble_eq_true rfl⟩ rfl (fun lay => ?_)
      cases h
      exact x_i C M dX5_restart_19
    · cases h
  · cases h
set_option maxHeartbeats 4000000 in
set_option maxRecDepth 100000 in
theorem x_X5_restart {l : Launch} (hst : l.stackTraces = false) (g : GG) (A : Nat → Prop) (lay : Nat → Nat) {σ : CS} {σ' : CS} {ex : Nat} {x1 : Int32}  (h : F_X5_restart σ x1 = some (σ', .inr ex)) : XI l yX5_restart cX5_restart 2 .int 7 111 [.ref (ga g 0), .int x1] (CH g A) g A lay σ σ' ex := by
  unfold F_X5_restart at h
  refine ex_i (own := RX5) (lo := [(0, .ref (ga g 0)), (1, .int x1)]) hst (by decide) rfl rfl (Nat.le_of_ble_eq_true rfl) ?_
  intro p e s m args below meth c C K M hx
  refine j_aload_n 1 C dX5_restart_0 0 rfl rfl ?_
  refine j_iload_n 2 C dX5_restart_1 1 rfl rfl ?_
  rcases bx_e h with ⟨σ101, u102, hF, h⟩ | ⟨σ101, ex1, hF, h⟩
  · refine k_Vv 5 C K (c_X5_requireNode K.2.2.2 g A lay  hF) cp_X5_requireNode (rv_F) mw_508 dX5_restart_2 rfl rfl (Nat.le_of_ble_eq_true rfl) ⟨Nat.le_of_ble_eq_true rfl, Nat.le_of_ble_eq_true rfl⟩ ⟨Nat.le_of_ble_eq_true rfl, Nat.le_of_ble_eq_true rfl⟩ rfl (fun lay => ?_)
    refine j_aload_n 6 C dX5_restart_5 0 rfl rfl ?_
    refine j_iload_n 7 C dX5_restart_6 1 rfl rfl ?_
    rcases bx_e h with ⟨σ103, u104, hF, h⟩ | ⟨σ103, ex1, hF, h⟩
    · refine k_Vv 10 C K (c_X5_requireDown K.2.2.2 g A lay  hF) cp_X5_requireDown (rv_F) mw_810 dX5_restart_7 rfl rfl (Nat.le_of_ble_eq_true rfl) ⟨Nat.le_of_ble_eq_true rfl, Nat.le_of_ble_eq_true rfl⟩ ⟨Nat.le_of_ble_eq_true rfl, Nat.le_of_ble_eq_true rfl⟩ rfl (fun lay => ?_)
      refine j_aload_n 11 C dX5_restart_10 0 rfl rfl ?_
      refine g_F 14 C K 0 (by decide) mw_280 rfl dX5_restart_11 rfl ?_
      refine j_iload_n 15 C dX5_restart_14 1 rfl rfl ?_
      obtain ⟨hz105, h⟩ := gd_e h
      have hb106 : tn x1 < 7 := inb_lt hz105
      refine r_nodes 16 C K hz105 dX5_restart_15 rfl ?_
      obtain ⟨σ107, r108, hF, h⟩ := bd_e h
      refine k_Vi 19 C K (c_X3_bringUp K.2.2.2 g A lay hb106 hF) cp_X3_bringUp (rv_N hb106) mw_831 dX5_restart_16 rfl rfl (Nat.le_of_ble_eq_true rfl) ⟨Nat.le_of_ble_eq_true rfl, Nat.le_of_ble_eq_true rfl⟩ ⟨Nat.le_of_ble_eq_true rfl, Nat.le_of_ble_eq_true rfl⟩ rfl (fun lay => ?_)
      cases h
    · cases h
      exact kx_Vv C K M hx (x_X5_requireDown K.2.2.2 g A lay  hF) cp_X5_requireDown (rv_F) mw_810 dX5_restart_7 rfl rfl (Nat.le_of_ble_eq_true rfl) ⟨Nat.le_of_ble_eq_true rfl, Nat.le_of_ble_eq_true rfl⟩ ⟨Nat.le_of_ble_eq_true rfl, Nat.le_of_ble_eq_true rfl⟩
  · cases h
    exact kx_Vv C K M hx (x_X5_requireNode K.2.2.2 g A lay  hF) cp_X5_requireNode (rv_F) mw_508 dX5_restart_2 rfl rfl (Nat.le_of_ble_eq_true rfl) ⟨Nat.le_of_ble_eq_true rfl, Nat.le_of_ble_eq_true rfl⟩ ⟨Nat.le_of_ble_eq_true rfl, Nat.le_of_ble_eq_true rfl⟩
theorem cp_X5_readFromOthers : CPv yX5_readFromOthers cX5_readFromOthers 5 (some .int) RX5 2 := ⟨mw_849, mw_37, mw_98, mw_850, rfl, by decide, by decide, by decide +kernel⟩
set_option maxHeartbeats 4000000 in
set_option maxRecDepth 100000 in
theorem wn_X5_readFromOthers_103 {l : Launch} {p : Program} {e : Env} {s : State} {m : MethodId} {args : Array Value} {below : List Frame} {meth : Method} {c : Code} {g : GG} {A : Nat → Prop} (C : KX p m c cX5_readFromOthers 5 s args RX5) (K : KC l g A s) (M : KM meth (some .int)) {σ' : CS} {r : Int32} {o1 : Nat} {x2 : Int32} (ho1 : o1 < 7)    (lay : Nat → Nat) (σ : CS) (v3 : Int32)  (h : B_X5_readFromOthers_103 o1 x2 σ v3 = some (σ', r)) : JJ p l e (rmk 3 72 0 0) s m args below meth c (MQ below (va_Qi (fun (r0 : Int32) (u : CS) => r0 = r ∧ u = σ') (BC (CH g A)) A) args s 0 0 A) A 5 (CH g A lay σ) 0 0 103 [(3, .int v3)] [] := by
  unfold B_X5_readFromOthers_103 at h
  refine j_iload_n 104 C dX5_readFromOthers_103 0 rfl rfl ?_
  cases h
  exact x_i C M dX5_readFromOthers_104
set_option maxHeartbeats 4000000 in
set_option maxRecDepth 100000 in
theorem wn_X5_readFromOthers_81 {l : Launch} {p : Program} {e : Env} {s : State} {m : MethodId} {args : Array Value} {below : List Frame} {meth : Method} {c : Code} {g : GG} {A : Nat → Prop} (C : KX p m c cX5_readFromOthers 5 s args RX5) (K : KC l g A s) (M : KM meth (some .int)) {σ' : CS} {r : Int32} {o1 : Nat} {x2 : Int32} (ho1 : o1 < 7)  {self12 : CS → Int32 → Int32 → Option (CS × Int32)} (ih12 : ∀ (lay : Nat → Nat) (σ : CS) (v3 : Int32) (v4 : Int32), self12 σ v3 v4 = some (σ', r) → JJ p l e (rmk 3 72 0 0) s m args below meth c (MQ below (va_Qi (fun (r0 : Int32) (u : CS) => r0 = r ∧ u = σ') (BC (CH g A)) A) args s 0 0 A) A 5 (CH g A lay σ) 0 0 12 [(0, .ref (ga g 0)), (1, .ref (ga g (5 + o1))), (2, .int x2), (3, .int v3), (4, .int v4)] []) (lay : Nat → Nat) (σ : CS) (v3 : Int32) (v4 : Int32)  (h : B_X5_readFromOthers_81 o1 x2 self12 σ v3 v4 = some (σ', r)) : JJ p l e (rmk 3 72 0 0) s m args below meth c (MQ below (va_Qi (fun (r0 : Int32) (u : CS) => r0 = r ∧ u = σ') (BC (CH g A)) A) args s 0 0 A) A 5 (CH g A lay σ) 0 0 81 [(0, .ref (ga g 0)), (1, .ref (ga g (5 + o1))), (2, .int x2), (3, .int v3), (4, .int v4)] [] := by
  unfold B_X5_readFromOthers_81 at h
  obtain ⟨x120, ex120⟩ : ∃ z : Int32, z = v4 + 1 := ⟨_, rfl⟩
  replace h := lt_e h x120 ex120
  refine j_iinc 84 C dX5_readFromOthers_81 4 rfl (v := x120) ((ii_1 _).trans ex120.symm) (lo' := [(4, .int x120), (0, .ref (ga g 0)), (1, .ref (ga g (5 + o1))), (2, .int x2), (3, .int v3)]) (by decide) rfl rfl ?_
  refine j_goto 12 C dX5_readFromOthers_84 (by decide) ?_
  refine j_sub [1, 2, 3, 4, 0] (lo' := [(0, .ref (ga g 0)), (1, .ref (ga g (5 + o1))), (2, .int x2), (3, .int v3), (4, .int x120)]) rfl ?_
  exact ih12 lay σ v3 x120 h
set_option maxHeartbeats 4000000 in
set_option maxRecDepth 100000 in
theorem wn_X5_readFromOthers_12 {l : Launch} {p : Program} {e : Env} {s : State} {m : MethodId} {args : Array Value} {below : List Frame} {meth : Method} {c : Code} {g : GG} {A : Nat → Prop} (C : KX p m c cX5_readFromOthers 5 s args RX5) (K : KC l g A s) (M : KM meth (some .int)) {σ' : CS} {r : Int32} {o1 : Nat} {x2 : Int32} (ho1 : o1 < 7)    : ∀ (fu : Nat) (lay : Nat → Nat) (σ : CS) (v3 : Int32) (v4 : Int32), B_X5_readFromOthers_12 o1 x2 fu σ v3 v4 = some (σ', r) → JJ p l e (rmk 3 72 0 0) s m args below meth c (MQ below (va_Qi (fun (r0 : Int32) (u : CS) => r0 = r ∧ u = σ') (BC (CH g A)) A) args s 0 0 A) A 5 (CH g A lay σ) 0 0 12 [(0, .ref (ga g 0)), (1, .ref (ga g (5 + o1))), (2, .int x2), (3, .int v3), (4, .int v4)] [] := by
  intro fu
  induction fu with
  | zero =>
    intro lay σ v3 v4 h
    exact nomatch (show (none : Option _) = some _ from h)
  | succ fu ih12 =>
    intro lay σ v3 v4 h
    unfold B_X5_readFromOthers_12 at h
    rw [lo3_s] at h
    refine j_iload 14 C dX5_readFromOthers_12 4 rfl rfl ?_
    refine j_aload_n 15 C dX5_readFromOthers_14 0 rfl rfl ?_
    refine g_F 18 C K 6 (by decide) mw_286 rfl dX5_readFromOthers_15 rfl ?_
    refine j_icmp_ge 21 87 C dX5_readFromOthers_18 (by decide) rfl (fun hc103 => ?_) (fun hc103 => ?_)
    · replace h := it_t hc103 h
      refine j_iload_n 88 C dX5_readFromOthers_87 3 rfl rfl ?_
      refine j_aload_n 89 C dX5_readFromOthers_88 0 rfl rfl ?_
      obtain ⟨σ104, r105, hF, h⟩ := bd_e h
      refine k_Vi 92 C K (c_X5_quorum K.2.2.2 g A lay  hF) cp_X5_quorum (rv_F) mw_412 dX5_readFromOthers_89 rfl rfl (Nat.le_of_ble_eq_true rfl) ⟨Nat.le_of_ble_eq_true rfl, Nat.le_of_ble_eq_true rfl⟩ ⟨Nat.le_of_ble_eq_true rfl, Nat.le_of_ble_eq_true rfl⟩ rfl (fun lay => ?_)
      refine j_icmp_lt 95 103 C dX5_readFromOthers_92 (by decide) rfl (fun hc106 => ?_) (fun hc106 => ?_)
      · replace h := it_t hc106 h
        refine j_sub [3] (lo' := [(3, .int v3)]) rfl ?_
        exact wn_X5_readFromOthers_103 C K M ho1 lay σ104 v3 h
      · replace h := it_f hc106 h
        refine j_aload_n 96 C dX5_readFromOthers_95 1 rfl rfl ?_
        refine j_aload_n 97 C dX5_readFromOthers_96 0 rfl rfl ?_
        refine g_F 100 C K 2 (by decide) mw_282 rfl dX5_readFromOthers_97 rfl ?_
        obtain ⟨σ107, u108, hF, h⟩ := bd_e h
        refine k_Vv 103 C K (c_X3_join K.2.2.2 g A lay ho1 (by omega) hF) cp_X3_join (rv_N ho1) mw_852 dX5_readFromOthers_100 rfl rfl (Nat.le_of_ble_eq_true rfl) ⟨Nat.le_of_ble_eq_true rfl, Nat.le_of_ble_eq_true rfl⟩ ⟨Nat.le_of_ble_eq_true rfl, Nat.le_of_ble_eq_true rfl⟩ rfl (fun lay => ?_)
        refine j_sub [3] (lo' := [(3, .int v3)]) rfl ?_
        exact wn_X5_readFromOthers_103 C K M ho1 lay σ107 v3 h
    · replace h := it_f hc103 h
      refine j_aload_n 22 C dX5_readFromOthers_21 0 rfl rfl ?_
      refine j_iload 24 C dX5_readFromOthers_22 4 rfl rfl ?_
      refine j_iload_n 25 C dX5_readFromOthers_24 2 rfl rfl ?_
      obtain ⟨σ109, r110, hF, h⟩ := bd_e h
      refine k_Vi 28 C K (c_X5_gets K.2.2.2 g A lay  hF) cp_X5_gets (rv_F) mw_696 dX5_readFromOthers_25 rfl rfl (Nat.le_of_ble_eq_true rfl) ⟨Nat.le_of_ble_eq_true rfl, Nat.le_of_ble_eq_true rfl⟩ ⟨Nat.le_of_ble_eq_true rfl, Nat.le_of_ble_eq_true rfl⟩ rfl (fun lay => ?_)
      refine j_if_eq 31 81 C dX5_readFromOthers_28 (by decide) rfl (fun hc111 => ?_) (fun hc111 => ?_)
      · replace h := it_t hc111 h
        exact wn_X5_readFromOthers_81 C K M ho1 ih12 lay σ109 v3 v4 h
      · replace h := it_f hc111 h
        refine j_aload_n 32 C dX5_readFromOthers_31 0 rfl rfl ?_
        refine g_F 35 C K 2 (by decide) mw_282 rfl dX5_readFromOthers_32 rfl ?_
        refine j_aload_n 36 C dX5_readFromOthers_35 0 rfl rfl ?_
        refine g_F 39 C K 0 (by decide) mw_280 rfl dX5_readFromOthers_36 rfl ?_
        refine j_iload 41 C dX5_readFromOthers_39 4 rfl rfl ?_
        obtain ⟨hz112, h⟩ := gd_e h
        have hb113 : tn v4 < 7 := inb_lt hz112
        refine r_nodes 42 C K hz112 dX5_readFromOthers_41 rfl ?_
        refine g_N 45 C K hb113 2 (by decide) mw_222 rfl dX5_readFromOthers_42 rfl ?_
        obtain ⟨σ114, u115, hF, h⟩ := bd_e h
        refine k_Vv 48 C K (c_X1_takeNewer K.2.2.2 g A lay (by omega) (by omega) hF) cp_X1_takeNewer (rv_D (by omega)) mw_740 dX5_readFromOthers_45 rfl rfl (Nat.le_of_ble_eq_true rfl) ⟨Nat.le_of_ble_eq_true rfl, Nat.le_of_ble_eq_true rfl⟩ ⟨Nat.le_of_ble_eq_true rfl, Nat.le_of_ble_eq_true rfl⟩ rfl (fun lay => ?_)
        refine j_aload_n 49 C dX5_readFromOthers_48 0 rfl rfl ?_
        refine g_F 52 C K 2 (by decide) mw_282 rfl dX5_readFromOthers_49 rfl ?_
        refine j_aload_n 53 C dX5_readFromOthers_52 0 rfl rfl ?_
        refine g_F 56 C K 2 (by decide) mw_282 rfl dX5_readFromOthers_53 rfl ?_
        refine g_D 59 C K (by omega) 0 (by decide) mw_140 rfl dX5_readFromOthers_56 rfl ?_
        refine j_aload_n 60 C dX5_readFromOthers_59 0 rfl rfl ?_
        refine g_F 63 C K 0 (by decide) mw_280 rfl dX5_readFromOthers_60 rfl ?_
        refine j_iload 65 C dX5_readFromOthers_63 4 rfl rfl ?_
        obtain ⟨hz116, h⟩ := gd_e h
        have hb117 : tn v4 < 7 := inb_lt hz116
        refine r_nodes 66 C K hz116 dX5_readFromOthers_65 rfl ?_
        refine g_N 69 C K hb117 2 (by decide) mw_222 rfl dX5_readFromOthers_66 rfl ?_
        refine g_D 72 C K (by omega) 0 (by decide) mw_140 rfl dX5_readFromOthers_69 rfl ?_
        refine j_mmax 75 C mw_851 dX5_readFromOthers_72 (Nat.le_of_ble_eq_true rfl) (Nat.le_of_ble_eq_true rfl) (Nat.le_of_ble_eq_true rfl) (Nat.le_of_ble_eq_true rfl) rfl ?_
        refine p_D 78 C K (by omega) 0 (by decide) mw_140 rfl rfl dX5_readFromOthers_75 rfl (fun σ118 eσ118 => ?_)
        replace h := lt_e h σ118 eσ118
        obtain ⟨x119, ex119⟩ : ∃ z : Int32, z = v3 + 1 := ⟨_, rfl⟩
        replace h := lt_e h x119 ex119
        refine j_iinc 81 C dX5_readFromOthers_78 3 rfl (v := x119) ((ii_1 _).trans ex119.symm) (lo' := [(3, .int x119), (0, .ref (ga g 0)), (1, .ref (ga g (5 + o1))), (2, .int x2), (4, .int v4)]) (by decide) rfl rfl ?_
        refine j_sub [1, 2, 3, 0, 4] (lo' := [(0, .ref (ga g 0)), (1, .ref (ga g (5 + o1))), (2, .int x2), (3, .int x119), (4, .int v4)]) rfl ?_
        exact wn_X5_readFromOthers_81 C K M ho1 ih12 lay σ118 x119 v4 h
set_option maxHeartbeats 4000000 in
set_option maxRecDepth 100000 in
theorem c_X5_readFromOthers {l : Launch} (hst : l.stackTraces = false) (g : GG) (A : Nat → Prop) (lay : Nat → Nat) {σ : CS} {σ' : CS} {r : Int32} {o1 : Nat} {x2 : Int32} (ho1 : o1 < 7) (h : F_X5_readFromOthers σ o1 x2 = some (σ', r)) : MI l yX5_readFromOthers cX5_readFromOthers 5 .int 3 72 0 0 [.ref (ga g 0), .ref (ga g (5 + o1)), .int x2] (CH g A) g A lay σ σ' r := by
  unfold F_X5_readFromOthers at h
  refine e_i (own := RX5) (lo := [(0, .ref (ga g 0)), (1, .ref (ga g (5 + o1))), (2, .int x2)]) hst (plainFor_of_name (by decide)) rfl rfl (Nat.le_of_ble_eq_true rfl) ?_
  intro p e s m args below meth c C K M
  refine j_aload_n 1 C dX5_readFromOthers_0 0 rfl rfl ?_
  refine g_F 4 C K 2 (by decide) mw_282 rfl dX5_readFromOthers_1 rfl ?_
  obtain ⟨σ101, u102, hF, h⟩ := bd_e h
  refine k_Vv 7 C K (c_X1_reset K.2.2.2 g A lay (by omega) hF) cp_X1_reset (rv_D (by omega)) mw_695 dX5_readFromOthers_4 rfl rfl (Nat.le_of_ble_eq_true rfl) ⟨Nat.le_of_ble_eq_true rfl, Nat.le_of_ble_eq_true rfl⟩ ⟨Nat.le_of_ble_eq_true rfl, Nat.le_of_ble_eq_true rfl⟩ rfl (fun lay => ?_)
  refine j_iconst 8 C dX5_readFromOthers_7 ic_0 rfl ?_
  refine j_istore_n 9 C dX5_readFromOthers_8 (lo' := [(3, .int (0 : Int32)), (0, .ref (ga g 0)), (1, .ref (ga g (5 + o1))), (2, .int x2)]) (by decide) rfl rfl ?_
  refine j_iconst 10 C dX5_readFromOthers_9 ic_0 rfl ?_
  refine j_istore 12 C dX5_readFromOthers_10 (lo' := [(4, .int (0 : Int32)), (3, .int (0 : Int32)), (0, .ref (ga g 0)), (1, .ref (ga g (5 + o1))), (2, .int x2)]) (by decide) rfl rfl ?_
  refine j_sub [2, 3, 4, 1, 0] (lo' := [(0, .ref (ga g 0)), (1, .ref (ga g (5 + o1))), (2, .int x2), (3, .int (0 : Int32)), (4, .int (0 : Int32))]) rfl ?_
  exact wn_X5_readFromOthers_12 C K M ho1 4096 lay σ101 (0 : Int32) (0 : Int32) h
theorem cp_X5_rejoin : CPv yX5_rejoin cX5_rejoin 3 (some .int) RX5 2 := ⟨mw_839, mw_840, mw_98, mw_841, rfl, by decide, by decide, by decide +kernel⟩
set_option maxHeartbeats 4000000 in
set_option maxRecDepth 100000 in
theorem c_X5_rejoin {l : Launch} (hst : l.stackTraces = false) (g : GG) (A : Nat → Prop) (lay : Nat → Nat) {σ : CS} {σ' : CS} {r : Int32} {x1 : Int32} {x2 : Int32}  (h : F_X5_rejoin σ x1 x2 = some (σ', .inl r)) : MI l yX5_rejoin cX5_rejoin 3 .int 7 111 0 0 [.ref (ga g 0), .int x1, .int x2] (CH g A) g A lay σ σ' r := by
  unfold F_X5_rejoin at h
  refine e_i (own := RX5) (lo := [(0, .ref (ga g 0)), (1, .int x1), (2, .int x2)]) hst (plainFor_of_name (by decide)) rfl rfl (Nat.le_of_ble_eq_true rfl) ?_
  intro p e s m args below meth c C K M
  refine j_aload_n 1 C dX5_rejoin_0 0 rfl rfl ?_
  refine j_iload_n 2 C dX5_rejoin_1 1 rfl rfl ?_
  rcases bx_e h with ⟨σ101, u102, hF, h⟩ | ⟨σ101, ex1, hF, h⟩
  · refine k_Vv 5 C K (c_X5_requireNode K.2.2.2 g A lay  hF) cp_X5_requireNode (rv_F) mw_508 dX5_rejoin_2 rfl rfl (Nat.le_of_ble_eq_true rfl) ⟨Nat.le_of_ble_eq_true rfl, Nat.le_of_ble_eq_true rfl⟩ ⟨Nat.le_of_ble_eq_true rfl, Nat.le_of_ble_eq_true rfl⟩ rfl (fun lay => ?_)
    refine j_aload_n 6 C dX5_rejoin_5 0 rfl rfl ?_
    refine j_iload_n 7 C dX5_rejoin_6 2 rfl rfl ?_
    rcases bx_e h with ⟨σ103, u104, hF, h⟩ | ⟨σ103, ex1, hF, h⟩
    · refine k_Vv 10 C K (c_X5_requireReached K.2.2.2 g A lay  hF) cp_X5_requireReached (rv_F) mw_677 dX5_rejoin_7 rfl rfl (Nat.le_of_ble_eq_true rfl) ⟨Nat.le_of_ble_eq_true rfl, Nat.le_of_ble_eq_true rfl⟩ ⟨Nat.le_of_ble_eq_true rfl, Nat.le_of_ble_eq_true rfl⟩ rfl (fun lay => ?_)
      refine j_aload_n 11 C dX5_rejoin_10 0 rfl rfl ?_
      refine g_F 14 C K 0 (by decide) mw_280 rfl dX5_rejoin_11 rfl ?_
      refine j_iload_n 15 C dX5_rejoin_14 1 rfl rfl ?_
      obtain ⟨hz105, h⟩ := gd_e h
      have hb106 : tn x1 < 7 := inb_lt hz105
      refine r_nodes 16 C K hz105 dX5_rejoin_15 rfl ?_
      obtain ⟨σ107, r108, hF, h⟩ := bd_e h
      refine k_Vi 19 C K (c_X3_canRejoin K.2.2.2 g A lay hb106 hF) cp_X3_canRejoin (rv_N hb106) mw_842 dX5_rejoin_16 rfl rfl (Nat.le_of_ble_eq_true rfl) ⟨Nat.le_of_ble_eq_true rfl, Nat.le_of_ble_eq_true rfl⟩ ⟨Nat.le_of_ble_eq_true rfl, Nat.le_of_ble_eq_true rfl⟩ rfl (fun lay => ?_)
      refine j_if_ne 22 32 C dX5_rejoin_19 (by decide) rfl (fun hc109 => ?_) (fun hc109 => ?_)
      · replace h := it_f hc109 h
        refine j_aload_n 33 C dX5_rejoin_32 0 rfl rfl ?_
        refine j_aload_n 34 C dX5_rejoin_33 0 rfl rfl ?_
        refine g_F 37 C K 0 (by decide) mw_280 rfl dX5_rejoin_34 rfl ?_
        refine j_iload_n 38 C dX5_rejoin_37 1 rfl rfl ?_
        obtain ⟨hz110, h⟩ := gd_e h
        have hb111 : tn x1 < 7 := inb_lt hz110
        refine r_nodes 39 C K hz110 dX5_rejoin_38 rfl ?_
        refine j_iload_n 40 C dX5_rejoin_39 2 rfl rfl ?_
        obtain ⟨σ112, r113, hF, h⟩ := bd_e h
        refine k_Vi 43 C K (c_X5_readFromOthers K.2.2.2 g A lay hb111 hF) cp_X5_readFromOthers (rv_F) mw_847 dX5_rejoin_40 rfl rfl (Nat.le_of_ble_eq_true rfl) ⟨Nat.le_of_ble_eq_true rfl, Nat.le_of_ble_eq_true rfl⟩ ⟨Nat.le_of_ble_eq_true rfl, Nat.le_of_ble_eq_true rfl⟩ rfl (fun lay => ?_)
        cases h
        exact x_i C M dX5_rejoin_43
      · replace h := it_t hc109 h
        cases h
    · cases h
  · cases h
set_option maxHeartbeats 4000000 in
set_option maxRecDepth 100000 in
theorem x_X5_rejoin {l : Launch} (hst : l.stackTraces = false) (g : GG) (A : Nat → Prop) (lay : Nat → Nat) {σ : CS} {σ' : CS} {ex : Nat} {x1 : Int32} {x2 : Int32}  (h : F_X5_rejoin σ x1 x2 = some (σ', .inr ex)) : XI l yX5_rejoin cX5_rejoin 3 .int 7 111 [.ref (ga g 0), .int x1, .int x2] (CH g A) g A lay σ σ' ex := by
  unfold F_X5_rejoin at h
  refine ex_i (own := RX5) (lo := [(0, .ref (ga g 0)), (1, .int x1), (2, .int x2)]) hst (by decide) rfl rfl (Nat.le_of_ble_eq_true rfl) ?_
  intro p e s m args below meth c C K M hx
  refine j_aload_n 1 C dX5_rejoin_0 0 rfl rfl ?_
  refine j_iload_n 2 C dX5_rejoin_1 1 rfl rfl ?_
  rcases bx_e h with ⟨σ101, u102, hF, h⟩ | ⟨σ101, ex1, hF, h⟩
  · refine k_Vv 5 C K (c_X5_requireNode K.2.2.2 g A lay  hF) cp_X5_requireNode (rv_F) mw_508 dX5_rejoin_2 rfl rfl (Nat.le_of_ble_eq_true rfl) ⟨Nat.le_of_ble_eq_true rfl, Nat.le_of_ble_eq_true rfl⟩ ⟨Nat.le_of_ble_eq_true rfl, Nat.le_of_ble_eq_true rfl⟩ rfl (fun lay => ?_)
    refine j_aload_n 6 C dX5_rejoin_5 0 rfl rfl ?_
    refine j_iload_n 7 C dX5_rejoin_6 2 rfl rfl ?_
    rcases bx_e h with ⟨σ103, u104, hF, h⟩ | ⟨σ103, ex1, hF, h⟩
    · refine k_Vv 10 C K (c_X5_requireReached K.2.2.2 g A lay  hF) cp_X5_requireReached (rv_F) mw_677 dX5_rejoin_7 rfl rfl (Nat.le_of_ble_eq_true rfl) ⟨Nat.le_of_ble_eq_true rfl, Nat.le_of_ble_eq_true rfl⟩ ⟨Nat.le_of_ble_eq_true rfl, Nat.le_of_ble_eq_true rfl⟩ rfl (fun lay => ?_)
      refine j_aload_n 11 C dX5_rejoin_10 0 rfl rfl ?_
      refine g_F 14 C K 0 (by decide) mw_280 rfl dX5_rejoin_11 rfl ?_
      refine j_iload_n 15 C dX5_rejoin_14 1 rfl rfl ?_
      obtain ⟨hz105, h⟩ := gd_e h
      have hb106 : tn x1 < 7 := inb_lt hz105
      refine r_nodes 16 C K hz105 dX5_rejoin_15 rfl ?_
      obtain ⟨σ107, r108, hF, h⟩ := bd_e h
      refine k_Vi 19 C K (c_X3_canRejoin K.2.2.2 g A lay hb106 hF) cp_X3_canRejoin (rv_N hb106) mw_842 dX5_rejoin_16 rfl rfl (Nat.le_of_ble_eq_true rfl) ⟨Nat.le_of_ble_eq_true rfl, Nat.le_of_ble_eq_true rfl⟩ ⟨Nat.le_of_ble_eq_true rfl, Nat.le_of_ble_eq_true rfl⟩ rfl (fun lay => ?_)
      refine j_if_ne 22 32 C dX5_rejoin_19 (by decide) rfl (fun hc109 => ?_) (fun hc109 => ?_)
      · replace h := it_f hc109 h
        refine j_aload_n 33 C dX5_rejoin_32 0 rfl rfl ?_
        refine j_aload_n 34 C dX5_rejoin_33 0 rfl rfl ?_
        refine g_F 37 C K 0 (by decide) mw_280 rfl dX5_rejoin_34 rfl ?_
        refine j_iload_n 38 C dX5_rejoin_37 1 rfl rfl ?_
        obtain ⟨hz110, h⟩ := gd_e h
        have hb111 : tn x1 < 7 := inb_lt hz110
        refine r_nodes 39 C K hz110 dX5_rejoin_38 rfl ?_
        refine j_iload_n 40 C dX5_rejoin_39 2 rfl rfl ?_
        obtain ⟨σ112, r113, hF, h⟩ := bd_e h
        refine k_Vi 43 C K (c_X5_readFromOthers K.2.2.2 g A lay hb111 hF) cp_X5_readFromOthers (rv_F) mw_847 dX5_rejoin_40 rfl rfl (Nat.le_of_ble_eq_true rfl) ⟨Nat.le_of_ble_eq_true rfl, Nat.le_of_ble_eq_true rfl⟩ ⟨Nat.le_of_ble_eq_true rfl, Nat.le_of_ble_eq_true rfl⟩ rfl (fun lay => ?_)
        cases h
      · replace h := it_t hc109 h
        cases h
        exact jx_3 C K M hx CH_kept mw_609 xs_126 xat_X5_84 dX5_rejoin_22 dX5_rejoin_25 dX5_rejoin_26 dX5_rejoin_28 dX5_rejoin_31 (Nat.le_of_ble_eq_true rfl) (Nat.le_of_ble_eq_true rfl) ⟨Nat.le_of_ble_eq_true rfl, Nat.le_of_ble_eq_true rfl⟩
    · cases h
      exact kx_Vv C K M hx (x_X5_requireReached K.2.2.2 g A lay  hF) cp_X5_requireReached (rv_F) mw_677 dX5_rejoin_7 rfl rfl (Nat.le_of_ble_eq_true rfl) ⟨Nat.le_of_ble_eq_true rfl, Nat.le_of_ble_eq_true rfl⟩ ⟨Nat.le_of_ble_eq_true rfl, Nat.le_of_ble_eq_true rfl⟩
  · cases h
    exact kx_Vv C K M hx (x_X5_requireNode K.2.2.2 g A lay  hF) cp_X5_requireNode (rv_F) mw_508 dX5_rejoin_2 rfl rfl (Nat.le_of_ble_eq_true rfl) ⟨Nat.le_of_ble_eq_true rfl, Nat.le_of_ble_eq_true rfl⟩ ⟨Nat.le_of_ble_eq_true rfl, Nat.le_of_ble_eq_true rfl⟩
theorem cp_X5_append : CPv yX5_append cX5_append 2 (some .int) RX5 1 := ⟨mw_861, mw_862, mw_98, mw_863, rfl, by decide, by decide, by decide +kernel⟩
set_option maxHeartbeats 4000000 in
set_option maxRecDepth 100000 in
theorem wn_X5_append_12 {l : Launch} {p : Program} {e : Env} {s : State} {m : MethodId} {args : Array Value} {below : List Frame} {meth : Method} {c : Code} {g : GG} {A : Nat → Prop} (C : KX p m c cX5_append 2 s args RX5) (K : KC l g A s) (M : KM meth (some .int)) {σ' : CS} {r : Int32} {x1 : Int32}     (lay : Nat → Nat) (σ : CS)   (h : B_X5_append_12 x1 σ  = some (σ', .inl r)) : JJ p l e (rmk 6 90 0 0) s m args below meth c (MQ below (va_Qi (fun (r0 : Int32) (u : CS) => r0 = r ∧ u = σ') (BC (CH g A)) A) args s 0 0 A) A 2 (CH g A lay σ) 0 0 12 [] [] := by
  unfold B_X5_append_12 at h
  cases h
set_option maxHeartbeats 4000000 in
set_option maxRecDepth 100000 in
theorem c_X5_append {l : Launch} (hst : l.stackTraces = false) (g : GG) (A : Nat → Prop) (lay : Nat → Nat) {σ : CS} {σ' : CS} {r : Int32} {x1 : Int32}  (h : F_X5_append σ x1 = some (σ', .inl r)) : MI l yX5_append cX5_append 2 .int 6 90 0 0 [.ref (ga g 0), .int x1] (CH g A) g A lay σ σ' r := by
  unfold F_X5_append at h
  refine e_i (own := RX5) (lo := [(0, .ref (ga g 0)), (1, .int x1)]) hst (plainFor_of_name (by decide)) rfl rfl (Nat.le_of_ble_eq_true rfl) ?_
  intro p e s m args below meth c C K M
  refine j_iload_n 1 C dX5_append_0 1 rfl rfl ?_
  refine j_bipush 3 C dX5_append_1 bp_32 rfl ?_
  refine j_icmp_lt 6 12 C dX5_append_3 (by decide) rfl (fun hc101 => ?_) (fun hc101 => ?_)
  · replace h := it_t hc101 h
    refine j_sub [] (lo' := []) rfl ?_
    exact wn_X5_append_12 C K M  lay σ  h
  · replace h := it_f hc101 h
    refine j_iload_n 7 C dX5_append_6 1 rfl rfl ?_
    refine j_bipush 9 C dX5_append_7 bp_126 rfl ?_
    refine j_icmp_le 12 22 C dX5_append_9 (by decide) rfl (fun hc102 => ?_) (fun hc102 => ?_)
    · replace h := it_t hc102 h
      refine j_aload_n 23 C dX5_append_22 0 rfl rfl ?_
      refine g_F 26 C K 5 (by decide) mw_285 rfl dX5_append_23 rfl ?_
      refine j_bipush 28 C dX5_append_26 bp_60 rfl ?_
      refine j_icmp_lt 31 41 C dX5_append_28 (by decide) rfl (fun hc103 => ?_) (fun hc103 => ?_)
      · replace h := it_t hc103 h
        refine j_aload_n 42 C dX5_append_41 0 rfl rfl ?_
        refine g_F 45 C K 4 (by decide) mw_284 rfl dX5_append_42 rfl ?_
        refine j_aload_n 46 C dX5_append_45 0 rfl rfl ?_
        refine g_F 49 C K 5 (by decide) mw_285 rfl dX5_append_46 rfl ?_
        refine j_iload_n 50 C dX5_append_49 1 rfl rfl ?_
        obtain ⟨hz104, h⟩ := gd_e h
        refine r_ist 51 C K (ar_I _ ) (ca_I _ _ ) hz104 dX5_append_50 rfl (fun σ105 eσ105 => ?_)
        replace h := lt_e h σ105 eσ105
        refine j_aload_n 52 C dX5_append_51 0 rfl rfl ?_
        refine j_dup 53 C dX5_append_52 rfl rfl ?_
        refine g_F 56 C K 5 (by decide) mw_285 rfl dX5_append_53 rfl ?_
        refine j_iconst 57 C dX5_append_56 ic_1 rfl ?_
        refine j_iadd 58 C dX5_append_57 rfl ?_
        refine p_F 61 C K 5 (by decide) mw_285 rfl rfl dX5_append_58 rfl (fun σ106 eσ106 => ?_)
        replace h := lt_e h σ106 eσ106
        refine j_aload_n 62 C dX5_append_61 0 rfl rfl ?_
        refine g_F 65 C K 5 (by decide) mw_285 rfl dX5_append_62 rfl ?_
        cases h
        exact x_i C M dX5_append_65
      · replace h := it_f hc103 h
        cases h
    · replace h := it_f hc102 h
      refine j_sub [] (lo' := []) rfl ?_
      exact wn_X5_append_12 C K M  lay σ  h
set_option maxHeartbeats 4000000 in
set_option maxRecDepth 100000 in
theorem wx_X5_append_12 {l : Launch} {p : Program} {e : Env} {s : State} {m : MethodId} {args : Array Value} {below : List Frame} {meth : Method} {c : Code} {g : GG} {A : Nat → Prop} (C : KX p m c cX5_append 2 s args RX5) (K : KC l g A s) (M : KM meth (some .int)) (hx : ∀ x ∈ c.exceptionTable.toList, False) {σ' : CS} {ex : Nat} {x1 : Int32}     (lay : Nat → Nat) (σ : CS)   (h : B_X5_append_12 x1 σ  = some (σ', .inr ex)) : JJ p l e (rmk 6 90 1 6) s m args below meth c (vx_MQ below (va_Qi (fun (_ : Int32) (_ : CS) => False) (BC (CH g A)) A) (xxX (BC (CH g A)) A σ' ex) args s 1 6 A) A 2 (CH g A lay σ) 0 0 12 [] [] := by
  unfold B_X5_append_12 at h
  cases h
  exact jx_2 C K M hx CH_kept mw_432 xs_131 xat_X5_58 dX5_append_12 dX5_append_15 dX5_append_16 dX5_append_18 dX5_append_21 (Nat.le_of_ble_eq_true rfl) (Nat.le_of_ble_eq_true rfl) ⟨Nat.le_of_ble_eq_true rfl, Nat.le_of_ble_eq_true rfl⟩
set_option maxHeartbeats 4000000 in
set_option maxRecDepth 100000 in
theorem x_X5_append {l : Launch} (hst : l.stackTraces = false) (g : GG) (A : Nat → Prop) (lay : Nat → Nat) {σ : CS} {σ' : CS} {ex : Nat} {x1 : Int32}  (h : F_X5_append σ x1 = some (σ', .inr ex)) : XI l yX5_append cX5_append 2 .int 6 90 [.ref (ga g 0), .int x1] (CH g A) g A lay σ σ' ex := by
  unfold F_X5_append at h
  refine ex_i (own := RX5) (lo := [(0, .ref (ga g 0)), (1, .int x1)]) hst (by decide) rfl rfl (Nat.le_of_ble_eq_true rfl) ?_
  intro p e s m args below meth c C K M hx
  refine j_iload_n 1 C dX5_append_0 1 rfl rfl ?_
  refine j_bipush 3 C dX5_append_1 bp_32 rfl ?_
  refine j_icmp_lt 6 12 C dX5_append_3 (by decide) rfl (fun hc101 => ?_) (fun hc101 => ?_)
  · replace h := it_t hc101 h
    refine j_sub [] (lo' := []) rfl ?_
    exact wx_X5_append_12 C K M hx  lay σ  h
  · replace h := it_f hc101 h
    refine j_iload_n 7 C dX5_append_6 1 rfl rfl ?_
    refine j_bipush 9 C dX5_append_7 bp_126 rfl ?_
    refine j_icmp_le 12 22 C dX5_append_9 (by decide) rfl (fun hc102 => ?_) (fun hc102 => ?_)
    · replace h := it_t hc102 h
      refine j_aload_n 23 C dX5_append_22 0 rfl rfl ?_
      refine g_F 26 C K 5 (by decide) mw_285 rfl dX5_append_23 rfl ?_
      refine j_bipush 28 C dX5_append_26 bp_60 rfl ?_
      refine j_icmp_lt 31 41 C dX5_append_28 (by decide) rfl (fun hc103 => ?_) (fun hc103 => ?_)
      · replace h := it_t hc103 h
        refine j_aload_n 42 C dX5_append_41 0 rfl rfl ?_
        refine g_F 45 C K 4 (by decide) mw_284 rfl dX5_append_42 rfl ?_
        refine j_aload_n 46 C dX5_append_45 0 rfl rfl ?_
        refine g_F 49 C K 5 (by decide) mw_285 rfl dX5_append_46 rfl ?_
        refine j_iload_n 50 C dX5_append_49 1 rfl rfl ?_
        obtain ⟨hz104, h⟩ := gd_e h
        refine r_ist 51 C K (ar_I _ ) (ca_I _ _ ) hz104 dX5_append_50 rfl (fun σ105 eσ105 => ?_)
        replace h := lt_e h σ105 eσ105
        refine j_aload_n 52 C dX5_append_51 0 rfl rfl ?_
        refine j_dup 53 C dX5_append_52 rfl rfl ?_
        refine g_F 56 C K 5 (by decide) mw_285 rfl dX5_append_53 rfl ?_
        refine j_iconst 57 C dX5_append_56 ic_1 rfl ?_
        refine j_iadd 58 C dX5_append_57 rfl ?_
        refine p_F 61 C K 5 (by decide) mw_285 rfl rfl dX5_append_58 rfl (fun σ106 eσ106 => ?_)
        replace h := lt_e h σ106 eσ106
        refine j_aload_n 62 C dX5_append_61 0 rfl rfl ?_
        refine g_F 65 C K 5 (by decide) mw_285 rfl dX5_append_62 rfl ?_
        cases h
      · replace h := it_f hc103 h
        cases h
        exact jx_3 C K M hx CH_kept mw_609 xs_136 xat_X5_84 dX5_append_31 dX5_append_34 dX5_append_35 dX5_append_37 dX5_append_40 (Nat.le_of_ble_eq_true rfl) (Nat.le_of_ble_eq_true rfl) ⟨Nat.le_of_ble_eq_true rfl, Nat.le_of_ble_eq_true rfl⟩
    · replace h := it_f hc102 h
      refine j_sub [] (lo' := []) rfl ?_
      exact wx_X5_append_12 C K M hx  lay σ  h
theorem cp_X5_clearInput : CPv yX5_clearInput cX5_clearInput 2 (some .int) RX5 0 := ⟨mw_325, mw_326, mw_98, mw_327, rfl, by decide, by decide, by decide +kernel⟩
set_option maxHeartbeats 4000000 in
set_option maxRecDepth 100000 in
theorem c_X5_clearInput {l : Launch} (hst : l.stackTraces = false) (g : GG) (A : Nat → Prop) (lay : Nat → Nat) {σ : CS} {σ' : CS} {r : Int32}   (h : F_X5_clearInput σ  = some (σ', r)) : MI l yX5_clearInput cX5_clearInput 2 .int 0 0 0 0 [.ref (ga g 0)] (CH g A) g A lay σ σ' r := by
  unfold F_X5_clearInput at h
  refine e_i (own := RX5) (lo := [(0, .ref (ga g 0))]) hst (plainFor_of_name (by decide)) rfl rfl (Nat.le_of_ble_eq_true rfl) ?_
  intro p e s m args below meth c C K M
  refine j_aload_n 1 C dX5_clearInput_0 0 rfl rfl ?_
  refine g_F 4 C K 5 (by decide) mw_285 rfl dX5_clearInput_1 rfl ?_
  refine j_topi (fun x101 ex101 => ?_)
  replace h := lt_e h x101 ex101
  refine j_istore_n 5 C dX5_clearInput_4 (lo' := [(1, .int x101), (0, .ref (ga g 0))]) (by decide) rfl rfl ?_
  refine j_aload_n 6 C dX5_clearInput_5 1 rfl rfl ?_
  refine j_iconst 7 C dX5_clearInput_6 ic_0 rfl ?_
  refine p_F 10 C K 5 (by decide) mw_285 rfl rfl dX5_clearInput_7 rfl (fun σ102 eσ102 => ?_)
  replace h := lt_e h σ102 eσ102
  refine j_iload_n 11 C dX5_clearInput_10 0 rfl rfl ?_
  cases h
  exact x_i C M dX5_clearInput_11
theorem cp_X5_readUpToError : CPv yX5_readUpToError cX5_readUpToError 2 (some .int) RX5 0 := ⟨mw_334, mw_0, mw_98, mw_335, rfl, by decide, by decide, by decide +kernel⟩
set_option maxHeartbeats 4000000 in
set_option maxRecDepth 100000 in
theorem wn_X5_readUpToError_9 {l : Launch} {p : Program} {e : Env} {s : State} {m : MethodId} {args : Array Value} {below : List Frame} {meth : Method} {c : Code} {g : GG} {A : Nat → Prop} (C : KX p m c cX5_readUpToError 2 s args RX5) (K : KC l g A s) (M : KM meth (some .int)) {σ' : CS} {r : Int32}      : ∀ (fu : Nat) (lay : Nat → Nat) (σ : CS) (v1 : Int32), B_X5_readUpToError_9  fu σ v1 = some (σ', r) → JJ p l e (rmk 3 66 0 0) s m args below meth c (MQ below (va_Qi (fun (r0 : Int32) (u : CS) => r0 = r ∧ u = σ') (BC (CH g A)) A) args s 0 0 A) A 2 (CH g A lay σ) 0 0 9 [(0, .ref (ga g 0)), (1, .int v1)] [] := by
  intro fu
  induction fu with
  | zero =>
    intro lay σ v1 h
    exact nomatch (show (none : Option _) = some _ from h)
  | succ fu ih9 =>
    intro lay σ v1 h
    unfold B_X5_readUpToError_9 at h
    rw [lo2_s] at h
    refine j_iload_n 10 C dX5_readUpToError_9 1 rfl rfl ?_
    refine j_aload_n 11 C dX5_readUpToError_10 0 rfl rfl ?_
    refine g_F 14 C K 5 (by decide) mw_285 rfl dX5_readUpToError_11 rfl ?_
    refine j_icmp_ge 17 49 C dX5_readUpToError_14 (by decide) rfl (fun hc103 => ?_) (fun hc103 => ?_)
    · replace h := it_t hc103 h
      refine j_aload_n 50 C dX5_readUpToError_49 0 rfl rfl ?_
      refine g_F 53 C K 5 (by decide) mw_285 rfl dX5_readUpToError_50 rfl ?_
      cases h
      exact x_i C M dX5_readUpToError_53
    · replace h := it_f hc103 h
      refine j_aload_n 18 C dX5_readUpToError_17 0 rfl rfl ?_
      refine g_F 21 C K 3 (by decide) mw_283 rfl dX5_readUpToError_18 rfl ?_
      refine j_aload_n 22 C dX5_readUpToError_21 0 rfl rfl ?_
      refine g_F 25 C K 4 (by decide) mw_284 rfl dX5_readUpToError_22 rfl ?_
      refine j_iload_n 26 C dX5_readUpToError_25 1 rfl rfl ?_
      obtain ⟨hz104, h⟩ := gd_e h
      refine r_ild 27 C K (ar_I _ ) (ca_I _ _ ) hz104 dX5_readUpToError_26 rfl ?_
      refine j_aload_n 28 C dX5_readUpToError_27 0 rfl rfl ?_
      refine g_F 31 C K 6 (by decide) mw_286 rfl dX5_readUpToError_28 rfl ?_
      refine j_aload_n 32 C dX5_readUpToError_31 0 rfl rfl ?_
      refine g_F 35 C K 7 (by decide) mw_287 rfl dX5_readUpToError_32 rfl ?_
      obtain ⟨σ105, r106, hF, h⟩ := bd_e h
      refine k_Vi 38 C K (c_X2_takes K.2.2.2 g A lay  hF) cp_X2_takes (rv_R) mw_340 dX5_readUpToError_35 rfl rfl (Nat.le_of_ble_eq_true rfl) ⟨Nat.le_of_ble_eq_true rfl, Nat.le_of_ble_eq_true rfl⟩ ⟨Nat.le_of_ble_eq_true rfl, Nat.le_of_ble_eq_true rfl⟩ rfl (fun lay => ?_)
      refine j_if_ne 41 43 C dX5_readUpToError_38 (by decide) rfl (fun hc107 => ?_) (fun hc107 => ?_)
      · replace h := it_f hc107 h
        obtain ⟨x108, ex108⟩ : ∃ z : Int32, z = v1 + 1 := ⟨_, rfl⟩
        replace h := lt_e h x108 ex108
        refine j_iinc 46 C dX5_readUpToError_43 1 rfl (v := x108) ((ii_1 _).trans ex108.symm) (lo' := [(1, .int x108), (0, .ref (ga g 0))]) (by decide) rfl rfl ?_
        refine j_goto 9 C dX5_readUpToError_46 (by decide) ?_
        refine j_sub [1, 0] (lo' := [(0, .ref (ga g 0)), (1, .int x108)]) rfl ?_
        exact ih9 lay σ105 x108 h
      · replace h := it_t hc107 h
        refine j_iload_n 42 C dX5_readUpToError_41 1 rfl rfl ?_
        cases h
        exact x_i C M dX5_readUpToError_42
set_option maxHeartbeats 4000000 in
set_option maxRecDepth 100000 in
theorem c_X5_readUpToError {l : Launch} (hst : l.stackTraces = false) (g : GG) (A : Nat → Prop) (lay : Nat → Nat) {σ : CS} {σ' : CS} {r : Int32}   (h : F_X5_readUpToError σ  = some (σ', r)) : MI l yX5_readUpToError cX5_readUpToError 2 .int 3 66 0 0 [.ref (ga g 0)] (CH g A) g A lay σ σ' r := by
  unfold F_X5_readUpToError at h
  refine e_i (own := RX5) (lo := [(0, .ref (ga g 0))]) hst (plainFor_of_name (by decide)) rfl rfl (Nat.le_of_ble_eq_true rfl) ?_
  intro p e s m args below meth c C K M
  refine j_aload_n 1 C dX5_readUpToError_0 0 rfl rfl ?_
  refine g_F 4 C K 3 (by decide) mw_283 rfl dX5_readUpToError_1 rfl ?_
  obtain ⟨σ101, u102, hF, h⟩ := bd_e h
  refine k_Vv 7 C K (c_X2_reset K.2.2.2 g A lay  hF) cp_X2_reset (rv_R) mw_336 dX5_readUpToError_4 rfl rfl (Nat.le_of_ble_eq_true rfl) ⟨Nat.le_of_ble_eq_true rfl, Nat.le_of_ble_eq_true rfl⟩ ⟨Nat.le_of_ble_eq_true rfl, Nat.le_of_ble_eq_true rfl⟩ rfl (fun lay => ?_)
  refine j_iconst 8 C dX5_readUpToError_7 ic_0 rfl ?_
  refine j_istore_n 9 C dX5_readUpToError_8 (lo' := [(1, .int (0 : Int32)), (0, .ref (ga g 0))]) (by decide) rfl rfl ?_
  refine j_sub [1, 0] (lo' := [(0, .ref (ga g 0)), (1, .int (0 : Int32))]) rfl ?_
  exact wn_X5_readUpToError_9 C K M  4096 lay σ101 (0 : Int32) h
theorem cp_X5_firstError : CPv yX5_firstError cX5_firstError 1 (some .int) RX5 0 := ⟨mw_329, mw_330, mw_98, mw_331, rfl, by decide, by decide, by decide +kernel⟩
set_option maxHeartbeats 4000000 in
set_option maxRecDepth 100000 in
theorem c_X5_firstError {l : Launch} (hst : l.stackTraces = false) (g : GG) (A : Nat → Prop) (lay : Nat → Nat) {σ : CS} {σ' : CS} {r : Int32}   (h : F_X5_firstError σ  = some (σ', r)) : MI l yX5_firstError cX5_firstError 1 .int 4 87 0 0 [.ref (ga g 0)] (CH g A) g A lay σ σ' r := by
  unfold F_X5_firstError at h
  refine e_i (own := RX5) (lo := [(0, .ref (ga g 0))]) hst (plainFor_of_name (by decide)) rfl rfl (Nat.le_of_ble_eq_true rfl) ?_
  intro p e s m args below meth c C K M
  refine j_aload_n 1 C dX5_firstError_0 0 rfl rfl ?_
  obtain ⟨σ101, r102, hF, h⟩ := bd_e h
  refine k_Vi 4 C K (c_X5_readUpToError K.2.2.2 g A lay  hF) cp_X5_readUpToError (rv_F) mw_332 dX5_firstError_1 rfl rfl (Nat.le_of_ble_eq_true rfl) ⟨Nat.le_of_ble_eq_true rfl, Nat.le_of_ble_eq_true rfl⟩ ⟨Nat.le_of_ble_eq_true rfl, Nat.le_of_ble_eq_true rfl⟩ rfl (fun lay => ?_)
  cases h
  exact x_i C M dX5_firstError_4
theorem cp_X5_isPossible : CPv yX5_isPossible cX5_isPossible 2 (some .boolean) RX5 1 := ⟨mw_884, mw_39, mw_98, mw_885, rfl, by decide, by decide, by decide +kernel⟩
set_option maxHeartbeats 4000000 in
set_option maxRecDepth 100000 in
theorem wn_X5_isPossible_94 {l : Launch} {p : Program} {e : Env} {s : State} {m : MethodId} {args : Array Value} {below : List Frame} {meth : Method} {c : Code} {g : GG} {A : Nat → Prop} (C : KX p m c cX5_isPossible 2 s args RX5) (K : KC l g A s) (M : KM meth (some .boolean)) {σ' : CS} {r : Int32} {o1 : Nat} (ho1 : o1 < 7)    (lay : Nat → Nat) (σ : CS)   (h : B_X5_isPossible_94 o1 σ  = some (σ', r)) : JJ p l e (rmk 1 21 0 0) s m args below meth c (MQ below (va_Qi (fun (r0 : Int32) (u : CS) => r0 = r ∧ u = σ') (BC (CH g A)) A) args s 0 0 A) A 2 (CH g A lay σ) 0 0 94 [] [] := by
  unfold B_X5_isPossible_94 at h
  refine j_iconst 95 C dX5_isPossible_94 ic_0 rfl ?_
  cases h
  exact x_z C M dX5_isPossible_95 (by decide)
set_option maxHeartbeats 4000000 in
set_option maxRecDepth 100000 in
theorem c_X5_isPossible {l : Launch} (hst : l.stackTraces = false) (g : GG) (A : Nat → Prop) (lay : Nat → Nat) {σ : CS} {σ' : CS} {r : Int32} {o1 : Nat} (ho1 : o1 < 7) (h : F_X5_isPossible σ o1 = some (σ', r)) : MI l yX5_isPossible cX5_isPossible 2 .boolean 1 21 0 0 [.ref (ga g 0), .ref (ga g (5 + o1))] (CH g A) g A lay σ σ' r := by
  unfold F_X5_isPossible at h
  refine e_i (own := RX5) (lo := [(0, .ref (ga g 0)), (1, .ref (ga g (5 + o1)))]) hst (plainFor_of_name (by decide)) rfl rfl (Nat.le_of_ble_eq_true rfl) ?_
  intro p e s m args below meth c C K M
  refine j_aload_n 1 C dX5_isPossible_0 0 rfl rfl ?_
  refine g_F 4 C K 3 (by decide) mw_283 rfl dX5_isPossible_1 rfl ?_
  refine g_R 7 C K 0 (by decide) mw_160 rfl dX5_isPossible_4 rfl ?_
  refine j_topi (fun x101 ex101 => ?_)
  replace h := lt_e h x101 ex101
  by_cases hc102 : x101 = 97
  · replace h := it_t hc102 h
    refine j_lookup 69 C dX5_isPossible_7 (off := 62) (by decide) (by rw [hc102]; decide) (by decide) ?_
    refine j_aload_n 70 C dX5_isPossible_69 0 rfl rfl ?_
    refine j_aload_n 71 C dX5_isPossible_70 0 rfl rfl ?_
    refine g_F 74 C K 3 (by decide) mw_283 rfl dX5_isPossible_71 rfl ?_
    refine g_R 77 C K 2 (by decide) mw_164 rfl dX5_isPossible_74 rfl ?_
    obtain ⟨σ103, r104, hF, h⟩ := bd_e h
    refine k_Vi 80 C K (c_X5_isSlot K.2.2.2 g A lay  hF) cp_X5_isSlot (rv_F) mw_585 dX5_isPossible_77 rfl rfl (Nat.le_of_ble_eq_true rfl) ⟨Nat.le_of_ble_eq_true rfl, Nat.le_of_ble_eq_true rfl⟩ ⟨Nat.le_of_ble_eq_true rfl, Nat.le_of_ble_eq_true rfl⟩ rfl (fun lay => ?_)
    refine j_if_eq 83 94 C dX5_isPossible_80 (by decide) rfl (fun hc105 => ?_) (fun hc105 => ?_)
    · replace h := it_t hc105 h
      refine j_sub [] (lo' := []) rfl ?_
      exact wn_X5_isPossible_94 C K M ho1 lay σ103  h
    · replace h := it_f hc105 h
      refine j_aload_n 84 C dX5_isPossible_83 1 rfl rfl ?_
      obtain ⟨σ106, r107, hF, h⟩ := bd_e h
      refine k_Vi 87 C K (c_X3_hasRound K.2.2.2 g A lay ho1 hF) cp_X3_hasRound (rv_N ho1) mw_597 dX5_isPossible_84 rfl rfl (Nat.le_of_ble_eq_true rfl) ⟨Nat.le_of_ble_eq_true rfl, Nat.le_of_ble_eq_true rfl⟩ ⟨Nat.le_of_ble_eq_true rfl, Nat.le_of_ble_eq_true rfl⟩ rfl (fun lay => ?_)
      refine j_if_eq 90 94 C dX5_isPossible_87 (by decide) rfl (fun hc108 => ?_) (fun hc108 => ?_)
      · replace h := it_t hc108 h
        refine j_sub [] (lo' := []) rfl ?_
        exact wn_X5_isPossible_94 C K M ho1 lay σ106  h
      · replace h := it_f hc108 h
        refine j_iconst 91 C dX5_isPossible_90 ic_1 rfl ?_
        refine j_goto 95 C dX5_isPossible_91 (by decide) ?_
        cases h
        exact x_z C M dX5_isPossible_95 (by decide)
  replace h := it_f hc102 h
  by_cases hc109 : x101 = 99
  · replace h := it_t hc109 h
    refine j_lookup 96 C dX5_isPossible_7 (off := 89) (by decide) (by rw [hc109]; decide) (by decide) ?_
    refine j_aload_n 97 C dX5_isPossible_96 1 rfl rfl ?_
    refine g_N 100 C K ho1 5 (by decide) mw_228 rfl dX5_isPossible_97 rfl ?_
    obtain ⟨hz110, h⟩ := gd_e h
    cases h
    exact x_z C M dX5_isPossible_100 hz110
  replace h := it_f hc109 h
  by_cases hc111 : x101 = 102
  · replace h := it_t hc111 h
    refine j_lookup 96 C dX5_isPossible_7 (off := 89) (by decide) (by rw [hc111]; decide) (by decide) ?_
    refine j_aload_n 97 C dX5_isPossible_96 1 rfl rfl ?_
    refine g_N 100 C K ho1 5 (by decide) mw_228 rfl dX5_isPossible_97 rfl ?_
    obtain ⟨hz112, h⟩ := gd_e h
    cases h
    exact x_z C M dX5_isPossible_100 hz112
  replace h := it_f hc111 h
  by_cases hc113 : x101 = 112
  · replace h := it_t hc113 h
    refine j_lookup 64 C dX5_isPossible_7 (off := 57) (by decide) (by rw [hc113]; decide) (by decide) ?_
    refine j_aload_n 65 C dX5_isPossible_64 1 rfl rfl ?_
    obtain ⟨σ114, r115, hF, h⟩ := bd_e h
    refine k_Vi 68 C K (c_X3_takesPart K.2.2.2 g A lay ho1 hF) cp_X3_takesPart (rv_N ho1) mw_682 dX5_isPossible_65 rfl rfl (Nat.le_of_ble_eq_true rfl) ⟨Nat.le_of_ble_eq_true rfl, Nat.le_of_ble_eq_true rfl⟩ ⟨Nat.le_of_ble_eq_true rfl, Nat.le_of_ble_eq_true rfl⟩ rfl (fun lay => ?_)
    obtain ⟨hz116, h⟩ := gd_e h
    cases h
    exact x_z C M dX5_isPossible_68 hz116
  replace h := it_f hc113 h
  by_cases hc117 : x101 = 114
  · replace h := it_t hc117 h
    refine j_lookup 101 C dX5_isPossible_7 (off := 94) (by decide) (by rw [hc117]; decide) (by decide) ?_
    refine j_aload_n 102 C dX5_isPossible_101 1 rfl rfl ?_
    refine g_N 105 C K ho1 5 (by decide) mw_228 rfl dX5_isPossible_102 rfl ?_
    refine j_if_ne 108 112 C dX5_isPossible_105 (by decide) rfl (fun hc118 => ?_) (fun hc118 => ?_)
    · replace h := it_f hc118 h
      refine j_iconst 113 C dX5_isPossible_112 ic_0 rfl ?_
      cases h
      exact x_z C M dX5_isPossible_113 (by decide)
    · replace h := it_t hc118 h
      refine j_iconst 109 C dX5_isPossible_108 ic_1 rfl ?_
      refine j_goto 113 C dX5_isPossible_109 (by decide) ?_
      cases h
      exact x_z C M dX5_isPossible_113 (by decide)
  replace h := it_f hc117 h
  by_cases hc119 : x101 = 119
  · replace h := it_t hc119 h
    refine j_lookup 101 C dX5_isPossible_7 (off := 94) (by decide) (by rw [hc119]; decide) (by decide) ?_
    refine j_aload_n 102 C dX5_isPossible_101 1 rfl rfl ?_
    refine g_N 105 C K ho1 5 (by decide) mw_228 rfl dX5_isPossible_102 rfl ?_
    refine j_if_ne 108 112 C dX5_isPossible_105 (by decide) rfl (fun hc120 => ?_) (fun hc120 => ?_)
    · replace h := it_f hc120 h
      refine j_iconst 113 C dX5_isPossible_112 ic_0 rfl ?_
      cases h
      exact x_z C M dX5_isPossible_113 (by decide)
    · replace h := it_t hc120 h
      refine j_iconst 109 C dX5_isPossible_108 ic_1 rfl ?_
      refine j_goto 113 C dX5_isPossible_109 (by decide) ?_
      cases h
      exact x_z C M dX5_isPossible_113 (by decide)
  replace h := it_f hc119 h
  refine j_lookup 114 C dX5_isPossible_7 (off := 107) (by decide) (by refine (lv_osw hc102 (by decide)).trans ?_; refine (lv_osw hc109 (by decide)).trans ?_; refine (lv_osw hc111 (by decide)).trans ?_; refine (lv_osw hc113 (by decide)).trans ?_; refine (lv_osw hc117 (by decide)).trans ?_; refine (lv_osw hc119 (by decide)).trans ?_; rfl) (by decide) ?_
  refine j_aload_n 115 C dX5_isPossible_114 1 rfl rfl ?_
  obtain ⟨σ121, r122, hF, h⟩ := bd_e h
  refine k_Vi 118 C K (c_X3_canRejoin K.2.2.2 g A lay ho1 hF) cp_X3_canRejoin (rv_N ho1) mw_842 dX5_isPossible_115 rfl rfl (Nat.le_of_ble_eq_true rfl) ⟨Nat.le_of_ble_eq_true rfl, Nat.le_of_ble_eq_true rfl⟩ ⟨Nat.le_of_ble_eq_true rfl, Nat.le_of_ble_eq_true rfl⟩ rfl (fun lay => ?_)
  obtain ⟨hz123, h⟩ := gd_e h
  cases h
  exact x_z C M dX5_isPossible_118 hz123
theorem cp_X5_carriesOutEvent : CPv yX5_carriesOutEvent cX5_carriesOutEvent 2 (some .boolean) RX5 0 := ⟨mw_880, mw_38, mw_98, mw_881, rfl, by decide, by decide, by decide +kernel⟩
set_option maxHeartbeats 4000000 in
set_option maxRecDepth 100000 in
theorem wn_X5_carriesOutEvent_211 {l : Launch} {p : Program} {e : Env} {s : State} {m : MethodId} {args : Array Value} {below : List Frame} {meth : Method} {c : Code} {g : GG} {A : Nat → Prop} (C : KX p m c cX5_carriesOutEvent 2 s args RX5) (K : KC l g A s) (M : KM meth (some .boolean)) {σ' : CS} {r : Int32}      (lay : Nat → Nat) (σ : CS)   (h : B_X5_carriesOutEvent_211  σ  = some (σ', r)) : JJ p l e (rmk 7 183 24 12288) s m args below meth c (MQ below (va_Qi (fun (r0 : Int32) (u : CS) => r0 = r ∧ u = σ') (BC (CH g A)) A) args s 24 12288 A) A 2 (CH g A lay σ) 24 12288 211 [] [] := by
  unfold B_X5_carriesOutEvent_211 at h
  refine j_iconst 212 C dX5_carriesOutEvent_211 ic_1 rfl ?_
  cases h
  exact x_z C M dX5_carriesOutEvent_212 (by decide)
set_option maxHeartbeats 4000000 in
set_option maxRecDepth 100000 in
theorem wn_X5_carriesOutEvent_33 {l : Launch} {p : Program} {e : Env} {s : State} {m : MethodId} {args : Array Value} {below : List Frame} {meth : Method} {c : Code} {g : GG} {A : Nat → Prop} (C : KX p m c cX5_carriesOutEvent 2 s args RX5) (K : KC l g A s) (M : KM meth (some .boolean)) {σ' : CS} {r : Int32}      (lay : Nat → Nat) (σ : CS)   (h : B_X5_carriesOutEvent_33  σ  = some (σ', r)) : JJ p l e (rmk 7 183 24 12288) s m args below meth c (MQ below (va_Qi (fun (r0 : Int32) (u : CS) => r0 = r ∧ u = σ') (BC (CH g A)) A) args s 24 12288 A) A 2 (CH g A lay σ) 0 0 33 [] [] := by
  unfold B_X5_carriesOutEvent_33 at h
  refine j_iconst 34 C dX5_carriesOutEvent_33 ic_0 rfl ?_
  cases h
  refine j_widen (k' := 24) (n' := 12288) (by omega) (by omega) ?_
  exact x_z C M dX5_carriesOutEvent_34 (by decide)
set_option maxHeartbeats 4000000 in
set_option maxRecDepth 100000 in
theorem c_X5_carriesOutEvent {l : Launch} (hst : l.stackTraces = false) (g : GG) (A : Nat → Prop) (lay : Nat → Nat) {σ : CS} {σ' : CS} {r : Int32}   (h : F_X5_carriesOutEvent σ  = some (σ', r)) : MI l yX5_carriesOutEvent cX5_carriesOutEvent 2 .boolean 7 183 24 12288 [.ref (ga g 0)] (CH g A) g A lay σ σ' r := by
  unfold F_X5_carriesOutEvent at h
  refine e_i (own := RX5) (lo := [(0, .ref (ga g 0))]) hst (plainFor_of_name (by decide)) rfl rfl (Nat.le_of_ble_eq_true rfl) ?_
  intro p e s m args below meth c C K M
  refine j_aload_n 1 C dX5_carriesOutEvent_0 0 rfl rfl ?_
  refine j_aload_n 2 C dX5_carriesOutEvent_1 0 rfl rfl ?_
  refine g_F 5 C K 3 (by decide) mw_283 rfl dX5_carriesOutEvent_2 rfl ?_
  refine g_R 8 C K 1 (by decide) mw_162 rfl dX5_carriesOutEvent_5 rfl ?_
  obtain ⟨σ101, r102, hF, h⟩ := bd_e h
  refine k_Vi 11 C K (c_X5_isNode K.2.2.2 g A lay  hF) cp_X5_isNode (rv_F) mw_512 dX5_carriesOutEvent_8 rfl rfl (Nat.le_of_ble_eq_true rfl) ⟨Nat.le_of_ble_eq_true rfl, Nat.le_of_ble_eq_true rfl⟩ ⟨by simp only [rmk]; omega, by simp only [rmk]; omega⟩ rfl (fun lay => ?_)
  refine j_if_eq 14 33 C dX5_carriesOutEvent_11 (by decide) rfl (fun hc103 => ?_) (fun hc103 => ?_)
  · replace h := it_t hc103 h
    refine j_sub [] (lo' := []) rfl ?_
    exact wn_X5_carriesOutEvent_33 C K M  lay σ101  h
  · replace h := it_f hc103 h
    refine j_aload_n 15 C dX5_carriesOutEvent_14 0 rfl rfl ?_
    refine j_aload_n 16 C dX5_carriesOutEvent_15 0 rfl rfl ?_
    refine g_F 19 C K 0 (by decide) mw_280 rfl dX5_carriesOutEvent_16 rfl ?_
    refine j_aload_n 20 C dX5_carriesOutEvent_19 0 rfl rfl ?_
    refine g_F 23 C K 3 (by decide) mw_283 rfl dX5_carriesOutEvent_20 rfl ?_
    refine g_R 26 C K 1 (by decide) mw_162 rfl dX5_carriesOutEvent_23 rfl ?_
    obtain ⟨hz104, h⟩ := gd_e h
    have hb105 : tn (σ101 71 0 0) < 7 := inb_lt hz104
    refine r_nodes 27 C K hz104 dX5_carriesOutEvent_26 rfl ?_
    obtain ⟨σ106, r107, hF, h⟩ := bd_e h
    refine k_Vi 30 C K (c_X5_isPossible K.2.2.2 g A lay hb105 hF) cp_X5_isPossible (rv_F) mw_882 dX5_carriesOutEvent_27 rfl rfl (Nat.le_of_ble_eq_true rfl) ⟨Nat.le_of_ble_eq_true rfl, Nat.le_of_ble_eq_true rfl⟩ ⟨by simp only [rmk]; omega, by simp only [rmk]; omega⟩ rfl (fun lay => ?_)
    refine j_if_ne 33 35 C dX5_carriesOutEvent_30 (by decide) rfl (fun hc108 => ?_) (fun hc108 => ?_)
    · replace h := it_f hc108 h
      refine j_aload_n 36 C dX5_carriesOutEvent_35 0 rfl rfl ?_
      refine g_F 39 C K 0 (by decide) mw_280 rfl dX5_carriesOutEvent_36 rfl ?_
      refine j_aload_n 40 C dX5_carriesOutEvent_39 0 rfl rfl ?_
      refine g_F 43 C K 3 (by decide) mw_283 rfl dX5_carriesOutEvent_40 rfl ?_
      refine g_R 46 C K 1 (by decide) mw_162 rfl dX5_carriesOutEvent_43 rfl ?_
      obtain ⟨hz109, h⟩ := gd_e h
      have hb110 : tn (σ106 71 0 0) < 7 := inb_lt hz109
      refine r_nodes 47 C K hz109 dX5_carriesOutEvent_46 rfl ?_
      refine j_astore_n 48 C dX5_carriesOutEvent_47 (lo' := [(1, .ref (ga g (5 + (tn (σ106 71 0 0))))), (0, .ref (ga g 0))]) (by decide) rfl rfl ?_
      refine j_aload_n 49 C dX5_carriesOutEvent_48 1 rfl rfl ?_
      refine g_F 52 C K 3 (by decide) mw_283 rfl dX5_carriesOutEvent_49 rfl ?_
      refine g_R 55 C K 0 (by decide) mw_160 rfl dX5_carriesOutEvent_52 rfl ?_
      refine j_topi (fun x111 ex111 => ?_)
      replace h := lt_e h x111 ex111
      by_cases hc112 : x111 = 97
      · replace h := it_t hc112 h
        refine j_lookup 128 C dX5_carriesOutEvent_55 (off := 73) (by decide) (by rw [hc112]; decide) (by decide) ?_
        refine j_aload_n 129 C dX5_carriesOutEvent_128 1 rfl rfl ?_
        refine j_aload_n 130 C dX5_carriesOutEvent_129 0 rfl rfl ?_
        refine j_aload_n 131 C dX5_carriesOutEvent_130 1 rfl rfl ?_
        refine g_F 134 C K 3 (by decide) mw_283 rfl dX5_carriesOutEvent_131 rfl ?_
        refine g_R 137 C K 2 (by decide) mw_164 rfl dX5_carriesOutEvent_134 rfl ?_
        refine j_aload_n 138 C dX5_carriesOutEvent_137 1 rfl rfl ?_
        refine g_F 141 C K 3 (by decide) mw_283 rfl dX5_carriesOutEvent_138 rfl ?_
        refine g_R 144 C K 3 (by decide) mw_166 rfl dX5_carriesOutEvent_141 rfl ?_
        refine j_aload_n 145 C dX5_carriesOutEvent_144 1 rfl rfl ?_
        refine g_F 148 C K 3 (by decide) mw_283 rfl dX5_carriesOutEvent_145 rfl ?_
        refine g_R 151 C K 4 (by decide) mw_168 rfl dX5_carriesOutEvent_148 rfl ?_
        obtain ⟨σ113, r114, hF, h⟩ := bd_e h
        refine k_Vi 154 C K (c_X5_sendAccept K.2.2.2 g A lay hb110 hF) cp_X5_sendAccept (rv_F) mw_757 dX5_carriesOutEvent_151 rfl rfl (Nat.le_of_ble_eq_true rfl) ⟨Nat.le_of_ble_eq_true rfl, Nat.le_of_ble_eq_true rfl⟩ ⟨by simp only [rmk]; omega, by simp only [rmk]; omega⟩ rfl (fun lay => ?_)
        refine j_pop 155 C dX5_carriesOutEvent_154 rfl rfl ?_
        refine j_goto 211 C dX5_carriesOutEvent_155 (by decide) ?_
        refine j_sub [] (lo' := []) rfl ?_
        exact wn_X5_carriesOutEvent_211 C K M  lay σ113  h
      replace h := it_f hc112 h
      by_cases hc115 : x111 = 99
      · replace h := it_t hc115 h
        refine j_lookup 166 C dX5_carriesOutEvent_55 (off := 111) (by decide) (by rw [hc115]; decide) (by decide) ?_
        refine j_aload_n 167 C dX5_carriesOutEvent_166 1 rfl rfl ?_
        refine j_aload_n 168 C dX5_carriesOutEvent_167 0 rfl rfl ?_
        refine j_aload_n 169 C dX5_carriesOutEvent_168 1 rfl rfl ?_
        refine g_F 172 C K 3 (by decide) mw_283 rfl dX5_carriesOutEvent_169 rfl ?_
        refine g_R 175 C K 5 (by decide) mw_170 rfl dX5_carriesOutEvent_172 rfl ?_
        obtain ⟨σ116, r117, hF, h⟩ := bd_e h
        refine k_Vi 178 C K (c_X5_bringDown K.2.2.2 g A lay hb110 hF) cp_X5_bringDown (rv_F) mw_789 dX5_carriesOutEvent_175 rfl rfl (Nat.le_of_ble_eq_true rfl) ⟨Nat.le_of_ble_eq_true rfl, Nat.le_of_ble_eq_true rfl⟩ ⟨by simp only [rmk]; omega, by simp only [rmk]; omega⟩ rfl (fun lay => ?_)
        refine j_pop 179 C dX5_carriesOutEvent_178 rfl rfl ?_
        refine j_goto 211 C dX5_carriesOutEvent_179 (by decide) ?_
        refine j_sub [] (lo' := []) rfl ?_
        refine j_widen (k' := 24) (n' := 12288) (by omega) (by omega) ?_
        exact wn_X5_carriesOutEvent_211 C K M  lay σ116  h
      replace h := it_f hc115 h
      by_cases hc118 : x111 = 102
      · replace h := it_t hc118 h
        refine j_lookup 158 C dX5_carriesOutEvent_55 (off := 103) (by decide) (by rw [hc118]; decide) (by decide) ?_
        refine j_aload_n 159 C dX5_carriesOutEvent_158 0 rfl rfl ?_
        obtain ⟨σ119, r120, hF, h⟩ := bd_e h
        refine k_Vi 162 C K (c_X3_carryOutAll K.2.2.2 g A lay hb110 hF) cp_X3_carryOutAll (rv_N hb110) mw_731 dX5_carriesOutEvent_159 rfl rfl (Nat.le_of_ble_eq_true rfl) ⟨Nat.le_of_ble_eq_true rfl, Nat.le_of_ble_eq_true rfl⟩ ⟨by simp only [rmk]; omega, by simp only [rmk]; omega⟩ rfl (fun lay => ?_)
        refine j_pop 163 C dX5_carriesOutEvent_162 rfl rfl ?_
        refine j_goto 211 C dX5_carriesOutEvent_163 (by decide) ?_
        refine j_sub [] (lo' := []) rfl ?_
        refine j_widen (k' := 24) (n' := 12288) (by omega) (by omega) ?_
        exact wn_X5_carriesOutEvent_211 C K M  lay σ119  h
      replace h := it_f hc118 h
      by_cases hc121 : x111 = 112
      · replace h := it_t hc121 h
        refine j_lookup 112 C dX5_carriesOutEvent_55 (off := 57) (by decide) (by rw [hc121]; decide) (by decide) ?_
        refine j_aload_n 113 C dX5_carriesOutEvent_112 1 rfl rfl ?_
        refine j_aload_n 114 C dX5_carriesOutEvent_113 0 rfl rfl ?_
        refine j_aload_n 115 C dX5_carriesOutEvent_114 1 rfl rfl ?_
        refine g_F 118 C K 3 (by decide) mw_283 rfl dX5_carriesOutEvent_115 rfl ?_
        refine g_R 121 C K 4 (by decide) mw_168 rfl dX5_carriesOutEvent_118 rfl ?_
        obtain ⟨σ122, r123, hF, h⟩ := bd_e h
        refine k_Vi 124 C K (c_X5_sendPrepare K.2.2.2 g A lay hb110 hF) cp_X5_sendPrepare (rv_F) mw_687 dX5_carriesOutEvent_121 rfl rfl (Nat.le_of_ble_eq_true rfl) ⟨Nat.le_of_ble_eq_true rfl, Nat.le_of_ble_eq_true rfl⟩ ⟨by simp only [rmk]; omega, by simp only [rmk]; omega⟩ rfl (fun lay => ?_)
        refine j_pop 125 C dX5_carriesOutEvent_124 rfl rfl ?_
        refine j_goto 211 C dX5_carriesOutEvent_125 (by decide) ?_
        refine j_sub [] (lo' := []) rfl ?_
        exact wn_X5_carriesOutEvent_211 C K M  lay σ122  h
      replace h := it_f hc121 h
      by_cases hc124 : x111 = 114
      · replace h := it_t hc124 h
        refine j_lookup 190 C dX5_carriesOutEvent_55 (off := 135) (by decide) (by rw [hc124]; decide) (by decide) ?_
        refine j_aload_n 191 C dX5_carriesOutEvent_190 0 rfl rfl ?_
        obtain ⟨σ125, r126, hF, h⟩ := bd_e h
        refine k_Vi 194 C K (c_X3_bringUp K.2.2.2 g A lay hb110 hF) cp_X3_bringUp (rv_N hb110) mw_831 dX5_carriesOutEvent_191 rfl rfl (Nat.le_of_ble_eq_true rfl) ⟨Nat.le_of_ble_eq_true rfl, Nat.le_of_ble_eq_true rfl⟩ ⟨by simp only [rmk]; omega, by simp only [rmk]; omega⟩ rfl (fun lay => ?_)
        refine j_pop 195 C dX5_carriesOutEvent_194 rfl rfl ?_
        refine j_goto 211 C dX5_carriesOutEvent_195 (by decide) ?_
        refine j_sub [] (lo' := []) rfl ?_
        refine j_widen (k' := 24) (n' := 12288) (by omega) (by omega) ?_
        exact wn_X5_carriesOutEvent_211 C K M  lay σ125  h
      replace h := it_f hc124 h
      by_cases hc127 : x111 = 119
      · replace h := it_t hc127 h
        refine j_lookup 182 C dX5_carriesOutEvent_55 (off := 127) (by decide) (by rw [hc127]; decide) (by decide) ?_
        refine j_aload_n 183 C dX5_carriesOutEvent_182 0 rfl rfl ?_
        obtain ⟨σ128, r129, hF, h⟩ := bd_e h
        refine k_Vi 186 C K (c_X3_loseDisk K.2.2.2 g A lay hb110 hF) cp_X3_loseDisk (rv_N hb110) mw_815 dX5_carriesOutEvent_183 rfl rfl (Nat.le_of_ble_eq_true rfl) ⟨Nat.le_of_ble_eq_true rfl, Nat.le_of_ble_eq_true rfl⟩ ⟨by simp only [rmk]; omega, by simp only [rmk]; omega⟩ rfl (fun lay => ?_)
        refine j_pop 187 C dX5_carriesOutEvent_186 rfl rfl ?_
        refine j_goto 211 C dX5_carriesOutEvent_187 (by decide) ?_
        refine j_sub [] (lo' := []) rfl ?_
        refine j_widen (k' := 24) (n' := 12288) (by omega) (by omega) ?_
        exact wn_X5_carriesOutEvent_211 C K M  lay σ128  h
      replace h := it_f hc127 h
      refine j_lookup 198 C dX5_carriesOutEvent_55 (off := 143) (by decide) (by refine (lv_osw hc112 (by decide)).trans ?_; refine (lv_osw hc115 (by decide)).trans ?_; refine (lv_osw hc118 (by decide)).trans ?_; refine (lv_osw hc121 (by decide)).trans ?_; refine (lv_osw hc124 (by decide)).trans ?_; refine (lv_osw hc127 (by decide)).trans ?_; rfl) (by decide) ?_
      refine j_aload_n 199 C dX5_carriesOutEvent_198 1 rfl rfl ?_
      refine j_aload_n 200 C dX5_carriesOutEvent_199 0 rfl rfl ?_
      refine j_aload_n 201 C dX5_carriesOutEvent_200 1 rfl rfl ?_
      refine g_F 204 C K 3 (by decide) mw_283 rfl dX5_carriesOutEvent_201 rfl ?_
      refine g_R 207 C K 4 (by decide) mw_168 rfl dX5_carriesOutEvent_204 rfl ?_
      obtain ⟨σ130, r131, hF, h⟩ := bd_e h
      refine k_Vi 210 C K (c_X5_readFromOthers K.2.2.2 g A lay hb110 hF) cp_X5_readFromOthers (rv_F) mw_847 dX5_carriesOutEvent_207 rfl rfl (Nat.le_of_ble_eq_true rfl) ⟨Nat.le_of_ble_eq_true rfl, Nat.le_of_ble_eq_true rfl⟩ ⟨by simp only [rmk]; omega, by simp only [rmk]; omega⟩ rfl (fun lay => ?_)
      refine j_pop 211 C dX5_carriesOutEvent_210 rfl rfl ?_
      refine j_sub [] (lo' := []) rfl ?_
      refine j_widen (k' := 24) (n' := 12288) (by omega) (by omega) ?_
      exact wn_X5_carriesOutEvent_211 C K M  lay σ130  h
    · replace h := it_t hc108 h
      refine j_sub [] (lo' := []) rfl ?_
      exact wn_X5_carriesOutEvent_33 C K M  lay σ106  h
