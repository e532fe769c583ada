/-! ===== the law's wrappers ===== -/
def hh_L_begin : List (Nat × Nat × Nat × Nat) := [(0, 10, 13, 13)]
theorem hw_L_begin : Cond.codeWith yL_begin cL_begin 5 (some .int) hh_L_begin ∈ AW := mw_644
set_option maxRecDepth 100000 in
theorem w_L_begin {l : Launch} (hst : l.stackTraces = false) (g : GG) (A : Nat → Prop) (lay : Nat → Nat) (qo : Nat) {σ σ' : CS} {v : Int64} {r : Int32} {x1 : Int32} {x2 : Int32} (h : F_X5_begin σ x1 x2 = some (σ', .inl r)) : MIw l yL_begin cL_begin 5 hh_L_begin 7 113 (0) (0) [.ref (ga g 0), .int x1, .int x2, .ref qo] (Lx g (oW g qo) A) g A lay (σ, v) (σ', r.toInt64) 0 := by
  refine e_iw (own := RL) (lo := [(0, .ref (ga g 0)), (1, .int x1), (2, .int x2), (3, .ref qo)]) hst (plainFor_of_name (by decide)) rfl rfl (Nat.le_of_ble_eq_true rfl) ?_
  intro p e s m args below meth c C K M T
  change JJ _ _ _ _ _ _ _ _ _ _ _ _ _ (LW g A lay ([outc g qo v] ++ cW g lay σ)) _ _ _ _ _
  refine j_aload_n 1 C dL_begin_0 3 rfl rfl ?_
  refine j_iconst 2 C dL_begin_1 ic_0 rfl ?_
  refine j_aload_n 3 C dL_begin_2 0 rfl rfl ?_
  refine j_iload_n 4 C dL_begin_3 1 rfl rfl ?_
  refine j_iload_n 5 C dL_begin_4 2 rfl rfl ?_
  refine lk_Vi (wx := cW g) (w0 := [outc g qo v]) (As := [.int x1, .int x2]) 8 C K (fun A1 => c_X5_begin K.2.2.2 g A1 lay h) cp_X5_begin (fun A1 => rv_F) mw_646 dL_begin_5 rfl rfl (Nat.le_of_ble_eq_true rfl) ⟨Nat.le_of_ble_eq_true rfl, Nat.le_of_ble_eq_true rfl⟩ ⟨Nat.le_of_ble_eq_true rfl, Nat.le_of_ble_eq_true rfl⟩ rfl (fun lay => ?_)
  refine j_i2l 9 C dL_begin_8 rfl ?_
  refine lk_last 10 C K dL_begin_9 rfl ?_
  refine j_goto 17 C dL_begin_10 (by decide) ?_
  refine j_iconst 18 C dL_begin_17 ic_0 rfl ?_
  refine j_widen (k' := 0) (n' := 0) (by omega) (by omega) ?_
  exact x_i (Wf := Lx g (oW g qo) A) (σ := (σ', r.toInt64)) (lay := lay) C M dL_begin_18
set_option maxRecDepth 100000 in
theorem w_L_begin_2 {l : Launch} (hst : l.stackTraces = false) (g : GG) (A : Nat → Prop) (lay : Nat → Nat) (qo : Nat) {σ σ' : CS} {v : Int64} {x1 : Int32} {x2 : Int32} (h : F_X5_begin σ x1 x2 = some (σ', .inr 2)) : MIw l yL_begin cL_begin 5 hh_L_begin 7 113 1 6 [.ref (ga g 0), .int x1, .int x2, .ref qo] (Lx g (oW g qo) A) g A lay (σ, v) (σ', v) 1 := by
  refine e_iw (own := RL) (lo := [(0, .ref (ga g 0)), (1, .int x1), (2, .int x2), (3, .ref qo)]) hst (plainFor_of_name (by decide)) rfl rfl (Nat.le_of_ble_eq_true rfl) ?_
  intro p e s m args below meth c C K M T
  change JJ _ _ _ _ _ _ _ _ _ _ _ _ _ (LW g A lay ([outc g qo v] ++ cW g lay σ)) _ _ _ _ _
  refine j_aload_n 1 C dL_begin_0 3 rfl rfl ?_
  refine j_iconst 2 C dL_begin_1 ic_0 rfl ?_
  refine j_aload_n 3 C dL_begin_2 0 rfl rfl ?_
  refine j_iload_n 4 C dL_begin_3 1 rfl rfl ?_
  refine j_iload_n 5 C dL_begin_4 2 rfl rfl ?_
  refine lk_Xi (wx := cW g) (w0 := [outc g qo v]) (As := [.int x1, .int x2]) C K (fun A1 => x_X5_begin K.2.2.2 g A1 lay h) cp_X5_begin (fun A1 => rv_F) mw_646 dL_begin_5 rfl rfl (Nat.le_of_ble_eq_true rfl) ⟨Nat.le_of_ble_eq_true rfl, Nat.le_of_ble_eq_true rfl⟩ ⟨Nat.le_of_ble_eq_true rfl, Nat.le_of_ble_eq_true rfl⟩ T [] ⟨0, 10, 13, 13⟩ [] rfl (fun z hz => (List.not_mem_nil hz).elim) (by decide) (by decide) mw_645 (xc_2 K.2.2.1) (fun lay q9 => ?_)
  refine j_astore 15 C dL_begin_13 (lo' := [(4, .ref q9), (0, .ref (ga g 0)), (1, .int x1), (2, .int x2), (3, .ref qo)]) (by decide) rfl rfl ?_
  refine j_iconst 16 C dL_begin_15 ic_1 rfl ?_
  exact x_i (Wf := Lx g (oW g qo) A) (σ := (σ', v)) (lay := lay) C M dL_begin_16
def hh_L_prepare : List (Nat × Nat × Nat × Nat) := [(0, 10, 13, 18), (0, 10, 17, 13), (0, 10, 21, 20)]
theorem hw_L_prepare : Cond.codeWith yL_prepare cL_prepare 5 (some .int) hh_L_prepare ∈ AW := mw_670
set_option maxRecDepth 100000 in
theorem w_L_prepare {l : Launch} (hst : l.stackTraces = false) (g : GG) (A : Nat → Prop) (lay : Nat → Nat) (qo : Nat) {σ σ' : CS} {v : Int64} {r : Int32} {x1 : Int32} {x2 : Int32} (h : F_X5_prepare σ x1 x2 = some (σ', .inl r)) : MIw l yL_prepare cL_prepare 5 hh_L_prepare 8 201 (24) (12288) [.ref (ga g 0), .int x1, .int x2, .ref qo] (Lx g (oW g qo) A) g A lay (σ, v) (σ', r.toInt64) 0 := by
  refine e_iw (own := RL) (lo := [(0, .ref (ga g 0)), (1, .int x1), (2, .int x2), (3, .ref qo)]) hst (plainFor_of_name (by decide)) rfl rfl (Nat.le_of_ble_eq_true rfl) ?_
  intro p e s m args below meth c C K M T
  change JJ _ _ _ _ _ _ _ _ _ _ _ _ _ (LW g A lay ([outc g qo v] ++ cW g lay σ)) _ _ _ _ _
  refine j_aload_n 1 C dL_prepare_0 3 rfl rfl ?_
  refine j_iconst 2 C dL_prepare_1 ic_0 rfl ?_
  refine j_aload_n 3 C dL_prepare_2 0 rfl rfl ?_
  refine j_iload_n 4 C dL_prepare_3 1 rfl rfl ?_
  refine j_iload_n 5 C dL_prepare_4 2 rfl rfl ?_
  refine lk_Vi (wx := cW g) (w0 := [outc g qo v]) (As := [.int x1, .int x2]) 8 C K (fun A1 => c_X5_prepare K.2.2.2 g A1 lay h) cp_X5_prepare (fun A1 => rv_F) mw_673 dL_prepare_5 rfl rfl (Nat.le_of_ble_eq_true rfl) ⟨Nat.le_of_ble_eq_true rfl, Nat.le_of_ble_eq_true rfl⟩ ⟨Nat.le_of_ble_eq_true rfl, Nat.le_of_ble_eq_true rfl⟩ rfl (fun lay => ?_)
  refine j_i2l 9 C dL_prepare_8 rfl ?_
  refine lk_last 10 C K dL_prepare_9 rfl ?_
  refine j_goto 25 C dL_prepare_10 (by decide) ?_
  refine j_iconst 26 C dL_prepare_25 ic_0 rfl ?_
  refine j_widen (k' := 24) (n' := 12288) (by omega) (by omega) ?_
  exact x_i (Wf := Lx g (oW g qo) A) (σ := (σ', r.toInt64)) (lay := lay) C M dL_prepare_26
set_option maxRecDepth 100000 in
theorem w_L_prepare_1 {l : Launch} (hst : l.stackTraces = false) (g : GG) (A : Nat → Prop) (lay : Nat → Nat) (qo : Nat) {σ σ' : CS} {v : Int64} {x1 : Int32} {x2 : Int32} (h : F_X5_prepare σ x1 x2 = some (σ', .inr 1)) : MIw l yL_prepare cL_prepare 5 hh_L_prepare 8 201 1 6 [.ref (ga g 0), .int x1, .int x2, .ref qo] (Lx g (oW g qo) A) g A lay (σ, v) (σ', v) 1 := by
  refine e_iw (own := RL) (lo := [(0, .ref (ga g 0)), (1, .int x1), (2, .int x2), (3, .ref qo)]) hst (plainFor_of_name (by decide)) rfl rfl (Nat.le_of_ble_eq_true rfl) ?_
  intro p e s m args below meth c C K M T
  change JJ _ _ _ _ _ _ _ _ _ _ _ _ _ (LW g A lay ([outc g qo v] ++ cW g lay σ)) _ _ _ _ _
  refine j_aload_n 1 C dL_prepare_0 3 rfl rfl ?_
  refine j_iconst 2 C dL_prepare_1 ic_0 rfl ?_
  refine j_aload_n 3 C dL_prepare_2 0 rfl rfl ?_
  refine j_iload_n 4 C dL_prepare_3 1 rfl rfl ?_
  refine j_iload_n 5 C dL_prepare_4 2 rfl rfl ?_
  refine lk_Xi (wx := cW g) (w0 := [outc g qo v]) (As := [.int x1, .int x2]) C K (fun A1 => x_X5_prepare K.2.2.2 g A1 lay h) cp_X5_prepare (fun A1 => rv_F) mw_673 dL_prepare_5 rfl rfl (Nat.le_of_ble_eq_true rfl) ⟨Nat.le_of_ble_eq_true rfl, Nat.le_of_ble_eq_true rfl⟩ ⟨Nat.le_of_ble_eq_true rfl, Nat.le_of_ble_eq_true rfl⟩ T [] ⟨0, 10, 13, 18⟩ [⟨0, 10, 17, 13⟩, ⟨0, 10, 21, 20⟩] rfl (fun z hz => (List.not_mem_nil hz).elim) (by decide) (by decide) mw_671 (xc_1 K.2.2.1) (fun lay q9 => ?_)
  refine j_astore 15 C dL_prepare_13 (lo' := [(4, .ref q9), (0, .ref (ga g 0)), (1, .int x1), (2, .int x2), (3, .ref qo)]) (by decide) rfl rfl ?_
  refine j_iconst 16 C dL_prepare_15 ic_1 rfl ?_
  exact x_i (Wf := Lx g (oW g qo) A) (σ := (σ', v)) (lay := lay) C M dL_prepare_16
set_option maxRecDepth 100000 in
theorem w_L_prepare_2 {l : Launch} (hst : l.stackTraces = false) (g : GG) (A : Nat → Prop) (lay : Nat → Nat) (qo : Nat) {σ σ' : CS} {v : Int64} {x1 : Int32} {x2 : Int32} (h : F_X5_prepare σ x1 x2 = some (σ', .inr 2)) : MIw l yL_prepare cL_prepare 5 hh_L_prepare 8 201 1 6 [.ref (ga g 0), .int x1, .int x2, .ref qo] (Lx g (oW g qo) A) g A lay (σ, v) (σ', v) 2 := by
  refine e_iw (own := RL) (lo := [(0, .ref (ga g 0)), (1, .int x1), (2, .int x2), (3, .ref qo)]) hst (plainFor_of_name (by decide)) rfl rfl (Nat.le_of_ble_eq_true rfl) ?_
  intro p e s m args below meth c C K M T
  change JJ _ _ _ _ _ _ _ _ _ _ _ _ _ (LW g A lay ([outc g qo v] ++ cW g lay σ)) _ _ _ _ _
  refine j_aload_n 1 C dL_prepare_0 3 rfl rfl ?_
  refine j_iconst 2 C dL_prepare_1 ic_0 rfl ?_
  refine j_aload_n 3 C dL_prepare_2 0 rfl rfl ?_
  refine j_iload_n 4 C dL_prepare_3 1 rfl rfl ?_
  refine j_iload_n 5 C dL_prepare_4 2 rfl rfl ?_
  refine lk_Xi (wx := cW g) (w0 := [outc g qo v]) (As := [.int x1, .int x2]) C K (fun A1 => x_X5_prepare K.2.2.2 g A1 lay h) cp_X5_prepare (fun A1 => rv_F) mw_673 dL_prepare_5 rfl rfl (Nat.le_of_ble_eq_true rfl) ⟨Nat.le_of_ble_eq_true rfl, Nat.le_of_ble_eq_true rfl⟩ ⟨Nat.le_of_ble_eq_true rfl, Nat.le_of_ble_eq_true rfl⟩ T [⟨0, 10, 13, 18⟩] ⟨0, 10, 17, 13⟩ [⟨0, 10, 21, 20⟩] rfl (fun z hz => by
    simp only [List.mem_cons, List.not_mem_nil, or_false] at hz
    rcases hz with rfl
    · exact Or.inr ⟨by decide, "java/lang/IndexOutOfBoundsException", C.w mw_671, K.2.2.1.2.2.2.2.2.2.2.1⟩) (by decide) (by decide) mw_645 (xc_2 K.2.2.1) (fun lay q9 => ?_)
  refine j_astore 19 C dL_prepare_17 (lo' := [(4, .ref q9), (0, .ref (ga g 0)), (1, .int x1), (2, .int x2), (3, .ref qo)]) (by decide) rfl rfl ?_
  refine j_iconst 20 C dL_prepare_19 ic_2 rfl ?_
  exact x_i (Wf := Lx g (oW g qo) A) (σ := (σ', v)) (lay := lay) C M dL_prepare_20
set_option maxRecDepth 100000 in
theorem w_L_prepare_3 {l : Launch} (hst : l.stackTraces = false) (g : GG) (A : Nat → Prop) (lay : Nat → Nat) (qo : Nat) {σ σ' : CS} {v : Int64} {x1 : Int32} {x2 : Int32} (h : F_X5_prepare σ x1 x2 = some (σ', .inr 3)) : MIw l yL_prepare cL_prepare 5 hh_L_prepare 8 201 1 6 [.ref (ga g 0), .int x1, .int x2, .ref qo] (Lx g (oW g qo) A) g A lay (σ, v) (σ', v) 3 := by
  refine e_iw (own := RL) (lo := [(0, .ref (ga g 0)), (1, .int x1), (2, .int x2), (3, .ref qo)]) hst (plainFor_of_name (by decide)) rfl rfl (Nat.le_of_ble_eq_true rfl) ?_
  intro p e s m args below meth c C K M T
  change JJ _ _ _ _ _ _ _ _ _ _ _ _ _ (LW g A lay ([outc g qo v] ++ cW g lay σ)) _ _ _ _ _
  refine j_aload_n 1 C dL_prepare_0 3 rfl rfl ?_
  refine j_iconst 2 C dL_prepare_1 ic_0 rfl ?_
  refine j_aload_n 3 C dL_prepare_2 0 rfl rfl ?_
  refine j_iload_n 4 C dL_prepare_3 1 rfl rfl ?_
  refine j_iload_n 5 C dL_prepare_4 2 rfl rfl ?_
  refine lk_Xi (wx := cW g) (w0 := [outc g qo v]) (As := [.int x1, .int x2]) C K (fun A1 => x_X5_prepare K.2.2.2 g A1 lay h) cp_X5_prepare (fun A1 => rv_F) mw_673 dL_prepare_5 rfl rfl (Nat.le_of_ble_eq_true rfl) ⟨Nat.le_of_ble_eq_true rfl, Nat.le_of_ble_eq_true rfl⟩ ⟨Nat.le_of_ble_eq_true rfl, Nat.le_of_ble_eq_true rfl⟩ T [⟨0, 10, 13, 18⟩, ⟨0, 10, 17, 13⟩] ⟨0, 10, 21, 20⟩ [] rfl (fun z hz => by
    simp only [List.mem_cons, List.not_mem_nil, or_false] at hz
    rcases hz with rfl | rfl
    · exact Or.inr ⟨by decide, "java/lang/IndexOutOfBoundsException", C.w mw_671, K.2.2.1.2.2.2.2.2.2.2.2.1⟩
    · exact Or.inr ⟨by decide, "java/lang/IllegalArgumentException", C.w mw_645, K.2.2.1.2.2.2.2.2.2.2.2.2⟩) (by decide) (by decide) mw_672 (xc_3 K.2.2.1) (fun lay q9 => ?_)
  refine j_astore 23 C dL_prepare_21 (lo' := [(4, .ref q9), (0, .ref (ga g 0)), (1, .int x1), (2, .int x2), (3, .ref qo)]) (by decide) rfl rfl ?_
  refine j_iconst 24 C dL_prepare_23 ic_3 rfl ?_
  exact x_i (Wf := Lx g (oW g qo) A) (σ := (σ', v)) (lay := lay) C M dL_prepare_24
def hh_L_accept : List (Nat × Nat × Nat × Nat) := [(0, 14, 17, 18), (0, 14, 21, 13), (0, 14, 25, 20)]
theorem hw_L_accept : Cond.codeWith yL_accept cL_accept 7 (some .int) hh_L_accept ∈ AW := mw_751
set_option maxRecDepth 100000 in
theorem w_L_accept {l : Launch} (hst : l.stackTraces = false) (g : GG) (A : Nat → Prop) (lay : Nat → Nat) (qo : Nat) {σ σ' : CS} {v : Int64} {r : Int32} {x1 : Int32} {x2 : Int32} {x3 : Int32} {x4 : Int32} (h : F_X5_accept σ x1 x2 x3 x4 = some (σ', .inl r)) : MIw l yL_accept cL_accept 7 hh_L_accept 8 207 (24) (12288) [.ref (ga g 0), .int x1, .int x2, .int x3, .int x4, .ref qo] (Lx g (oW g qo) A) g A lay (σ, v) (σ', r.toInt64) 0 := by
  refine e_iw (own := RL) (lo := [(0, .ref (ga g 0)), (1, .int x1), (2, .int x2), (3, .int x3), (4, .int x4), (5, .ref qo)]) hst (plainFor_of_name (by decide)) rfl rfl (Nat.le_of_ble_eq_true rfl) ?_
  intro p e s m args below meth c C K M T
  change JJ _ _ _ _ _ _ _ _ _ _ _ _ _ (LW g A lay ([outc g qo v] ++ cW g lay σ)) _ _ _ _ _
  refine j_aload 2 C dL_accept_0 5 rfl rfl ?_
  refine j_iconst 3 C dL_accept_2 ic_0 rfl ?_
  refine j_aload_n 4 C dL_accept_3 0 rfl rfl ?_
  refine j_iload_n 5 C dL_accept_4 1 rfl rfl ?_
  refine j_iload_n 6 C dL_accept_5 2 rfl rfl ?_
  refine j_iload_n 7 C dL_accept_6 3 rfl rfl ?_
  refine j_iload 9 C dL_accept_7 4 rfl rfl ?_
  refine lk_Vi (wx := cW g) (w0 := [outc g qo v]) (As := [.int x1, .int x2, .int x3, .int x4]) 12 C K (fun A1 => c_X5_accept K.2.2.2 g A1 lay h) cp_X5_accept (fun A1 => rv_F) mw_752 dL_accept_9 rfl rfl (Nat.le_of_ble_eq_true rfl) ⟨Nat.le_of_ble_eq_true rfl, Nat.le_of_ble_eq_true rfl⟩ ⟨Nat.le_of_ble_eq_true rfl, Nat.le_of_ble_eq_true rfl⟩ rfl (fun lay => ?_)
  refine j_i2l 13 C dL_accept_12 rfl ?_
  refine lk_last 14 C K dL_accept_13 rfl ?_
  refine j_goto 29 C dL_accept_14 (by decide) ?_
  refine j_iconst 30 C dL_accept_29 ic_0 rfl ?_
  refine j_widen (k' := 24) (n' := 12288) (by omega) (by omega) ?_
  exact x_i (Wf := Lx g (oW g qo) A) (σ := (σ', r.toInt64)) (lay := lay) C M dL_accept_30
set_option maxRecDepth 100000 in
theorem w_L_accept_1 {l : Launch} (hst : l.stackTraces = false) (g : GG) (A : Nat → Prop) (lay : Nat → Nat) (qo : Nat) {σ σ' : CS} {v : Int64} {x1 : Int32} {x2 : Int32} {x3 : Int32} {x4 : Int32} (h : F_X5_accept σ x1 x2 x3 x4 = some (σ', .inr 1)) : MIw l yL_accept cL_accept 7 hh_L_accept 8 207 1 6 [.ref (ga g 0), .int x1, .int x2, .int x3, .int x4, .ref qo] (Lx g (oW g qo) A) g A lay (σ, v) (σ', v) 1 := by
  refine e_iw (own := RL) (lo := [(0, .ref (ga g 0)), (1, .int x1), (2, .int x2), (3, .int x3), (4, .int x4), (5, .ref qo)]) hst (plainFor_of_name (by decide)) rfl rfl (Nat.le_of_ble_eq_true rfl) ?_
  intro p e s m args below meth c C K M T
  change JJ _ _ _ _ _ _ _ _ _ _ _ _ _ (LW g A lay ([outc g qo v] ++ cW g lay σ)) _ _ _ _ _
  refine j_aload 2 C dL_accept_0 5 rfl rfl ?_
  refine j_iconst 3 C dL_accept_2 ic_0 rfl ?_
  refine j_aload_n 4 C dL_accept_3 0 rfl rfl ?_
  refine j_iload_n 5 C dL_accept_4 1 rfl rfl ?_
  refine j_iload_n 6 C dL_accept_5 2 rfl rfl ?_
  refine j_iload_n 7 C dL_accept_6 3 rfl rfl ?_
  refine j_iload 9 C dL_accept_7 4 rfl rfl ?_
  refine lk_Xi (wx := cW g) (w0 := [outc g qo v]) (As := [.int x1, .int x2, .int x3, .int x4]) C K (fun A1 => x_X5_accept K.2.2.2 g A1 lay h) cp_X5_accept (fun A1 => rv_F) mw_752 dL_accept_9 rfl rfl (Nat.le_of_ble_eq_true rfl) ⟨Nat.le_of_ble_eq_true rfl, Nat.le_of_ble_eq_true rfl⟩ ⟨Nat.le_of_ble_eq_true rfl, Nat.le_of_ble_eq_true rfl⟩ T [] ⟨0, 14, 17, 18⟩ [⟨0, 14, 21, 13⟩, ⟨0, 14, 25, 20⟩] rfl (fun z hz => (List.not_mem_nil hz).elim) (by decide) (by decide) mw_671 (xc_1 K.2.2.1) (fun lay q9 => ?_)
  refine j_astore 19 C dL_accept_17 (lo' := [(6, .ref q9), (0, .ref (ga g 0)), (1, .int x1), (2, .int x2), (3, .int x3), (4, .int x4), (5, .ref qo)]) (by decide) rfl rfl ?_
  refine j_iconst 20 C dL_accept_19 ic_1 rfl ?_
  exact x_i (Wf := Lx g (oW g qo) A) (σ := (σ', v)) (lay := lay) C M dL_accept_20
set_option maxRecDepth 100000 in
theorem w_L_accept_2 {l : Launch} (hst : l.stackTraces = false) (g : GG) (A : Nat → Prop) (lay : Nat → Nat) (qo : Nat) {σ σ' : CS} {v : Int64} {x1 : Int32} {x2 : Int32} {x3 : Int32} {x4 : Int32} (h : F_X5_accept σ x1 x2 x3 x4 = some (σ', .inr 2)) : MIw l yL_accept cL_accept 7 hh_L_accept 8 207 1 6 [.ref (ga g 0), .int x1, .int x2, .int x3, .int x4, .ref qo] (Lx g (oW g qo) A) g A lay (σ, v) (σ', v) 2 := by
  refine e_iw (own := RL) (lo := [(0, .ref (ga g 0)), (1, .int x1), (2, .int x2), (3, .int x3), (4, .int x4), (5, .ref qo)]) hst (plainFor_of_name (by decide)) rfl rfl (Nat.le_of_ble_eq_true rfl) ?_
  intro p e s m args below meth c C K M T
  change JJ _ _ _ _ _ _ _ _ _ _ _ _ _ (LW g A lay ([outc g qo v] ++ cW g lay σ)) _ _ _ _ _
  refine j_aload 2 C dL_accept_0 5 rfl rfl ?_
  refine j_iconst 3 C dL_accept_2 ic_0 rfl ?_
  refine j_aload_n 4 C dL_accept_3 0 rfl rfl ?_
  refine j_iload_n 5 C dL_accept_4 1 rfl rfl ?_
  refine j_iload_n 6 C dL_accept_5 2 rfl rfl ?_
  refine j_iload_n 7 C dL_accept_6 3 rfl rfl ?_
  refine j_iload 9 C dL_accept_7 4 rfl rfl ?_
  refine lk_Xi (wx := cW g) (w0 := [outc g qo v]) (As := [.int x1, .int x2, .int x3, .int x4]) C K (fun A1 => x_X5_accept K.2.2.2 g A1 lay h) cp_X5_accept (fun A1 => rv_F) mw_752 dL_accept_9 rfl rfl (Nat.le_of_ble_eq_true rfl) ⟨Nat.le_of_ble_eq_true rfl, Nat.le_of_ble_eq_true rfl⟩ ⟨Nat.le_of_ble_eq_true rfl, Nat.le_of_ble_eq_true rfl⟩ T [⟨0, 14, 17, 18⟩] ⟨0, 14, 21, 13⟩ [⟨0, 14, 25, 20⟩] rfl (fun z hz => by
    simp only [List.mem_cons, List.not_mem_nil, or_false] at hz
    rcases hz with rfl
    · exact Or.inr ⟨by decide, "java/lang/IndexOutOfBoundsException", C.w mw_671, K.2.2.1.2.2.2.2.2.2.2.1⟩) (by decide) (by decide) mw_645 (xc_2 K.2.2.1) (fun lay q9 => ?_)
  refine j_astore 23 C dL_accept_21 (lo' := [(6, .ref q9), (0, .ref (ga g 0)), (1, .int x1), (2, .int x2), (3, .int x3), (4, .int x4), (5, .ref qo)]) (by decide) rfl rfl ?_
  refine j_iconst 24 C dL_accept_23 ic_2 rfl ?_
  exact x_i (Wf := Lx g (oW g qo) A) (σ := (σ', v)) (lay := lay) C M dL_accept_24
set_option maxRecDepth 100000 in
theorem w_L_accept_3 {l : Launch} (hst : l.stackTraces = false) (g : GG) (A : Nat → Prop) (lay : Nat → Nat) (qo : Nat) {σ σ' : CS} {v : Int64} {x1 : Int32} {x2 : Int32} {x3 : Int32} {x4 : Int32} (h : F_X5_accept σ x1 x2 x3 x4 = some (σ', .inr 3)) : MIw l yL_accept cL_accept 7 hh_L_accept 8 207 1 6 [.ref (ga g 0), .int x1, .int x2, .int x3, .int x4, .ref qo] (Lx g (oW g qo) A) g A lay (σ, v) (σ', v) 3 := by
  refine e_iw (own := RL) (lo := [(0, .ref (ga g 0)), (1, .int x1), (2, .int x2), (3, .int x3), (4, .int x4), (5, .ref qo)]) hst (plainFor_of_name (by decide)) rfl rfl (Nat.le_of_ble_eq_true rfl) ?_
  intro p e s m args below meth c C K M T
  change JJ _ _ _ _ _ _ _ _ _ _ _ _ _ (LW g A lay ([outc g qo v] ++ cW g lay σ)) _ _ _ _ _
  refine j_aload 2 C dL_accept_0 5 rfl rfl ?_
  refine j_iconst 3 C dL_accept_2 ic_0 rfl ?_
  refine j_aload_n 4 C dL_accept_3 0 rfl rfl ?_
  refine j_iload_n 5 C dL_accept_4 1 rfl rfl ?_
  refine j_iload_n 6 C dL_accept_5 2 rfl rfl ?_
  refine j_iload_n 7 C dL_accept_6 3 rfl rfl ?_
  refine j_iload 9 C dL_accept_7 4 rfl rfl ?_
  refine lk_Xi (wx := cW g) (w0 := [outc g qo v]) (As := [.int x1, .int x2, .int x3, .int x4]) C K (fun A1 => x_X5_accept K.2.2.2 g A1 lay h) cp_X5_accept (fun A1 => rv_F) mw_752 dL_accept_9 rfl rfl (Nat.le_of_ble_eq_true rfl) ⟨Nat.le_of_ble_eq_true rfl, Nat.le_of_ble_eq_true rfl⟩ ⟨Nat.le_of_ble_eq_true rfl, Nat.le_of_ble_eq_true rfl⟩ T [⟨0, 14, 17, 18⟩, ⟨0, 14, 21, 13⟩] ⟨0, 14, 25, 20⟩ [] rfl (fun z hz => by
    simp only [List.mem_cons, List.not_mem_nil, or_false] at hz
    rcases hz with rfl | rfl
    · exact Or.inr ⟨by decide, "java/lang/IndexOutOfBoundsException", C.w mw_671, K.2.2.1.2.2.2.2.2.2.2.2.1⟩
    · exact Or.inr ⟨by decide, "java/lang/IllegalArgumentException", C.w mw_645, K.2.2.1.2.2.2.2.2.2.2.2.2⟩) (by decide) (by decide) mw_672 (xc_3 K.2.2.1) (fun lay q9 => ?_)
  refine j_astore 27 C dL_accept_25 (lo' := [(6, .ref q9), (0, .ref (ga g 0)), (1, .int x1), (2, .int x2), (3, .int x3), (4, .int x4), (5, .ref qo)]) (by decide) rfl rfl ?_
  refine j_iconst 28 C dL_accept_27 ic_3 rfl ?_
  exact x_i (Wf := Lx g (oW g qo) A) (σ := (σ', v)) (lay := lay) C M dL_accept_28
def hh_L_barrier : List (Nat × Nat × Nat × Nat) := [(0, 9, 12, 18), (0, 9, 15, 20)]
theorem hw_L_barrier : Cond.codeWith yL_barrier cL_barrier 4 (some .int) hh_L_barrier ∈ AW := mw_768
set_option maxRecDepth 100000 in
theorem w_L_barrier {l : Launch} (hst : l.stackTraces = false) (g : GG) (A : Nat → Prop) (lay : Nat → Nat) (qo : Nat) {σ σ' : CS} {v : Int64} {r : Int32} {x1 : Int32} (h : F_X5_barrier σ x1 = some (σ', .inl r)) : MIw l yL_barrier cL_barrier 4 hh_L_barrier 8 132 (0) (0) [.ref (ga g 0), .int x1, .ref qo] (Lx g (oW g qo) A) g A lay (σ, v) (σ', r.toInt64) 0 := by
  refine e_iw (own := RL) (lo := [(0, .ref (ga g 0)), (1, .int x1), (2, .ref qo)]) hst (plainFor_of_name (by decide)) rfl rfl (Nat.le_of_ble_eq_true rfl) ?_
  intro p e s m args below meth c C K M T
  change JJ _ _ _ _ _ _ _ _ _ _ _ _ _ (LW g A lay ([outc g qo v] ++ cW g lay σ)) _ _ _ _ _
  refine j_aload_n 1 C dL_barrier_0 2 rfl rfl ?_
  refine j_iconst 2 C dL_barrier_1 ic_0 rfl ?_
  refine j_aload_n 3 C dL_barrier_2 0 rfl rfl ?_
  refine j_iload_n 4 C dL_barrier_3 1 rfl rfl ?_
  refine lk_Vi (wx := cW g) (w0 := [outc g qo v]) (As := [.int x1]) 7 C K (fun A1 => c_X5_barrier K.2.2.2 g A1 lay h) cp_X5_barrier (fun A1 => rv_F) mw_769 dL_barrier_4 rfl rfl (Nat.le_of_ble_eq_true rfl) ⟨Nat.le_of_ble_eq_true rfl, Nat.le_of_ble_eq_true rfl⟩ ⟨Nat.le_of_ble_eq_true rfl, Nat.le_of_ble_eq_true rfl⟩ rfl (fun lay => ?_)
  refine j_i2l 8 C dL_barrier_7 rfl ?_
  refine lk_last 9 C K dL_barrier_8 rfl ?_
  refine j_goto 18 C dL_barrier_9 (by decide) ?_
  refine j_iconst 19 C dL_barrier_18 ic_0 rfl ?_
  refine j_widen (k' := 0) (n' := 0) (by omega) (by omega) ?_
  exact x_i (Wf := Lx g (oW g qo) A) (σ := (σ', r.toInt64)) (lay := lay) C M dL_barrier_19
set_option maxRecDepth 100000 in
theorem w_L_barrier_1 {l : Launch} (hst : l.stackTraces = false) (g : GG) (A : Nat → Prop) (lay : Nat → Nat) (qo : Nat) {σ σ' : CS} {v : Int64} {x1 : Int32} (h : F_X5_barrier σ x1 = some (σ', .inr 1)) : MIw l yL_barrier cL_barrier 4 hh_L_barrier 8 132 1 6 [.ref (ga g 0), .int x1, .ref qo] (Lx g (oW g qo) A) g A lay (σ, v) (σ', v) 1 := by
  refine e_iw (own := RL) (lo := [(0, .ref (ga g 0)), (1, .int x1), (2, .ref qo)]) hst (plainFor_of_name (by decide)) rfl rfl (Nat.le_of_ble_eq_true rfl) ?_
  intro p e s m args below meth c C K M T
  change JJ _ _ _ _ _ _ _ _ _ _ _ _ _ (LW g A lay ([outc g qo v] ++ cW g lay σ)) _ _ _ _ _
  refine j_aload_n 1 C dL_barrier_0 2 rfl rfl ?_
  refine j_iconst 2 C dL_barrier_1 ic_0 rfl ?_
  refine j_aload_n 3 C dL_barrier_2 0 rfl rfl ?_
  refine j_iload_n 4 C dL_barrier_3 1 rfl rfl ?_
  refine lk_Xi (wx := cW g) (w0 := [outc g qo v]) (As := [.int x1]) C K (fun A1 => x_X5_barrier K.2.2.2 g A1 lay h) cp_X5_barrier (fun A1 => rv_F) mw_769 dL_barrier_4 rfl rfl (Nat.le_of_ble_eq_true rfl) ⟨Nat.le_of_ble_eq_true rfl, Nat.le_of_ble_eq_true rfl⟩ ⟨Nat.le_of_ble_eq_true rfl, Nat.le_of_ble_eq_true rfl⟩ T [] ⟨0, 9, 12, 18⟩ [⟨0, 9, 15, 20⟩] rfl (fun z hz => (List.not_mem_nil hz).elim) (by decide) (by decide) mw_671 (xc_1 K.2.2.1) (fun lay q9 => ?_)
  refine j_astore_n 13 C dL_barrier_12 (lo' := [(3, .ref q9), (0, .ref (ga g 0)), (1, .int x1), (2, .ref qo)]) (by decide) rfl rfl ?_
  refine j_iconst 14 C dL_barrier_13 ic_1 rfl ?_
  exact x_i (Wf := Lx g (oW g qo) A) (σ := (σ', v)) (lay := lay) C M dL_barrier_14
set_option maxRecDepth 100000 in
theorem w_L_barrier_3 {l : Launch} (hst : l.stackTraces = false) (g : GG) (A : Nat → Prop) (lay : Nat → Nat) (qo : Nat) {σ σ' : CS} {v : Int64} {x1 : Int32} (h : F_X5_barrier σ x1 = some (σ', .inr 3)) : MIw l yL_barrier cL_barrier 4 hh_L_barrier 8 132 1 6 [.ref (ga g 0), .int x1, .ref qo] (Lx g (oW g qo) A) g A lay (σ, v) (σ', v) 2 := by
  refine e_iw (own := RL) (lo := [(0, .ref (ga g 0)), (1, .int x1), (2, .ref qo)]) hst (plainFor_of_name (by decide)) rfl rfl (Nat.le_of_ble_eq_true rfl) ?_
  intro p e s m args below meth c C K M T
  change JJ _ _ _ _ _ _ _ _ _ _ _ _ _ (LW g A lay ([outc g qo v] ++ cW g lay σ)) _ _ _ _ _
  refine j_aload_n 1 C dL_barrier_0 2 rfl rfl ?_
  refine j_iconst 2 C dL_barrier_1 ic_0 rfl ?_
  refine j_aload_n 3 C dL_barrier_2 0 rfl rfl ?_
  refine j_iload_n 4 C dL_barrier_3 1 rfl rfl ?_
  refine lk_Xi (wx := cW g) (w0 := [outc g qo v]) (As := [.int x1]) C K (fun A1 => x_X5_barrier K.2.2.2 g A1 lay h) cp_X5_barrier (fun A1 => rv_F) mw_769 dL_barrier_4 rfl rfl (Nat.le_of_ble_eq_true rfl) ⟨Nat.le_of_ble_eq_true rfl, Nat.le_of_ble_eq_true rfl⟩ ⟨Nat.le_of_ble_eq_true rfl, Nat.le_of_ble_eq_true rfl⟩ T [⟨0, 9, 12, 18⟩] ⟨0, 9, 15, 20⟩ [] rfl (fun z hz => by
    simp only [List.mem_cons, List.not_mem_nil, or_false] at hz
    rcases hz with rfl
    · exact Or.inr ⟨by decide, "java/lang/IndexOutOfBoundsException", C.w mw_671, K.2.2.1.2.2.2.2.2.2.2.2.1⟩) (by decide) (by decide) mw_672 (xc_3 K.2.2.1) (fun lay q9 => ?_)
  refine j_astore_n 16 C dL_barrier_15 (lo' := [(3, .ref q9), (0, .ref (ga g 0)), (1, .int x1), (2, .ref qo)]) (by decide) rfl rfl ?_
  refine j_iconst 17 C dL_barrier_16 ic_2 rfl ?_
  exact x_i (Wf := Lx g (oW g qo) A) (σ := (σ', v)) (lay := lay) C M dL_barrier_17
def hh_L_crash : List (Nat × Nat × Nat × Nat) := [(0, 10, 13, 18), (0, 10, 17, 13), (0, 10, 21, 20)]
theorem hw_L_crash : Cond.codeWith yL_crash cL_crash 5 (some .int) hh_L_crash ∈ AW := mw_780
set_option maxRecDepth 100000 in
theorem w_L_crash {l : Launch} (hst : l.stackTraces = false) (g : GG) (A : Nat → Prop) (lay : Nat → Nat) (qo : Nat) {σ σ' : CS} {v : Int64} {r : Int32} {x1 : Int32} {x2 : Int32} (h : F_X5_crash σ x1 x2 = some (σ', .inl r)) : MIw l yL_crash cL_crash 5 hh_L_crash 8 133 (0) (0) [.ref (ga g 0), .int x1, .int x2, .ref qo] (Lx g (oW g qo) A) g A lay (σ, v) (σ', r.toInt64) 0 := by
  refine e_iw (own := RL) (lo := [(0, .ref (ga g 0)), (1, .int x1), (2, .int x2), (3, .ref qo)]) hst (plainFor_of_name (by decide)) rfl rfl (Nat.le_of_ble_eq_true rfl) ?_
  intro p e s m args below meth c C K M T
  change JJ _ _ _ _ _ _ _ _ _ _ _ _ _ (LW g A lay ([outc g qo v] ++ cW g lay σ)) _ _ _ _ _
  refine j_aload_n 1 C dL_crash_0 3 rfl rfl ?_
  refine j_iconst 2 C dL_crash_1 ic_0 rfl ?_
  refine j_aload_n 3 C dL_crash_2 0 rfl rfl ?_
  refine j_iload_n 4 C dL_crash_3 1 rfl rfl ?_
  refine j_iload_n 5 C dL_crash_4 2 rfl rfl ?_
  refine lk_Vi (wx := cW g) (w0 := [outc g qo v]) (As := [.int x1, .int x2]) 8 C K (fun A1 => c_X5_crash K.2.2.2 g A1 lay h) cp_X5_crash (fun A1 => rv_F) mw_781 dL_crash_5 rfl rfl (Nat.le_of_ble_eq_true rfl) ⟨Nat.le_of_ble_eq_true rfl, Nat.le_of_ble_eq_true rfl⟩ ⟨Nat.le_of_ble_eq_true rfl, Nat.le_of_ble_eq_true rfl⟩ rfl (fun lay => ?_)
  refine j_i2l 9 C dL_crash_8 rfl ?_
  refine lk_last 10 C K dL_crash_9 rfl ?_
  refine j_goto 25 C dL_crash_10 (by decide) ?_
  refine j_iconst 26 C dL_crash_25 ic_0 rfl ?_
  refine j_widen (k' := 0) (n' := 0) (by omega) (by omega) ?_
  exact x_i (Wf := Lx g (oW g qo) A) (σ := (σ', r.toInt64)) (lay := lay) C M dL_crash_26
set_option maxRecDepth 100000 in
theorem w_L_crash_1 {l : Launch} (hst : l.stackTraces = false) (g : GG) (A : Nat → Prop) (lay : Nat → Nat) (qo : Nat) {σ σ' : CS} {v : Int64} {x1 : Int32} {x2 : Int32} (h : F_X5_crash σ x1 x2 = some (σ', .inr 1)) : MIw l yL_crash cL_crash 5 hh_L_crash 8 133 1 6 [.ref (ga g 0), .int x1, .int x2, .ref qo] (Lx g (oW g qo) A) g A lay (σ, v) (σ', v) 1 := by
  refine e_iw (own := RL) (lo := [(0, .ref (ga g 0)), (1, .int x1), (2, .int x2), (3, .ref qo)]) hst (plainFor_of_name (by decide)) rfl rfl (Nat.le_of_ble_eq_true rfl) ?_
  intro p e s m args below meth c C K M T
  change JJ _ _ _ _ _ _ _ _ _ _ _ _ _ (LW g A lay ([outc g qo v] ++ cW g lay σ)) _ _ _ _ _
  refine j_aload_n 1 C dL_crash_0 3 rfl rfl ?_
  refine j_iconst 2 C dL_crash_1 ic_0 rfl ?_
  refine j_aload_n 3 C dL_crash_2 0 rfl rfl ?_
  refine j_iload_n 4 C dL_crash_3 1 rfl rfl ?_
  refine j_iload_n 5 C dL_crash_4 2 rfl rfl ?_
  refine lk_Xi (wx := cW g) (w0 := [outc g qo v]) (As := [.int x1, .int x2]) C K (fun A1 => x_X5_crash K.2.2.2 g A1 lay h) cp_X5_crash (fun A1 => rv_F) mw_781 dL_crash_5 rfl rfl (Nat.le_of_ble_eq_true rfl) ⟨Nat.le_of_ble_eq_true rfl, Nat.le_of_ble_eq_true rfl⟩ ⟨Nat.le_of_ble_eq_true rfl, Nat.le_of_ble_eq_true rfl⟩ T [] ⟨0, 10, 13, 18⟩ [⟨0, 10, 17, 13⟩, ⟨0, 10, 21, 20⟩] rfl (fun z hz => (List.not_mem_nil hz).elim) (by decide) (by decide) mw_671 (xc_1 K.2.2.1) (fun lay q9 => ?_)
  refine j_astore 15 C dL_crash_13 (lo' := [(4, .ref q9), (0, .ref (ga g 0)), (1, .int x1), (2, .int x2), (3, .ref qo)]) (by decide) rfl rfl ?_
  refine j_iconst 16 C dL_crash_15 ic_1 rfl ?_
  exact x_i (Wf := Lx g (oW g qo) A) (σ := (σ', v)) (lay := lay) C M dL_crash_16
set_option maxRecDepth 100000 in
theorem w_L_crash_2 {l : Launch} (hst : l.stackTraces = false) (g : GG) (A : Nat → Prop) (lay : Nat → Nat) (qo : Nat) {σ σ' : CS} {v : Int64} {x1 : Int32} {x2 : Int32} (h : F_X5_crash σ x1 x2 = some (σ', .inr 2)) : MIw l yL_crash cL_crash 5 hh_L_crash 8 133 1 6 [.ref (ga g 0), .int x1, .int x2, .ref qo] (Lx g (oW g qo) A) g A lay (σ, v) (σ', v) 2 := by
  refine e_iw (own := RL) (lo := [(0, .ref (ga g 0)), (1, .int x1), (2, .int x2), (3, .ref qo)]) hst (plainFor_of_name (by decide)) rfl rfl (Nat.le_of_ble_eq_true rfl) ?_
  intro p e s m args below meth c C K M T
  change JJ _ _ _ _ _ _ _ _ _ _ _ _ _ (LW g A lay ([outc g qo v] ++ cW g lay σ)) _ _ _ _ _
  refine j_aload_n 1 C dL_crash_0 3 rfl rfl ?_
  refine j_iconst 2 C dL_crash_1 ic_0 rfl ?_
  refine j_aload_n 3 C dL_crash_2 0 rfl rfl ?_
  refine j_iload_n 4 C dL_crash_3 1 rfl rfl ?_
  refine j_iload_n 5 C dL_crash_4 2 rfl rfl ?_
  refine lk_Xi (wx := cW g) (w0 := [outc g qo v]) (As := [.int x1, .int x2]) C K (fun A1 => x_X5_crash K.2.2.2 g A1 lay h) cp_X5_crash (fun A1 => rv_F) mw_781 dL_crash_5 rfl rfl (Nat.le_of_ble_eq_true rfl) ⟨Nat.le_of_ble_eq_true rfl, Nat.le_of_ble_eq_true rfl⟩ ⟨Nat.le_of_ble_eq_true rfl, Nat.le_of_ble_eq_true rfl⟩ T [⟨0, 10, 13, 18⟩] ⟨0, 10, 17, 13⟩ [⟨0, 10, 21, 20⟩] rfl (fun z hz => by
    simp only [List.mem_cons, List.not_mem_nil, or_false] at hz
    rcases hz with rfl
    · exact Or.inr ⟨by decide, "java/lang/IndexOutOfBoundsException", C.w mw_671, K.2.2.1.2.2.2.2.2.2.2.1⟩) (by decide) (by decide) mw_645 (xc_2 K.2.2.1) (fun lay q9 => ?_)
  refine j_astore 19 C dL_crash_17 (lo' := [(4, .ref q9), (0, .ref (ga g 0)), (1, .int x1), (2, .int x2), (3, .ref qo)]) (by decide) rfl rfl ?_
  refine j_iconst 20 C dL_crash_19 ic_2 rfl ?_
  exact x_i (Wf := Lx g (oW g qo) A) (σ := (σ', v)) (lay := lay) C M dL_crash_20
set_option maxRecDepth 100000 in
theorem w_L_crash_3 {l : Launch} (hst : l.stackTraces = false) (g : GG) (A : Nat → Prop) (lay : Nat → Nat) (qo : Nat) {σ σ' : CS} {v : Int64} {x1 : Int32} {x2 : Int32} (h : F_X5_crash σ x1 x2 = some (σ', .inr 3)) : MIw l yL_crash cL_crash 5 hh_L_crash 8 133 1 6 [.ref (ga g 0), .int x1, .int x2, .ref qo] (Lx g (oW g qo) A) g A lay (σ, v) (σ', v) 3 := by
  refine e_iw (own := RL) (lo := [(0, .ref (ga g 0)), (1, .int x1), (2, .int x2), (3, .ref qo)]) hst (plainFor_of_name (by decide)) rfl rfl (Nat.le_of_ble_eq_true rfl) ?_
  intro p e s m args below meth c C K M T
  change JJ _ _ _ _ _ _ _ _ _ _ _ _ _ (LW g A lay ([outc g qo v] ++ cW g lay σ)) _ _ _ _ _
  refine j_aload_n 1 C dL_crash_0 3 rfl rfl ?_
  refine j_iconst 2 C dL_crash_1 ic_0 rfl ?_
  refine j_aload_n 3 C dL_crash_2 0 rfl rfl ?_
  refine j_iload_n 4 C dL_crash_3 1 rfl rfl ?_
  refine j_iload_n 5 C dL_crash_4 2 rfl rfl ?_
  refine lk_Xi (wx := cW g) (w0 := [outc g qo v]) (As := [.int x1, .int x2]) C K (fun A1 => x_X5_crash K.2.2.2 g A1 lay h) cp_X5_crash (fun A1 => rv_F) mw_781 dL_crash_5 rfl rfl (Nat.le_of_ble_eq_true rfl) ⟨Nat.le_of_ble_eq_true rfl, Nat.le_of_ble_eq_true rfl⟩ ⟨Nat.le_of_ble_eq_true rfl, Nat.le_of_ble_eq_true rfl⟩ T [⟨0, 10, 13, 18⟩, ⟨0, 10, 17, 13⟩] ⟨0, 10, 21, 20⟩ [] rfl (fun z hz => by
    simp only [List.mem_cons, List.not_mem_nil, or_false] at hz
    rcases hz with rfl | rfl
    · exact Or.inr ⟨by decide, "java/lang/IndexOutOfBoundsException", C.w mw_671, K.2.2.1.2.2.2.2.2.2.2.2.1⟩
    · exact Or.inr ⟨by decide, "java/lang/IllegalArgumentException", C.w mw_645, K.2.2.1.2.2.2.2.2.2.2.2.2⟩) (by decide) (by decide) mw_672 (xc_3 K.2.2.1) (fun lay q9 => ?_)
  refine j_astore 23 C dL_crash_21 (lo' := [(4, .ref q9), (0, .ref (ga g 0)), (1, .int x1), (2, .int x2), (3, .ref qo)]) (by decide) rfl rfl ?_
  refine j_iconst 24 C dL_crash_23 ic_3 rfl ?_
  exact x_i (Wf := Lx g (oW g qo) A) (σ := (σ', v)) (lay := lay) C M dL_crash_24
def hh_L_wipe : List (Nat × Nat × Nat × Nat) := [(0, 9, 12, 18), (0, 9, 15, 20)]
theorem hw_L_wipe : Cond.codeWith yL_wipe cL_wipe 4 (some .int) hh_L_wipe ∈ AW := mw_805
set_option maxRecDepth 100000 in
theorem w_L_wipe {l : Launch} (hst : l.stackTraces = false) (g : GG) (A : Nat → Prop) (lay : Nat → Nat) (qo : Nat) {σ σ' : CS} {v : Int64} {r : Int32} {x1 : Int32} (h : F_X5_wipe σ x1 = some (σ', .inl r)) : MIw l yL_wipe cL_wipe 4 hh_L_wipe 8 132 (0) (0) [.ref (ga g 0), .int x1, .ref qo] (Lx g (oW g qo) A) g A lay (σ, v) (σ', r.toInt64) 0 := by
  refine e_iw (own := RL) (lo := [(0, .ref (ga g 0)), (1, .int x1), (2, .ref qo)]) hst (plainFor_of_name (by decide)) rfl rfl (Nat.le_of_ble_eq_true rfl) ?_
  intro p e s m args below meth c C K M T
  change JJ _ _ _ _ _ _ _ _ _ _ _ _ _ (LW g A lay ([outc g qo v] ++ cW g lay σ)) _ _ _ _ _
  refine j_aload_n 1 C dL_wipe_0 2 rfl rfl ?_
  refine j_iconst 2 C dL_wipe_1 ic_0 rfl ?_
  refine j_aload_n 3 C dL_wipe_2 0 rfl rfl ?_
  refine j_iload_n 4 C dL_wipe_3 1 rfl rfl ?_
  refine lk_Vi (wx := cW g) (w0 := [outc g qo v]) (As := [.int x1]) 7 C K (fun A1 => c_X5_wipe K.2.2.2 g A1 lay h) cp_X5_wipe (fun A1 => rv_F) mw_806 dL_wipe_4 rfl rfl (Nat.le_of_ble_eq_true rfl) ⟨Nat.le_of_ble_eq_true rfl, Nat.le_of_ble_eq_true rfl⟩ ⟨Nat.le_of_ble_eq_true rfl, Nat.le_of_ble_eq_true rfl⟩ rfl (fun lay => ?_)
  refine j_i2l 8 C dL_wipe_7 rfl ?_
  refine lk_last 9 C K dL_wipe_8 rfl ?_
  refine j_goto 18 C dL_wipe_9 (by decide) ?_
  refine j_iconst 19 C dL_wipe_18 ic_0 rfl ?_
  refine j_widen (k' := 0) (n' := 0) (by omega) (by omega) ?_
  exact x_i (Wf := Lx g (oW g qo) A) (σ := (σ', r.toInt64)) (lay := lay) C M dL_wipe_19
set_option maxRecDepth 100000 in
theorem w_L_wipe_1 {l : Launch} (hst : l.stackTraces = false) (g : GG) (A : Nat → Prop) (lay : Nat → Nat) (qo : Nat) {σ σ' : CS} {v : Int64} {x1 : Int32} (h : F_X5_wipe σ x1 = some (σ', .inr 1)) : MIw l yL_wipe cL_wipe 4 hh_L_wipe 8 132 1 6 [.ref (ga g 0), .int x1, .ref qo] (Lx g (oW g qo) A) g A lay (σ, v) (σ', v) 1 := by
  refine e_iw (own := RL) (lo := [(0, .ref (ga g 0)), (1, .int x1), (2, .ref qo)]) hst (plainFor_of_name (by decide)) rfl rfl (Nat.le_of_ble_eq_true rfl) ?_
  intro p e s m args below meth c C K M T
  change JJ _ _ _ _ _ _ _ _ _ _ _ _ _ (LW g A lay ([outc g qo v] ++ cW g lay σ)) _ _ _ _ _
  refine j_aload_n 1 C dL_wipe_0 2 rfl rfl ?_
  refine j_iconst 2 C dL_wipe_1 ic_0 rfl ?_
  refine j_aload_n 3 C dL_wipe_2 0 rfl rfl ?_
  refine j_iload_n 4 C dL_wipe_3 1 rfl rfl ?_
  refine lk_Xi (wx := cW g) (w0 := [outc g qo v]) (As := [.int x1]) C K (fun A1 => x_X5_wipe K.2.2.2 g A1 lay h) cp_X5_wipe (fun A1 => rv_F) mw_806 dL_wipe_4 rfl rfl (Nat.le_of_ble_eq_true rfl) ⟨Nat.le_of_ble_eq_true rfl, Nat.le_of_ble_eq_true rfl⟩ ⟨Nat.le_of_ble_eq_true rfl, Nat.le_of_ble_eq_true rfl⟩ T [] ⟨0, 9, 12, 18⟩ [⟨0, 9, 15, 20⟩] rfl (fun z hz => (List.not_mem_nil hz).elim) (by decide) (by decide) mw_671 (xc_1 K.2.2.1) (fun lay q9 => ?_)
  refine j_astore_n 13 C dL_wipe_12 (lo' := [(3, .ref q9), (0, .ref (ga g 0)), (1, .int x1), (2, .ref qo)]) (by decide) rfl rfl ?_
  refine j_iconst 14 C dL_wipe_13 ic_1 rfl ?_
  exact x_i (Wf := Lx g (oW g qo) A) (σ := (σ', v)) (lay := lay) C M dL_wipe_14
set_option maxRecDepth 100000 in
theorem w_L_wipe_3 {l : Launch} (hst : l.stackTraces = false) (g : GG) (A : Nat → Prop) (lay : Nat → Nat) (qo : Nat) {σ σ' : CS} {v : Int64} {x1 : Int32} (h : F_X5_wipe σ x1 = some (σ', .inr 3)) : MIw l yL_wipe cL_wipe 4 hh_L_wipe 8 132 1 6 [.ref (ga g 0), .int x1, .ref qo] (Lx g (oW g qo) A) g A lay (σ, v) (σ', v) 2 := by
  refine e_iw (own := RL) (lo := [(0, .ref (ga g 0)), (1, .int x1), (2, .ref qo)]) hst (plainFor_of_name (by decide)) rfl rfl (Nat.le_of_ble_eq_true rfl) ?_
  intro p e s m args below meth c C K M T
  change JJ _ _ _ _ _ _ _ _ _ _ _ _ _ (LW g A lay ([outc g qo v] ++ cW g lay σ)) _ _ _ _ _
  refine j_aload_n 1 C dL_wipe_0 2 rfl rfl ?_
  refine j_iconst 2 C dL_wipe_1 ic_0 rfl ?_
  refine j_aload_n 3 C dL_wipe_2 0 rfl rfl ?_
  refine j_iload_n 4 C dL_wipe_3 1 rfl rfl ?_
  refine lk_Xi (wx := cW g) (w0 := [outc g qo v]) (As := [.int x1]) C K (fun A1 => x_X5_wipe K.2.2.2 g A1 lay h) cp_X5_wipe (fun A1 => rv_F) mw_806 dL_wipe_4 rfl rfl (Nat.le_of_ble_eq_true rfl) ⟨Nat.le_of_ble_eq_true rfl, Nat.le_of_ble_eq_true rfl⟩ ⟨Nat.le_of_ble_eq_true rfl, Nat.le_of_ble_eq_true rfl⟩ T [⟨0, 9, 12, 18⟩] ⟨0, 9, 15, 20⟩ [] rfl (fun z hz => by
    simp only [List.mem_cons, List.not_mem_nil, or_false] at hz
    rcases hz with rfl
    · exact Or.inr ⟨by decide, "java/lang/IndexOutOfBoundsException", C.w mw_671, K.2.2.1.2.2.2.2.2.2.2.2.1⟩) (by decide) (by decide) mw_672 (xc_3 K.2.2.1) (fun lay q9 => ?_)
  refine j_astore_n 16 C dL_wipe_15 (lo' := [(3, .ref q9), (0, .ref (ga g 0)), (1, .int x1), (2, .ref qo)]) (by decide) rfl rfl ?_
  refine j_iconst 17 C dL_wipe_16 ic_2 rfl ?_
  exact x_i (Wf := Lx g (oW g qo) A) (σ := (σ', v)) (lay := lay) C M dL_wipe_17
def hh_L_restart : List (Nat × Nat × Nat × Nat) := [(0, 9, 12, 18), (0, 9, 15, 20)]
theorem hw_L_restart : Cond.codeWith yL_restart cL_restart 4 (some .int) hh_L_restart ∈ AW := mw_826
set_option maxRecDepth 100000 in
theorem w_L_restart {l : Launch} (hst : l.stackTraces = false) (g : GG) (A : Nat → Prop) (lay : Nat → Nat) (qo : Nat) {σ σ' : CS} {v : Int64} {r : Int32} {x1 : Int32} (h : F_X5_restart σ x1 = some (σ', .inl r)) : MIw l yL_restart cL_restart 4 hh_L_restart 8 132 (0) (0) [.ref (ga g 0), .int x1, .ref qo] (Lx g (oW g qo) A) g A lay (σ, v) (σ', r.toInt64) 0 := by
  refine e_iw (own := RL) (lo := [(0, .ref (ga g 0)), (1, .int x1), (2, .ref qo)]) hst (plainFor_of_name (by decide)) rfl rfl (Nat.le_of_ble_eq_true rfl) ?_
  intro p e s m args below meth c C K M T
  change JJ _ _ _ _ _ _ _ _ _ _ _ _ _ (LW g A lay ([outc g qo v] ++ cW g lay σ)) _ _ _ _ _
  refine j_aload_n 1 C dL_restart_0 2 rfl rfl ?_
  refine j_iconst 2 C dL_restart_1 ic_0 rfl ?_
  refine j_aload_n 3 C dL_restart_2 0 rfl rfl ?_
  refine j_iload_n 4 C dL_restart_3 1 rfl rfl ?_
  refine lk_Vi (wx := cW g) (w0 := [outc g qo v]) (As := [.int x1]) 7 C K (fun A1 => c_X5_restart K.2.2.2 g A1 lay h) cp_X5_restart (fun A1 => rv_F) mw_827 dL_restart_4 rfl rfl (Nat.le_of_ble_eq_true rfl) ⟨Nat.le_of_ble_eq_true rfl, Nat.le_of_ble_eq_true rfl⟩ ⟨Nat.le_of_ble_eq_true rfl, Nat.le_of_ble_eq_true rfl⟩ rfl (fun lay => ?_)
  refine j_i2l 8 C dL_restart_7 rfl ?_
  refine lk_last 9 C K dL_restart_8 rfl ?_
  refine j_goto 18 C dL_restart_9 (by decide) ?_
  refine j_iconst 19 C dL_restart_18 ic_0 rfl ?_
  refine j_widen (k' := 0) (n' := 0) (by omega) (by omega) ?_
  exact x_i (Wf := Lx g (oW g qo) A) (σ := (σ', r.toInt64)) (lay := lay) C M dL_restart_19
set_option maxRecDepth 100000 in
theorem w_L_restart_1 {l : Launch} (hst : l.stackTraces = false) (g : GG) (A : Nat → Prop) (lay : Nat → Nat) (qo : Nat) {σ σ' : CS} {v : Int64} {x1 : Int32} (h : F_X5_restart σ x1 = some (σ', .inr 1)) : MIw l yL_restart cL_restart 4 hh_L_restart 8 132 1 6 [.ref (ga g 0), .int x1, .ref qo] (Lx g (oW g qo) A) g A lay (σ, v) (σ', v) 1 := by
  refine e_iw (own := RL) (lo := [(0, .ref (ga g 0)), (1, .int x1), (2, .ref qo)]) hst (plainFor_of_name (by decide)) rfl rfl (Nat.le_of_ble_eq_true rfl) ?_
  intro p e s m args below meth c C K M T
  change JJ _ _ _ _ _ _ _ _ _ _ _ _ _ (LW g A lay ([outc g qo v] ++ cW g lay σ)) _ _ _ _ _
  refine j_aload_n 1 C dL_restart_0 2 rfl rfl ?_
  refine j_iconst 2 C dL_restart_1 ic_0 rfl ?_
  refine j_aload_n 3 C dL_restart_2 0 rfl rfl ?_
  refine j_iload_n 4 C dL_restart_3 1 rfl rfl ?_
  refine lk_Xi (wx := cW g) (w0 := [outc g qo v]) (As := [.int x1]) C K (fun A1 => x_X5_restart K.2.2.2 g A1 lay h) cp_X5_restart (fun A1 => rv_F) mw_827 dL_restart_4 rfl rfl (Nat.le_of_ble_eq_true rfl) ⟨Nat.le_of_ble_eq_true rfl, Nat.le_of_ble_eq_true rfl⟩ ⟨Nat.le_of_ble_eq_true rfl, Nat.le_of_ble_eq_true rfl⟩ T [] ⟨0, 9, 12, 18⟩ [⟨0, 9, 15, 20⟩] rfl (fun z hz => (List.not_mem_nil hz).elim) (by decide) (by decide) mw_671 (xc_1 K.2.2.1) (fun lay q9 => ?_)
  refine j_astore_n 13 C dL_restart_12 (lo' := [(3, .ref q9), (0, .ref (ga g 0)), (1, .int x1), (2, .ref qo)]) (by decide) rfl rfl ?_
  refine j_iconst 14 C dL_restart_13 ic_1 rfl ?_
  exact x_i (Wf := Lx g (oW g qo) A) (σ := (σ', v)) (lay := lay) C M dL_restart_14
set_option maxRecDepth 100000 in
theorem w_L_restart_3 {l : Launch} (hst : l.stackTraces = false) (g : GG) (A : Nat → Prop) (lay : Nat → Nat) (qo : Nat) {σ σ' : CS} {v : Int64} {x1 : Int32} (h : F_X5_restart σ x1 = some (σ', .inr 3)) : MIw l yL_restart cL_restart 4 hh_L_restart 8 132 1 6 [.ref (ga g 0), .int x1, .ref qo] (Lx g (oW g qo) A) g A lay (σ, v) (σ', v) 2 := by
  refine e_iw (own := RL) (lo := [(0, .ref (ga g 0)), (1, .int x1), (2, .ref qo)]) hst (plainFor_of_name (by decide)) rfl rfl (Nat.le_of_ble_eq_true rfl) ?_
  intro p e s m args below meth c C K M T
  change JJ _ _ _ _ _ _ _ _ _ _ _ _ _ (LW g A lay ([outc g qo v] ++ cW g lay σ)) _ _ _ _ _
  refine j_aload_n 1 C dL_restart_0 2 rfl rfl ?_
  refine j_iconst 2 C dL_restart_1 ic_0 rfl ?_
  refine j_aload_n 3 C dL_restart_2 0 rfl rfl ?_
  refine j_iload_n 4 C dL_restart_3 1 rfl rfl ?_
  refine lk_Xi (wx := cW g) (w0 := [outc g qo v]) (As := [.int x1]) C K (fun A1 => x_X5_restart K.2.2.2 g A1 lay h) cp_X5_restart (fun A1 => rv_F) mw_827 dL_restart_4 rfl rfl (Nat.le_of_ble_eq_true rfl) ⟨Nat.le_of_ble_eq_true rfl, Nat.le_of_ble_eq_true rfl⟩ ⟨Nat.le_of_ble_eq_true rfl, Nat.le_of_ble_eq_true rfl⟩ T [⟨0, 9, 12, 18⟩] ⟨0, 9, 15, 20⟩ [] rfl (fun z hz => by
    simp only [List.mem_cons, List.not_mem_nil, or_false] at hz
    rcases hz with rfl
    · exact Or.inr ⟨by decide, "java/lang/IndexOutOfBoundsException", C.w mw_671, K.2.2.1.2.2.2.2.2.2.2.2.1⟩) (by decide) (by decide) mw_672 (xc_3 K.2.2.1) (fun lay q9 => ?_)
  refine j_astore_n 16 C dL_restart_15 (lo' := [(3, .ref q9), (0, .ref (ga g 0)), (1, .int x1), (2, .ref qo)]) (by decide) rfl rfl ?_
  refine j_iconst 17 C dL_restart_16 ic_2 rfl ?_
  exact x_i (Wf := Lx g (oW g qo) A) (σ := (σ', v)) (lay := lay) C M dL_restart_17
def hh_L_rejoin : List (Nat × Nat × Nat × Nat) := [(0, 10, 13, 18), (0, 10, 17, 13), (0, 10, 21, 20)]
theorem hw_L_rejoin : Cond.codeWith yL_rejoin cL_rejoin 5 (some .int) hh_L_rejoin ∈ AW := mw_837
set_option maxRecDepth 100000 in
theorem w_L_rejoin {l : Launch} (hst : l.stackTraces = false) (g : GG) (A : Nat → Prop) (lay : Nat → Nat) (qo : Nat) {σ σ' : CS} {v : Int64} {r : Int32} {x1 : Int32} {x2 : Int32} (h : F_X5_rejoin σ x1 x2 = some (σ', .inl r)) : MIw l yL_rejoin cL_rejoin 5 hh_L_rejoin 8 133 (0) (0) [.ref (ga g 0), .int x1, .int x2, .ref qo] (Lx g (oW g qo) A) g A lay (σ, v) (σ', r.toInt64) 0 := by
  refine e_iw (own := RL) (lo := [(0, .ref (ga g 0)), (1, .int x1), (2, .int x2), (3, .ref qo)]) hst (plainFor_of_name (by decide)) rfl rfl (Nat.le_of_ble_eq_true rfl) ?_
  intro p e s m args below meth c C K M T
  change JJ _ _ _ _ _ _ _ _ _ _ _ _ _ (LW g A lay ([outc g qo v] ++ cW g lay σ)) _ _ _ _ _
  refine j_aload_n 1 C dL_rejoin_0 3 rfl rfl ?_
  refine j_iconst 2 C dL_rejoin_1 ic_0 rfl ?_
  refine j_aload_n 3 C dL_rejoin_2 0 rfl rfl ?_
  refine j_iload_n 4 C dL_rejoin_3 1 rfl rfl ?_
  refine j_iload_n 5 C dL_rejoin_4 2 rfl rfl ?_
  refine lk_Vi (wx := cW g) (w0 := [outc g qo v]) (As := [.int x1, .int x2]) 8 C K (fun A1 => c_X5_rejoin K.2.2.2 g A1 lay h) cp_X5_rejoin (fun A1 => rv_F) mw_838 dL_rejoin_5 rfl rfl (Nat.le_of_ble_eq_true rfl) ⟨Nat.le_of_ble_eq_true rfl, Nat.le_of_ble_eq_true rfl⟩ ⟨Nat.le_of_ble_eq_true rfl, Nat.le_of_ble_eq_true rfl⟩ rfl (fun lay => ?_)
  refine j_i2l 9 C dL_rejoin_8 rfl ?_
  refine lk_last 10 C K dL_rejoin_9 rfl ?_
  refine j_goto 25 C dL_rejoin_10 (by decide) ?_
  refine j_iconst 26 C dL_rejoin_25 ic_0 rfl ?_
  refine j_widen (k' := 0) (n' := 0) (by omega) (by omega) ?_
  exact x_i (Wf := Lx g (oW g qo) A) (σ := (σ', r.toInt64)) (lay := lay) C M dL_rejoin_26
set_option maxRecDepth 100000 in
theorem w_L_rejoin_1 {l : Launch} (hst : l.stackTraces = false) (g : GG) (A : Nat → Prop) (lay : Nat → Nat) (qo : Nat) {σ σ' : CS} {v : Int64} {x1 : Int32} {x2 : Int32} (h : F_X5_rejoin σ x1 x2 = some (σ', .inr 1)) : MIw l yL_rejoin cL_rejoin 5 hh_L_rejoin 8 133 1 6 [.ref (ga g 0), .int x1, .int x2, .ref qo] (Lx g (oW g qo) A) g A lay (σ, v) (σ', v) 1 := by
  refine e_iw (own := RL) (lo := [(0, .ref (ga g 0)), (1, .int x1), (2, .int x2), (3, .ref qo)]) hst (plainFor_of_name (by decide)) rfl rfl (Nat.le_of_ble_eq_true rfl) ?_
  intro p e s m args below meth c C K M T
  change JJ _ _ _ _ _ _ _ _ _ _ _ _ _ (LW g A lay ([outc g qo v] ++ cW g lay σ)) _ _ _ _ _
  refine j_aload_n 1 C dL_rejoin_0 3 rfl rfl ?_
  refine j_iconst 2 C dL_rejoin_1 ic_0 rfl ?_
  refine j_aload_n 3 C dL_rejoin_2 0 rfl rfl ?_
  refine j_iload_n 4 C dL_rejoin_3 1 rfl rfl ?_
  refine j_iload_n 5 C dL_rejoin_4 2 rfl rfl ?_
  refine lk_Xi (wx := cW g) (w0 := [outc g qo v]) (As := [.int x1, .int x2]) C K (fun A1 => x_X5_rejoin K.2.2.2 g A1 lay h) cp_X5_rejoin (fun A1 => rv_F) mw_838 dL_rejoin_5 rfl rfl (Nat.le_of_ble_eq_true rfl) ⟨Nat.le_of_ble_eq_true rfl, Nat.le_of_ble_eq_true rfl⟩ ⟨Nat.le_of_ble_eq_true rfl, Nat.le_of_ble_eq_true rfl⟩ T [] ⟨0, 10, 13, 18⟩ [⟨0, 10, 17, 13⟩, ⟨0, 10, 21, 20⟩] rfl (fun z hz => (List.not_mem_nil hz).elim) (by decide) (by decide) mw_671 (xc_1 K.2.2.1) (fun lay q9 => ?_)
  refine j_astore 15 C dL_rejoin_13 (lo' := [(4, .ref q9), (0, .ref (ga g 0)), (1, .int x1), (2, .int x2), (3, .ref qo)]) (by decide) rfl rfl ?_
  refine j_iconst 16 C dL_rejoin_15 ic_1 rfl ?_
  exact x_i (Wf := Lx g (oW g qo) A) (σ := (σ', v)) (lay := lay) C M dL_rejoin_16
set_option maxRecDepth 100000 in
theorem w_L_rejoin_2 {l : Launch} (hst : l.stackTraces = false) (g : GG) (A : Nat → Prop) (lay : Nat → Nat) (qo : Nat) {σ σ' : CS} {v : Int64} {x1 : Int32} {x2 : Int32} (h : F_X5_rejoin σ x1 x2 = some (σ', .inr 2)) : MIw l yL_rejoin cL_rejoin 5 hh_L_rejoin 8 133 1 6 [.ref (ga g 0), .int x1, .int x2, .ref qo] (Lx g (oW g qo) A) g A lay (σ, v) (σ', v) 2 := by
  refine e_iw (own := RL) (lo := [(0, .ref (ga g 0)), (1, .int x1), (2, .int x2), (3, .ref qo)]) hst (plainFor_of_name (by decide)) rfl rfl (Nat.le_of_ble_eq_true rfl) ?_
  intro p e s m args below meth c C K M T
  change JJ _ _ _ _ _ _ _ _ _ _ _ _ _ (LW g A lay ([outc g qo v] ++ cW g lay σ)) _ _ _ _ _
  refine j_aload_n 1 C dL_rejoin_0 3 rfl rfl ?_
  refine j_iconst 2 C dL_rejoin_1 ic_0 rfl ?_
  refine j_aload_n 3 C dL_rejoin_2 0 rfl rfl ?_
  refine j_iload_n 4 C dL_rejoin_3 1 rfl rfl ?_
  refine j_iload_n 5 C dL_rejoin_4 2 rfl rfl ?_
  refine lk_Xi (wx := cW g) (w0 := [outc g qo v]) (As := [.int x1, .int x2]) C K (fun A1 => x_X5_rejoin K.2.2.2 g A1 lay h) cp_X5_rejoin (fun A1 => rv_F) mw_838 dL_rejoin_5 rfl rfl (Nat.le_of_ble_eq_true rfl) ⟨Nat.le_of_ble_eq_true rfl, Nat.le_of_ble_eq_true rfl⟩ ⟨Nat.le_of_ble_eq_true rfl, Nat.le_of_ble_eq_true rfl⟩ T [⟨0, 10, 13, 18⟩] ⟨0, 10, 17, 13⟩ [⟨0, 10, 21, 20⟩] rfl (fun z hz => by
    simp only [List.mem_cons, List.not_mem_nil, or_false] at hz
    rcases hz with rfl
    · exact Or.inr ⟨by decide, "java/lang/IndexOutOfBoundsException", C.w mw_671, K.2.2.1.2.2.2.2.2.2.2.1⟩) (by decide) (by decide) mw_645 (xc_2 K.2.2.1) (fun lay q9 => ?_)
  refine j_astore 19 C dL_rejoin_17 (lo' := [(4, .ref q9), (0, .ref (ga g 0)), (1, .int x1), (2, .int x2), (3, .ref qo)]) (by decide) rfl rfl ?_
  refine j_iconst 20 C dL_rejoin_19 ic_2 rfl ?_
  exact x_i (Wf := Lx g (oW g qo) A) (σ := (σ', v)) (lay := lay) C M dL_rejoin_20
set_option maxRecDepth 100000 in
theorem w_L_rejoin_3 {l : Launch} (hst : l.stackTraces = false) (g : GG) (A : Nat → Prop) (lay : Nat → Nat) (qo : Nat) {σ σ' : CS} {v : Int64} {x1 : Int32} {x2 : Int32} (h : F_X5_rejoin σ x1 x2 = some (σ', .inr 3)) : MIw l yL_rejoin cL_rejoin 5 hh_L_rejoin 8 133 1 6 [.ref (ga g 0), .int x1, .int x2, .ref qo] (Lx g (oW g qo) A) g A lay (σ, v) (σ', v) 3 := by
  refine e_iw (own := RL) (lo := [(0, .ref (ga g 0)), (1, .int x1), (2, .int x2), (3, .ref qo)]) hst (plainFor_of_name (by decide)) rfl rfl (Nat.le_of_ble_eq_true rfl) ?_
  intro p e s m args below meth c C K M T
  change JJ _ _ _ _ _ _ _ _ _ _ _ _ _ (LW g A lay ([outc g qo v] ++ cW g lay σ)) _ _ _ _ _
  refine j_aload_n 1 C dL_rejoin_0 3 rfl rfl ?_
  refine j_iconst 2 C dL_rejoin_1 ic_0 rfl ?_
  refine j_aload_n 3 C dL_rejoin_2 0 rfl rfl ?_
  refine j_iload_n 4 C dL_rejoin_3 1 rfl rfl ?_
  refine j_iload_n 5 C dL_rejoin_4 2 rfl rfl ?_
  refine lk_Xi (wx := cW g) (w0 := [outc g qo v]) (As := [.int x1, .int x2]) C K (fun A1 => x_X5_rejoin K.2.2.2 g A1 lay h) cp_X5_rejoin (fun A1 => rv_F) mw_838 dL_rejoin_5 rfl rfl (Nat.le_of_ble_eq_true rfl) ⟨Nat.le_of_ble_eq_true rfl, Nat.le_of_ble_eq_true rfl⟩ ⟨Nat.le_of_ble_eq_true rfl, Nat.le_of_ble_eq_true rfl⟩ T [⟨0, 10, 13, 18⟩, ⟨0, 10, 17, 13⟩] ⟨0, 10, 21, 20⟩ [] rfl (fun z hz => by
    simp only [List.mem_cons, List.not_mem_nil, or_false] at hz
    rcases hz with rfl | rfl
    · exact Or.inr ⟨by decide, "java/lang/IndexOutOfBoundsException", C.w mw_671, K.2.2.1.2.2.2.2.2.2.2.2.1⟩
    · exact Or.inr ⟨by decide, "java/lang/IllegalArgumentException", C.w mw_645, K.2.2.1.2.2.2.2.2.2.2.2.2⟩) (by decide) (by decide) mw_672 (xc_3 K.2.2.1) (fun lay q9 => ?_)
  refine j_astore 23 C dL_rejoin_21 (lo' := [(4, .ref q9), (0, .ref (ga g 0)), (1, .int x1), (2, .int x2), (3, .ref qo)]) (by decide) rfl rfl ?_
  refine j_iconst 24 C dL_rejoin_23 ic_3 rfl ?_
  exact x_i (Wf := Lx g (oW g qo) A) (σ := (σ', v)) (lay := lay) C M dL_rejoin_24
def hh_L_append : List (Nat × Nat × Nat × Nat) := [(0, 9, 12, 13), (0, 9, 15, 20)]
theorem hw_L_append : Cond.codeWith yL_append cL_append 4 (some .int) hh_L_append ∈ AW := mw_859
set_option maxRecDepth 100000 in
theorem w_L_append {l : Launch} (hst : l.stackTraces = false) (g : GG) (A : Nat → Prop) (lay : Nat → Nat) (qo : Nat) {σ σ' : CS} {v : Int64} {r : Int32} {x1 : Int32} (h : F_X5_append σ x1 = some (σ', .inl r)) : MIw l yL_append cL_append 4 hh_L_append 7 111 (0) (0) [.ref (ga g 0), .int x1, .ref qo] (Lx g (oW g qo) A) g A lay (σ, v) (σ', r.toInt64) 0 := by
  refine e_iw (own := RL) (lo := [(0, .ref (ga g 0)), (1, .int x1), (2, .ref qo)]) hst (plainFor_of_name (by decide)) rfl rfl (Nat.le_of_ble_eq_true rfl) ?_
  intro p e s m args below meth c C K M T
  change JJ _ _ _ _ _ _ _ _ _ _ _ _ _ (LW g A lay ([outc g qo v] ++ cW g lay σ)) _ _ _ _ _
  refine j_aload_n 1 C dL_append_0 2 rfl rfl ?_
  refine j_iconst 2 C dL_append_1 ic_0 rfl ?_
  refine j_aload_n 3 C dL_append_2 0 rfl rfl ?_
  refine j_iload_n 4 C dL_append_3 1 rfl rfl ?_
  refine lk_Vi (wx := cW g) (w0 := [outc g qo v]) (As := [.int x1]) 7 C K (fun A1 => c_X5_append K.2.2.2 g A1 lay h) cp_X5_append (fun A1 => rv_F) mw_860 dL_append_4 rfl rfl (Nat.le_of_ble_eq_true rfl) ⟨Nat.le_of_ble_eq_true rfl, Nat.le_of_ble_eq_true rfl⟩ ⟨Nat.le_of_ble_eq_true rfl, Nat.le_of_ble_eq_true rfl⟩ rfl (fun lay => ?_)
  refine j_i2l 8 C dL_append_7 rfl ?_
  refine lk_last 9 C K dL_append_8 rfl ?_
  refine j_goto 18 C dL_append_9 (by decide) ?_
  refine j_iconst 19 C dL_append_18 ic_0 rfl ?_
  refine j_widen (k' := 0) (n' := 0) (by omega) (by omega) ?_
  exact x_i (Wf := Lx g (oW g qo) A) (σ := (σ', r.toInt64)) (lay := lay) C M dL_append_19
set_option maxRecDepth 100000 in
theorem w_L_append_2 {l : Launch} (hst : l.stackTraces = false) (g : GG) (A : Nat → Prop) (lay : Nat → Nat) (qo : Nat) {σ σ' : CS} {v : Int64} {x1 : Int32} (h : F_X5_append σ x1 = some (σ', .inr 2)) : MIw l yL_append cL_append 4 hh_L_append 7 111 1 6 [.ref (ga g 0), .int x1, .ref qo] (Lx g (oW g qo) A) g A lay (σ, v) (σ', v) 1 := by
  refine e_iw (own := RL) (lo := [(0, .ref (ga g 0)), (1, .int x1), (2, .ref qo)]) hst (plainFor_of_name (by decide)) rfl rfl (Nat.le_of_ble_eq_true rfl) ?_
  intro p e s m args below meth c C K M T
  change JJ _ _ _ _ _ _ _ _ _ _ _ _ _ (LW g A lay ([outc g qo v] ++ cW g lay σ)) _ _ _ _ _
  refine j_aload_n 1 C dL_append_0 2 rfl rfl ?_
  refine j_iconst 2 C dL_append_1 ic_0 rfl ?_
  refine j_aload_n 3 C dL_append_2 0 rfl rfl ?_
  refine j_iload_n 4 C dL_append_3 1 rfl rfl ?_
  refine lk_Xi (wx := cW g) (w0 := [outc g qo v]) (As := [.int x1]) C K (fun A1 => x_X5_append K.2.2.2 g A1 lay h) cp_X5_append (fun A1 => rv_F) mw_860 dL_append_4 rfl rfl (Nat.le_of_ble_eq_true rfl) ⟨Nat.le_of_ble_eq_true rfl, Nat.le_of_ble_eq_true rfl⟩ ⟨Nat.le_of_ble_eq_true rfl, Nat.le_of_ble_eq_true rfl⟩ T [] ⟨0, 9, 12, 13⟩ [⟨0, 9, 15, 20⟩] rfl (fun z hz => (List.not_mem_nil hz).elim) (by decide) (by decide) mw_645 (xc_2 K.2.2.1) (fun lay q9 => ?_)
  refine j_astore_n 13 C dL_append_12 (lo' := [(3, .ref q9), (0, .ref (ga g 0)), (1, .int x1), (2, .ref qo)]) (by decide) rfl rfl ?_
  refine j_iconst 14 C dL_append_13 ic_1 rfl ?_
  exact x_i (Wf := Lx g (oW g qo) A) (σ := (σ', v)) (lay := lay) C M dL_append_14
set_option maxRecDepth 100000 in
theorem w_L_append_3 {l : Launch} (hst : l.stackTraces = false) (g : GG) (A : Nat → Prop) (lay : Nat → Nat) (qo : Nat) {σ σ' : CS} {v : Int64} {x1 : Int32} (h : F_X5_append σ x1 = some (σ', .inr 3)) : MIw l yL_append cL_append 4 hh_L_append 7 111 1 6 [.ref (ga g 0), .int x1, .ref qo] (Lx g (oW g qo) A) g A lay (σ, v) (σ', v) 2 := by
  refine e_iw (own := RL) (lo := [(0, .ref (ga g 0)), (1, .int x1), (2, .ref qo)]) hst (plainFor_of_name (by decide)) rfl rfl (Nat.le_of_ble_eq_true rfl) ?_
  intro p e s m args below meth c C K M T
  change JJ _ _ _ _ _ _ _ _ _ _ _ _ _ (LW g A lay ([outc g qo v] ++ cW g lay σ)) _ _ _ _ _
  refine j_aload_n 1 C dL_append_0 2 rfl rfl ?_
  refine j_iconst 2 C dL_append_1 ic_0 rfl ?_
  refine j_aload_n 3 C dL_append_2 0 rfl rfl ?_
  refine j_iload_n 4 C dL_append_3 1 rfl rfl ?_
  refine lk_Xi (wx := cW g) (w0 := [outc g qo v]) (As := [.int x1]) C K (fun A1 => x_X5_append K.2.2.2 g A1 lay h) cp_X5_append (fun A1 => rv_F) mw_860 dL_append_4 rfl rfl (Nat.le_of_ble_eq_true rfl) ⟨Nat.le_of_ble_eq_true rfl, Nat.le_of_ble_eq_true rfl⟩ ⟨Nat.le_of_ble_eq_true rfl, Nat.le_of_ble_eq_true rfl⟩ T [⟨0, 9, 12, 13⟩] ⟨0, 9, 15, 20⟩ [] rfl (fun z hz => by
    simp only [List.mem_cons, List.not_mem_nil, or_false] at hz
    rcases hz with rfl
    · exact Or.inr ⟨by decide, "java/lang/IllegalArgumentException", C.w mw_645, K.2.2.1.2.2.2.2.2.2.2.2.2⟩) (by decide) (by decide) mw_672 (xc_3 K.2.2.1) (fun lay q9 => ?_)
  refine j_astore_n 16 C dL_append_15 (lo' := [(3, .ref q9), (0, .ref (ga g 0)), (1, .int x1), (2, .ref qo)]) (by decide) rfl rfl ?_
  refine j_iconst 17 C dL_append_16 ic_2 rfl ?_
  exact x_i (Wf := Lx g (oW g qo) A) (σ := (σ', v)) (lay := lay) C M dL_append_17
def hh_L_load : List (Nat × Nat × Nat × Nat) := [(0, 8, 11, 13)]
theorem hw_L_load : Cond.codeWith yL_load cL_load 3 (some .int) hh_L_load ∈ AW := mw_868
set_option maxRecDepth 100000 in
theorem w_L_load {l : Launch} (hst : l.stackTraces = false) (g : GG) (A : Nat → Prop) (lay : Nat → Nat) (qo : Nat) {σ σ' : CS} {v : Int64} {r : Int32}  {N0 : Nat} (h : F_X5_load σ N0 = some (σ', .inl r)) : MIw l yL_load cL_load 3 hh_L_load 9 226 (24 * N0) (12288 * N0) [.ref (ga g 0), .ref qo] (Lx g (oW g qo) A) g A lay (σ, v) (σ', r.toInt64) 0 := by
  refine e_iw (own := RL) (lo := [(0, .ref (ga g 0)), (1, .ref qo)]) hst (plainFor_of_name (by decide)) rfl rfl (Nat.le_of_ble_eq_true rfl) ?_
  intro p e s m args below meth c C K M T
  change JJ _ _ _ _ _ _ _ _ _ _ _ _ _ (LW g A lay ([outc g qo v] ++ cW g lay σ)) _ _ _ _ _
  refine j_aload_n 1 C dL_load_0 1 rfl rfl ?_
  refine j_iconst 2 C dL_load_1 ic_0 rfl ?_
  refine j_aload_n 3 C dL_load_2 0 rfl rfl ?_
  refine lk_Vi (wx := cW g) (w0 := [outc g qo v]) (As := []) 6 C K (fun A1 => c_X5_load K.2.2.2 g A1 lay h) cp_X5_load (fun A1 => rv_F) mw_869 dL_load_3 rfl rfl (Nat.le_of_ble_eq_true rfl) ⟨Nat.le_of_ble_eq_true rfl, Nat.le_of_ble_eq_true rfl⟩ ⟨by simp only [rmk]; omega, by simp only [rmk]; omega⟩ rfl (fun lay => ?_)
  refine j_i2l 7 C dL_load_6 rfl ?_
  refine lk_last 8 C K dL_load_7 rfl ?_
  refine j_goto 14 C dL_load_8 (by decide) ?_
  refine j_iconst 15 C dL_load_14 ic_0 rfl ?_
  refine j_widen (k' := 24 * N0) (n' := 12288 * N0) (by omega) (by omega) ?_
  exact x_i (Wf := Lx g (oW g qo) A) (σ := (σ', r.toInt64)) (lay := lay) C M dL_load_15
set_option maxRecDepth 100000 in
theorem w_L_load_2 {l : Launch} (hst : l.stackTraces = false) (g : GG) (A : Nat → Prop) (lay : Nat → Nat) (qo : Nat) {σ σ' : CS} {v : Int64}  {N0 : Nat} (h : F_X5_load σ N0 = some (σ', .inr 2)) : MIw l yL_load cL_load 3 hh_L_load 9 226 1 6 [.ref (ga g 0), .ref qo] (Lx g (oW g qo) A) g A lay (σ, v) (σ', v) 1 := by
  refine e_iw (own := RL) (lo := [(0, .ref (ga g 0)), (1, .ref qo)]) hst (plainFor_of_name (by decide)) rfl rfl (Nat.le_of_ble_eq_true rfl) ?_
  intro p e s m args below meth c C K M T
  change JJ _ _ _ _ _ _ _ _ _ _ _ _ _ (LW g A lay ([outc g qo v] ++ cW g lay σ)) _ _ _ _ _
  refine j_aload_n 1 C dL_load_0 1 rfl rfl ?_
  refine j_iconst 2 C dL_load_1 ic_0 rfl ?_
  refine j_aload_n 3 C dL_load_2 0 rfl rfl ?_
  refine lk_Xi (wx := cW g) (w0 := [outc g qo v]) (As := []) C K (fun A1 => x_X5_load K.2.2.2 g A1 lay h) cp_X5_load (fun A1 => rv_F) mw_869 dL_load_3 rfl rfl (Nat.le_of_ble_eq_true rfl) ⟨Nat.le_of_ble_eq_true rfl, Nat.le_of_ble_eq_true rfl⟩ ⟨Nat.le_of_ble_eq_true rfl, Nat.le_of_ble_eq_true rfl⟩ T [] ⟨0, 8, 11, 13⟩ [] rfl (fun z hz => (List.not_mem_nil hz).elim) (by decide) (by decide) mw_645 (xc_2 K.2.2.1) (fun lay q9 => ?_)
  refine j_astore_n 12 C dL_load_11 (lo' := [(2, .ref q9), (0, .ref (ga g 0)), (1, .ref qo)]) (by decide) rfl rfl ?_
  refine j_iconst 13 C dL_load_12 ic_1 rfl ?_
  exact x_i (Wf := Lx g (oW g qo) A) (σ := (σ', v)) (lay := lay) C M dL_load_13
def hh_L_count : List (Nat × Nat × Nat × Nat) := [(0, 9, 12, 13)]
theorem hw_L_count : Cond.codeWith yL_count cL_count 4 (some .int) hh_L_count ∈ AW := mw_888
set_option maxRecDepth 100000 in
theorem w_L_count {l : Launch} (hst : l.stackTraces = false) (g : GG) (A : Nat → Prop) (lay : Nat → Nat) (qo : Nat) {σ σ' : CS} {v : Int64} {r : Int32} {x1 : Int32} (h : F_X5_count σ x1 = some (σ', .inl r)) : MIw l yL_count cL_count 4 hh_L_count 7 111 (0) (0) [.ref (ga g 0), .int x1, .ref qo] (Lx g (oW g qo) A) g A lay (σ, v) (σ', r.toInt64) 0 := by
  refine e_iw (own := RL) (lo := [(0, .ref (ga g 0)), (1, .int x1), (2, .ref qo)]) hst (plainFor_of_name (by decide)) rfl rfl (Nat.le_of_ble_eq_true rfl) ?_
  intro p e s m args below meth c C K M T
  change JJ _ _ _ _ _ _ _ _ _ _ _ _ _ (LW g A lay ([outc g qo v] ++ cW g lay σ)) _ _ _ _ _
  refine j_aload_n 1 C dL_count_0 2 rfl rfl ?_
  refine j_iconst 2 C dL_count_1 ic_0 rfl ?_
  refine j_aload_n 3 C dL_count_2 0 rfl rfl ?_
  refine j_iload_n 4 C dL_count_3 1 rfl rfl ?_
  refine lk_Vi (wx := cW g) (w0 := [outc g qo v]) (As := [.int x1]) 7 C K (fun A1 => c_X5_count K.2.2.2 g A1 lay h) cp_X5_count (fun A1 => rv_F) mw_889 dL_count_4 rfl rfl (Nat.le_of_ble_eq_true rfl) ⟨Nat.le_of_ble_eq_true rfl, Nat.le_of_ble_eq_true rfl⟩ ⟨Nat.le_of_ble_eq_true rfl, Nat.le_of_ble_eq_true rfl⟩ rfl (fun lay => ?_)
  refine j_i2l 8 C dL_count_7 rfl ?_
  refine lk_last 9 C K dL_count_8 rfl ?_
  refine j_goto 15 C dL_count_9 (by decide) ?_
  refine j_iconst 16 C dL_count_15 ic_0 rfl ?_
  refine j_widen (k' := 0) (n' := 0) (by omega) (by omega) ?_
  exact x_i (Wf := Lx g (oW g qo) A) (σ := (σ', r.toInt64)) (lay := lay) C M dL_count_16
set_option maxRecDepth 100000 in
theorem w_L_count_2 {l : Launch} (hst : l.stackTraces = false) (g : GG) (A : Nat → Prop) (lay : Nat → Nat) (qo : Nat) {σ σ' : CS} {v : Int64} {x1 : Int32} (h : F_X5_count σ x1 = some (σ', .inr 2)) : MIw l yL_count cL_count 4 hh_L_count 7 111 1 6 [.ref (ga g 0), .int x1, .ref qo] (Lx g (oW g qo) A) g A lay (σ, v) (σ', v) 1 := by
  refine e_iw (own := RL) (lo := [(0, .ref (ga g 0)), (1, .int x1), (2, .ref qo)]) hst (plainFor_of_name (by decide)) rfl rfl (Nat.le_of_ble_eq_true rfl) ?_
  intro p e s m args below meth c C K M T
  change JJ _ _ _ _ _ _ _ _ _ _ _ _ _ (LW g A lay ([outc g qo v] ++ cW g lay σ)) _ _ _ _ _
  refine j_aload_n 1 C dL_count_0 2 rfl rfl ?_
  refine j_iconst 2 C dL_count_1 ic_0 rfl ?_
  refine j_aload_n 3 C dL_count_2 0 rfl rfl ?_
  refine j_iload_n 4 C dL_count_3 1 rfl rfl ?_
  refine lk_Xi (wx := cW g) (w0 := [outc g qo v]) (As := [.int x1]) C K (fun A1 => x_X5_count K.2.2.2 g A1 lay h) cp_X5_count (fun A1 => rv_F) mw_889 dL_count_4 rfl rfl (Nat.le_of_ble_eq_true rfl) ⟨Nat.le_of_ble_eq_true rfl, Nat.le_of_ble_eq_true rfl⟩ ⟨Nat.le_of_ble_eq_true rfl, Nat.le_of_ble_eq_true rfl⟩ T [] ⟨0, 9, 12, 13⟩ [] rfl (fun z hz => (List.not_mem_nil hz).elim) (by decide) (by decide) mw_645 (xc_2 K.2.2.1) (fun lay q9 => ?_)
  refine j_astore_n 13 C dL_count_12 (lo' := [(3, .ref q9), (0, .ref (ga g 0)), (1, .int x1), (2, .ref qo)]) (by decide) rfl rfl ?_
  refine j_iconst 14 C dL_count_13 ic_1 rfl ?_
  exact x_i (Wf := Lx g (oW g qo) A) (σ := (σ', v)) (lay := lay) C M dL_count_14
def hh_L_node : List (Nat × Nat × Nat × Nat) := [(0, 10, 13, 18), (0, 10, 17, 13)]
theorem hw_L_node : Cond.codeWith yL_node cL_node 5 (some .int) hh_L_node ∈ AW := mw_892
set_option maxRecDepth 100000 in
theorem w_L_node {l : Launch} (hst : l.stackTraces = false) (g : GG) (A : Nat → Prop) (lay : Nat → Nat) (qo : Nat) {σ σ' : CS} {v : Int64} {r : Int32} {x1 : Int32} {x2 : Int32} (h : F_X5_node σ x1 x2 = some (σ', .inl r)) : MIw l yL_node cL_node 5 hh_L_node 8 134 (0) (0) [.ref (ga g 0), .int x1, .int x2, .ref qo] (Lx g (oW g qo) A) g A lay (σ, v) (σ', r.toInt64) 0 := by
  refine e_iw (own := RL) (lo := [(0, .ref (ga g 0)), (1, .int x1), (2, .int x2), (3, .ref qo)]) hst (plainFor_of_name (by decide)) rfl rfl (Nat.le_of_ble_eq_true rfl) ?_
  intro p e s m args below meth c C K M T
  change JJ _ _ _ _ _ _ _ _ _ _ _ _ _ (LW g A lay ([outc g qo v] ++ cW g lay σ)) _ _ _ _ _
  refine j_aload_n 1 C dL_node_0 3 rfl rfl ?_
  refine j_iconst 2 C dL_node_1 ic_0 rfl ?_
  refine j_aload_n 3 C dL_node_2 0 rfl rfl ?_
  refine j_iload_n 4 C dL_node_3 1 rfl rfl ?_
  refine j_iload_n 5 C dL_node_4 2 rfl rfl ?_
  refine lk_Vi (wx := cW g) (w0 := [outc g qo v]) (As := [.int x1, .int x2]) 8 C K (fun A1 => c_X5_node K.2.2.2 g A1 lay h) cp_X5_node (fun A1 => rv_F) mw_893 dL_node_5 rfl rfl (Nat.le_of_ble_eq_true rfl) ⟨Nat.le_of_ble_eq_true rfl, Nat.le_of_ble_eq_true rfl⟩ ⟨Nat.le_of_ble_eq_true rfl, Nat.le_of_ble_eq_true rfl⟩ rfl (fun lay => ?_)
  refine j_i2l 9 C dL_node_8 rfl ?_
  refine lk_last 10 C K dL_node_9 rfl ?_
  refine j_goto 21 C dL_node_10 (by decide) ?_
  refine j_iconst 22 C dL_node_21 ic_0 rfl ?_
  refine j_widen (k' := 0) (n' := 0) (by omega) (by omega) ?_
  exact x_i (Wf := Lx g (oW g qo) A) (σ := (σ', r.toInt64)) (lay := lay) C M dL_node_22
set_option maxRecDepth 100000 in
theorem w_L_node_1 {l : Launch} (hst : l.stackTraces = false) (g : GG) (A : Nat → Prop) (lay : Nat → Nat) (qo : Nat) {σ σ' : CS} {v : Int64} {x1 : Int32} {x2 : Int32} (h : F_X5_node σ x1 x2 = some (σ', .inr 1)) : MIw l yL_node cL_node 5 hh_L_node 8 134 1 6 [.ref (ga g 0), .int x1, .int x2, .ref qo] (Lx g (oW g qo) A) g A lay (σ, v) (σ', v) 1 := by
  refine e_iw (own := RL) (lo := [(0, .ref (ga g 0)), (1, .int x1), (2, .int x2), (3, .ref qo)]) hst (plainFor_of_name (by decide)) rfl rfl (Nat.le_of_ble_eq_true rfl) ?_
  intro p e s m args below meth c C K M T
  change JJ _ _ _ _ _ _ _ _ _ _ _ _ _ (LW g A lay ([outc g qo v] ++ cW g lay σ)) _ _ _ _ _
  refine j_aload_n 1 C dL_node_0 3 rfl rfl ?_
  refine j_iconst 2 C dL_node_1 ic_0 rfl ?_
  refine j_aload_n 3 C dL_node_2 0 rfl rfl ?_
  refine j_iload_n 4 C dL_node_3 1 rfl rfl ?_
  refine j_iload_n 5 C dL_node_4 2 rfl rfl ?_
  refine lk_Xi (wx := cW g) (w0 := [outc g qo v]) (As := [.int x1, .int x2]) C K (fun A1 => x_X5_node K.2.2.2 g A1 lay h) cp_X5_node (fun A1 => rv_F) mw_893 dL_node_5 rfl rfl (Nat.le_of_ble_eq_true rfl) ⟨Nat.le_of_ble_eq_true rfl, Nat.le_of_ble_eq_true rfl⟩ ⟨Nat.le_of_ble_eq_true rfl, Nat.le_of_ble_eq_true rfl⟩ T [] ⟨0, 10, 13, 18⟩ [⟨0, 10, 17, 13⟩] rfl (fun z hz => (List.not_mem_nil hz).elim) (by decide) (by decide) mw_671 (xc_1 K.2.2.1) (fun lay q9 => ?_)
  refine j_astore 15 C dL_node_13 (lo' := [(4, .ref q9), (0, .ref (ga g 0)), (1, .int x1), (2, .int x2), (3, .ref qo)]) (by decide) rfl rfl ?_
  refine j_iconst 16 C dL_node_15 ic_1 rfl ?_
  exact x_i (Wf := Lx g (oW g qo) A) (σ := (σ', v)) (lay := lay) C M dL_node_16
set_option maxRecDepth 100000 in
theorem w_L_node_2 {l : Launch} (hst : l.stackTraces = false) (g : GG) (A : Nat → Prop) (lay : Nat → Nat) (qo : Nat) {σ σ' : CS} {v : Int64} {x1 : Int32} {x2 : Int32} (h : F_X5_node σ x1 x2 = some (σ', .inr 2)) : MIw l yL_node cL_node 5 hh_L_node 8 134 1 6 [.ref (ga g 0), .int x1, .int x2, .ref qo] (Lx g (oW g qo) A) g A lay (σ, v) (σ', v) 2 := by
  refine e_iw (own := RL) (lo := [(0, .ref (ga g 0)), (1, .int x1), (2, .int x2), (3, .ref qo)]) hst (plainFor_of_name (by decide)) rfl rfl (Nat.le_of_ble_eq_true rfl) ?_
  intro p e s m args below meth c C K M T
  change JJ _ _ _ _ _ _ _ _ _ _ _ _ _ (LW g A lay ([outc g qo v] ++ cW g lay σ)) _ _ _ _ _
  refine j_aload_n 1 C dL_node_0 3 rfl rfl ?_
  refine j_iconst 2 C dL_node_1 ic_0 rfl ?_
  refine j_aload_n 3 C dL_node_2 0 rfl rfl ?_
  refine j_iload_n 4 C dL_node_3 1 rfl rfl ?_
  refine j_iload_n 5 C dL_node_4 2 rfl rfl ?_
  refine lk_Xi (wx := cW g) (w0 := [outc g qo v]) (As := [.int x1, .int x2]) C K (fun A1 => x_X5_node K.2.2.2 g A1 lay h) cp_X5_node (fun A1 => rv_F) mw_893 dL_node_5 rfl rfl (Nat.le_of_ble_eq_true rfl) ⟨Nat.le_of_ble_eq_true rfl, Nat.le_of_ble_eq_true rfl⟩ ⟨Nat.le_of_ble_eq_true rfl, Nat.le_of_ble_eq_true rfl⟩ T [⟨0, 10, 13, 18⟩] ⟨0, 10, 17, 13⟩ [] rfl (fun z hz => by
    simp only [List.mem_cons, List.not_mem_nil, or_false] at hz
    rcases hz with rfl
    · exact Or.inr ⟨by decide, "java/lang/IndexOutOfBoundsException", C.w mw_671, K.2.2.1.2.2.2.2.2.2.2.1⟩) (by decide) (by decide) mw_645 (xc_2 K.2.2.1) (fun lay q9 => ?_)
  refine j_astore 19 C dL_node_17 (lo' := [(4, .ref q9), (0, .ref (ga g 0)), (1, .int x1), (2, .int x2), (3, .ref qo)]) (by decide) rfl rfl ?_
  refine j_iconst 20 C dL_node_19 ic_2 rfl ?_
  exact x_i (Wf := Lx g (oW g qo) A) (σ := (σ', v)) (lay := lay) C M dL_node_20
def hh_L_accepted : List (Nat × Nat × Nat × Nat) := [(0, 12, 15, 18), (0, 12, 19, 13)]
theorem hw_L_accepted : Cond.codeWith yL_accepted cL_accepted 6 (some .int) hh_L_accepted ∈ AW := mw_896
set_option maxRecDepth 100000 in
theorem w_L_accepted {l : Launch} (hst : l.stackTraces = false) (g : GG) (A : Nat → Prop) (lay : Nat → Nat) (qo : Nat) {σ σ' : CS} {v : Int64} {r : Int32} {x1 : Int32} {x2 : Int32} {x3 : Int32} (h : F_X5_accepted σ x1 x2 x3 = some (σ', .inl r)) : MIw l yL_accepted cL_accepted 6 hh_L_accepted 8 135 (0) (0) [.ref (ga g 0), .int x1, .int x2, .int x3, .ref qo] (Lx g (oW g qo) A) g A lay (σ, v) (σ', r.toInt64) 0 := by
  refine e_iw (own := RL) (lo := [(0, .ref (ga g 0)), (1, .int x1), (2, .int x2), (3, .int x3), (4, .ref qo)]) hst (plainFor_of_name (by decide)) rfl rfl (Nat.le_of_ble_eq_true rfl) ?_
  intro p e s m args below meth c C K M T
  change JJ _ _ _ _ _ _ _ _ _ _ _ _ _ (LW g A lay ([outc g qo v] ++ cW g lay σ)) _ _ _ _ _
  refine j_aload 2 C dL_accepted_0 4 rfl rfl ?_
  refine j_iconst 3 C dL_accepted_2 ic_0 rfl ?_
  refine j_aload_n 4 C dL_accepted_3 0 rfl rfl ?_
  refine j_iload_n 5 C dL_accepted_4 1 rfl rfl ?_
  refine j_iload_n 6 C dL_accepted_5 2 rfl rfl ?_
  refine j_iload_n 7 C dL_accepted_6 3 rfl rfl ?_
  refine lk_Vi (wx := cW g) (w0 := [outc g qo v]) (As := [.int x1, .int x2, .int x3]) 10 C K (fun A1 => c_X5_accepted K.2.2.2 g A1 lay h) cp_X5_accepted (fun A1 => rv_F) mw_897 dL_accepted_7 rfl rfl (Nat.le_of_ble_eq_true rfl) ⟨Nat.le_of_ble_eq_true rfl, Nat.le_of_ble_eq_true rfl⟩ ⟨Nat.le_of_ble_eq_true rfl, Nat.le_of_ble_eq_true rfl⟩ rfl (fun lay => ?_)
  refine j_i2l 11 C dL_accepted_10 rfl ?_
  refine lk_last 12 C K dL_accepted_11 rfl ?_
  refine j_goto 23 C dL_accepted_12 (by decide) ?_
  refine j_iconst 24 C dL_accepted_23 ic_0 rfl ?_
  refine j_widen (k' := 0) (n' := 0) (by omega) (by omega) ?_
  exact x_i (Wf := Lx g (oW g qo) A) (σ := (σ', r.toInt64)) (lay := lay) C M dL_accepted_24
set_option maxRecDepth 100000 in
theorem w_L_accepted_1 {l : Launch} (hst : l.stackTraces = false) (g : GG) (A : Nat → Prop) (lay : Nat → Nat) (qo : Nat) {σ σ' : CS} {v : Int64} {x1 : Int32} {x2 : Int32} {x3 : Int32} (h : F_X5_accepted σ x1 x2 x3 = some (σ', .inr 1)) : MIw l yL_accepted cL_accepted 6 hh_L_accepted 8 135 1 6 [.ref (ga g 0), .int x1, .int x2, .int x3, .ref qo] (Lx g (oW g qo) A) g A lay (σ, v) (σ', v) 1 := by
  refine e_iw (own := RL) (lo := [(0, .ref (ga g 0)), (1, .int x1), (2, .int x2), (3, .int x3), (4, .ref qo)]) hst (plainFor_of_name (by decide)) rfl rfl (Nat.le_of_ble_eq_true rfl) ?_
  intro p e s m args below meth c C K M T
  change JJ _ _ _ _ _ _ _ _ _ _ _ _ _ (LW g A lay ([outc g qo v] ++ cW g lay σ)) _ _ _ _ _
  refine j_aload 2 C dL_accepted_0 4 rfl rfl ?_
  refine j_iconst 3 C dL_accepted_2 ic_0 rfl ?_
  refine j_aload_n 4 C dL_accepted_3 0 rfl rfl ?_
  refine j_iload_n 5 C dL_accepted_4 1 rfl rfl ?_
  refine j_iload_n 6 C dL_accepted_5 2 rfl rfl ?_
  refine j_iload_n 7 C dL_accepted_6 3 rfl rfl ?_
  refine lk_Xi (wx := cW g) (w0 := [outc g qo v]) (As := [.int x1, .int x2, .int x3]) C K (fun A1 => x_X5_accepted K.2.2.2 g A1 lay h) cp_X5_accepted (fun A1 => rv_F) mw_897 dL_accepted_7 rfl rfl (Nat.le_of_ble_eq_true rfl) ⟨Nat.le_of_ble_eq_true rfl, Nat.le_of_ble_eq_true rfl⟩ ⟨Nat.le_of_ble_eq_true rfl, Nat.le_of_ble_eq_true rfl⟩ T [] ⟨0, 12, 15, 18⟩ [⟨0, 12, 19, 13⟩] rfl (fun z hz => (List.not_mem_nil hz).elim) (by decide) (by decide) mw_671 (xc_1 K.2.2.1) (fun lay q9 => ?_)
  refine j_astore 17 C dL_accepted_15 (lo' := [(5, .ref q9), (0, .ref (ga g 0)), (1, .int x1), (2, .int x2), (3, .int x3), (4, .ref qo)]) (by decide) rfl rfl ?_
  refine j_iconst 18 C dL_accepted_17 ic_1 rfl ?_
  exact x_i (Wf := Lx g (oW g qo) A) (σ := (σ', v)) (lay := lay) C M dL_accepted_18
set_option maxRecDepth 100000 in
theorem w_L_accepted_2 {l : Launch} (hst : l.stackTraces = false) (g : GG) (A : Nat → Prop) (lay : Nat → Nat) (qo : Nat) {σ σ' : CS} {v : Int64} {x1 : Int32} {x2 : Int32} {x3 : Int32} (h : F_X5_accepted σ x1 x2 x3 = some (σ', .inr 2)) : MIw l yL_accepted cL_accepted 6 hh_L_accepted 8 135 1 6 [.ref (ga g 0), .int x1, .int x2, .int x3, .ref qo] (Lx g (oW g qo) A) g A lay (σ, v) (σ', v) 2 := by
  refine e_iw (own := RL) (lo := [(0, .ref (ga g 0)), (1, .int x1), (2, .int x2), (3, .int x3), (4, .ref qo)]) hst (plainFor_of_name (by decide)) rfl rfl (Nat.le_of_ble_eq_true rfl) ?_
  intro p e s m args below meth c C K M T
  change JJ _ _ _ _ _ _ _ _ _ _ _ _ _ (LW g A lay ([outc g qo v] ++ cW g lay σ)) _ _ _ _ _
  refine j_aload 2 C dL_accepted_0 4 rfl rfl ?_
  refine j_iconst 3 C dL_accepted_2 ic_0 rfl ?_
  refine j_aload_n 4 C dL_accepted_3 0 rfl rfl ?_
  refine j_iload_n 5 C dL_accepted_4 1 rfl rfl ?_
  refine j_iload_n 6 C dL_accepted_5 2 rfl rfl ?_
  refine j_iload_n 7 C dL_accepted_6 3 rfl rfl ?_
  refine lk_Xi (wx := cW g) (w0 := [outc g qo v]) (As := [.int x1, .int x2, .int x3]) C K (fun A1 => x_X5_accepted K.2.2.2 g A1 lay h) cp_X5_accepted (fun A1 => rv_F) mw_897 dL_accepted_7 rfl rfl (Nat.le_of_ble_eq_true rfl) ⟨Nat.le_of_ble_eq_true rfl, Nat.le_of_ble_eq_true rfl⟩ ⟨Nat.le_of_ble_eq_true rfl, Nat.le_of_ble_eq_true rfl⟩ T [⟨0, 12, 15, 18⟩] ⟨0, 12, 19, 13⟩ [] rfl (fun z hz => by
    simp only [List.mem_cons, List.not_mem_nil, or_false] at hz
    rcases hz with rfl
    · exact Or.inr ⟨by decide, "java/lang/IndexOutOfBoundsException", C.w mw_671, K.2.2.1.2.2.2.2.2.2.2.1⟩) (by decide) (by decide) mw_645 (xc_2 K.2.2.1) (fun lay q9 => ?_)
  refine j_astore 21 C dL_accepted_19 (lo' := [(5, .ref q9), (0, .ref (ga g 0)), (1, .int x1), (2, .int x2), (3, .int x3), (4, .ref qo)]) (by decide) rfl rfl ?_
  refine j_iconst 22 C dL_accepted_21 ic_2 rfl ?_
  exact x_i (Wf := Lx g (oW g qo) A) (σ := (σ', v)) (lay := lay) C M dL_accepted_22
def hh_L_waiting : List (Nat × Nat × Nat × Nat) := [(0, 12, 15, 18), (0, 12, 19, 13)]
theorem hw_L_waiting : Cond.codeWith yL_waiting cL_waiting 6 (some .int) hh_L_waiting ∈ AW := mw_900
set_option maxRecDepth 100000 in
theorem w_L_waiting {l : Launch} (hst : l.stackTraces = false) (g : GG) (A : Nat → Prop) (lay : Nat → Nat) (qo : Nat) {σ σ' : CS} {v : Int64} {r : Int32} {x1 : Int32} {x2 : Int32} {x3 : Int32} (h : F_X5_waiting σ x1 x2 x3 = some (σ', .inl r)) : MIw l yL_waiting cL_waiting 6 hh_L_waiting 8 135 (0) (0) [.ref (ga g 0), .int x1, .int x2, .int x3, .ref qo] (Lx g (oW g qo) A) g A lay (σ, v) (σ', r.toInt64) 0 := by
  refine e_iw (own := RL) (lo := [(0, .ref (ga g 0)), (1, .int x1), (2, .int x2), (3, .int x3), (4, .ref qo)]) hst (plainFor_of_name (by decide)) rfl rfl (Nat.le_of_ble_eq_true rfl) ?_
  intro p e s m args below meth c C K M T
  change JJ _ _ _ _ _ _ _ _ _ _ _ _ _ (LW g A lay ([outc g qo v] ++ cW g lay σ)) _ _ _ _ _
  refine j_aload 2 C dL_waiting_0 4 rfl rfl ?_
  refine j_iconst 3 C dL_waiting_2 ic_0 rfl ?_
  refine j_aload_n 4 C dL_waiting_3 0 rfl rfl ?_
  refine j_iload_n 5 C dL_waiting_4 1 rfl rfl ?_
  refine j_iload_n 6 C dL_waiting_5 2 rfl rfl ?_
  refine j_iload_n 7 C dL_waiting_6 3 rfl rfl ?_
  refine lk_Vi (wx := cW g) (w0 := [outc g qo v]) (As := [.int x1, .int x2, .int x3]) 10 C K (fun A1 => c_X5_waiting K.2.2.2 g A1 lay h) cp_X5_waiting (fun A1 => rv_F) mw_901 dL_waiting_7 rfl rfl (Nat.le_of_ble_eq_true rfl) ⟨Nat.le_of_ble_eq_true rfl, Nat.le_of_ble_eq_true rfl⟩ ⟨Nat.le_of_ble_eq_true rfl, Nat.le_of_ble_eq_true rfl⟩ rfl (fun lay => ?_)
  refine j_i2l 11 C dL_waiting_10 rfl ?_
  refine lk_last 12 C K dL_waiting_11 rfl ?_
  refine j_goto 23 C dL_waiting_12 (by decide) ?_
  refine j_iconst 24 C dL_waiting_23 ic_0 rfl ?_
  refine j_widen (k' := 0) (n' := 0) (by omega) (by omega) ?_
  exact x_i (Wf := Lx g (oW g qo) A) (σ := (σ', r.toInt64)) (lay := lay) C M dL_waiting_24
set_option maxRecDepth 100000 in
theorem w_L_waiting_1 {l : Launch} (hst : l.stackTraces = false) (g : GG) (A : Nat → Prop) (lay : Nat → Nat) (qo : Nat) {σ σ' : CS} {v : Int64} {x1 : Int32} {x2 : Int32} {x3 : Int32} (h : F_X5_waiting σ x1 x2 x3 = some (σ', .inr 1)) : MIw l yL_waiting cL_waiting 6 hh_L_waiting 8 135 1 6 [.ref (ga g 0), .int x1, .int x2, .int x3, .ref qo] (Lx g (oW g qo) A) g A lay (σ, v) (σ', v) 1 := by
  refine e_iw (own := RL) (lo := [(0, .ref (ga g 0)), (1, .int x1), (2, .int x2), (3, .int x3), (4, .ref qo)]) hst (plainFor_of_name (by decide)) rfl rfl (Nat.le_of_ble_eq_true rfl) ?_
  intro p e s m args below meth c C K M T
  change JJ _ _ _ _ _ _ _ _ _ _ _ _ _ (LW g A lay ([outc g qo v] ++ cW g lay σ)) _ _ _ _ _
  refine j_aload 2 C dL_waiting_0 4 rfl rfl ?_
  refine j_iconst 3 C dL_waiting_2 ic_0 rfl ?_
  refine j_aload_n 4 C dL_waiting_3 0 rfl rfl ?_
  refine j_iload_n 5 C dL_waiting_4 1 rfl rfl ?_
  refine j_iload_n 6 C dL_waiting_5 2 rfl rfl ?_
  refine j_iload_n 7 C dL_waiting_6 3 rfl rfl ?_
  refine lk_Xi (wx := cW g) (w0 := [outc g qo v]) (As := [.int x1, .int x2, .int x3]) C K (fun A1 => x_X5_waiting K.2.2.2 g A1 lay h) cp_X5_waiting (fun A1 => rv_F) mw_901 dL_waiting_7 rfl rfl (Nat.le_of_ble_eq_true rfl) ⟨Nat.le_of_ble_eq_true rfl, Nat.le_of_ble_eq_true rfl⟩ ⟨Nat.le_of_ble_eq_true rfl, Nat.le_of_ble_eq_true rfl⟩ T [] ⟨0, 12, 15, 18⟩ [⟨0, 12, 19, 13⟩] rfl (fun z hz => (List.not_mem_nil hz).elim) (by decide) (by decide) mw_671 (xc_1 K.2.2.1) (fun lay q9 => ?_)
  refine j_astore 17 C dL_waiting_15 (lo' := [(5, .ref q9), (0, .ref (ga g 0)), (1, .int x1), (2, .int x2), (3, .int x3), (4, .ref qo)]) (by decide) rfl rfl ?_
  refine j_iconst 18 C dL_waiting_17 ic_1 rfl ?_
  exact x_i (Wf := Lx g (oW g qo) A) (σ := (σ', v)) (lay := lay) C M dL_waiting_18
set_option maxRecDepth 100000 in
theorem w_L_waiting_2 {l : Launch} (hst : l.stackTraces = false) (g : GG) (A : Nat → Prop) (lay : Nat → Nat) (qo : Nat) {σ σ' : CS} {v : Int64} {x1 : Int32} {x2 : Int32} {x3 : Int32} (h : F_X5_waiting σ x1 x2 x3 = some (σ', .inr 2)) : MIw l yL_waiting cL_waiting 6 hh_L_waiting 8 135 1 6 [.ref (ga g 0), .int x1, .int x2, .int x3, .ref qo] (Lx g (oW g qo) A) g A lay (σ, v) (σ', v) 2 := by
  refine e_iw (own := RL) (lo := [(0, .ref (ga g 0)), (1, .int x1), (2, .int x2), (3, .int x3), (4, .ref qo)]) hst (plainFor_of_name (by decide)) rfl rfl (Nat.le_of_ble_eq_true rfl) ?_
  intro p e s m args below meth c C K M T
  change JJ _ _ _ _ _ _ _ _ _ _ _ _ _ (LW g A lay ([outc g qo v] ++ cW g lay σ)) _ _ _ _ _
  refine j_aload 2 C dL_waiting_0 4 rfl rfl ?_
  refine j_iconst 3 C dL_waiting_2 ic_0 rfl ?_
  refine j_aload_n 4 C dL_waiting_3 0 rfl rfl ?_
  refine j_iload_n 5 C dL_waiting_4 1 rfl rfl ?_
  refine j_iload_n 6 C dL_waiting_5 2 rfl rfl ?_
  refine j_iload_n 7 C dL_waiting_6 3 rfl rfl ?_
  refine lk_Xi (wx := cW g) (w0 := [outc g qo v]) (As := [.int x1, .int x2, .int x3]) C K (fun A1 => x_X5_waiting K.2.2.2 g A1 lay h) cp_X5_waiting (fun A1 => rv_F) mw_901 dL_waiting_7 rfl rfl (Nat.le_of_ble_eq_true rfl) ⟨Nat.le_of_ble_eq_true rfl, Nat.le_of_ble_eq_true rfl⟩ ⟨Nat.le_of_ble_eq_true rfl, Nat.le_of_ble_eq_true rfl⟩ T [⟨0, 12, 15, 18⟩] ⟨0, 12, 19, 13⟩ [] rfl (fun z hz => by
    simp only [List.mem_cons, List.not_mem_nil, or_false] at hz
    rcases hz with rfl
    · exact Or.inr ⟨by decide, "java/lang/IndexOutOfBoundsException", C.w mw_671, K.2.2.1.2.2.2.2.2.2.2.1⟩) (by decide) (by decide) mw_645 (xc_2 K.2.2.1) (fun lay q9 => ?_)
  refine j_astore 21 C dL_waiting_19 (lo' := [(5, .ref q9), (0, .ref (ga g 0)), (1, .int x1), (2, .int x2), (3, .int x3), (4, .ref qo)]) (by decide) rfl rfl ?_
  refine j_iconst 22 C dL_waiting_21 ic_2 rfl ?_
  exact x_i (Wf := Lx g (oW g qo) A) (σ := (σ', v)) (lay := lay) C M dL_waiting_22
def hh_L_slot : List (Nat × Nat × Nat × Nat) := [(0, 10, 13, 18), (0, 10, 17, 13)]
theorem hw_L_slot : Cond.codeWith yL_slot cL_slot 5 (some .int) hh_L_slot ∈ AW := mw_904
set_option maxRecDepth 100000 in
theorem w_L_slot {l : Launch} (hst : l.stackTraces = false) (g : GG) (A : Nat → Prop) (lay : Nat → Nat) (qo : Nat) {σ σ' : CS} {v : Int64} {r : Int32} {x1 : Int32} {x2 : Int32} (h : F_X5_slot σ x1 x2 = some (σ', .inl r)) : MIw l yL_slot cL_slot 5 hh_L_slot 8 134 (0) (0) [.ref (ga g 0), .int x1, .int x2, .ref qo] (Lx g (oW g qo) A) g A lay (σ, v) (σ', r.toInt64) 0 := by
  refine e_iw (own := RL) (lo := [(0, .ref (ga g 0)), (1, .int x1), (2, .int x2), (3, .ref qo)]) hst (plainFor_of_name (by decide)) rfl rfl (Nat.le_of_ble_eq_true rfl) ?_
  intro p e s m args below meth c C K M T
  change JJ _ _ _ _ _ _ _ _ _ _ _ _ _ (LW g A lay ([outc g qo v] ++ cW g lay σ)) _ _ _ _ _
  refine j_aload_n 1 C dL_slot_0 3 rfl rfl ?_
  refine j_iconst 2 C dL_slot_1 ic_0 rfl ?_
  refine j_aload_n 3 C dL_slot_2 0 rfl rfl ?_
  refine j_iload_n 4 C dL_slot_3 1 rfl rfl ?_
  refine j_iload_n 5 C dL_slot_4 2 rfl rfl ?_
  refine lk_Vi (wx := cW g) (w0 := [outc g qo v]) (As := [.int x1, .int x2]) 8 C K (fun A1 => c_X5_slot K.2.2.2 g A1 lay h) cp_X5_slot (fun A1 => rv_F) mw_905 dL_slot_5 rfl rfl (Nat.le_of_ble_eq_true rfl) ⟨Nat.le_of_ble_eq_true rfl, Nat.le_of_ble_eq_true rfl⟩ ⟨Nat.le_of_ble_eq_true rfl, Nat.le_of_ble_eq_true rfl⟩ rfl (fun lay => ?_)
  refine j_i2l 9 C dL_slot_8 rfl ?_
  refine lk_last 10 C K dL_slot_9 rfl ?_
  refine j_goto 21 C dL_slot_10 (by decide) ?_
  refine j_iconst 22 C dL_slot_21 ic_0 rfl ?_
  refine j_widen (k' := 0) (n' := 0) (by omega) (by omega) ?_
  exact x_i (Wf := Lx g (oW g qo) A) (σ := (σ', r.toInt64)) (lay := lay) C M dL_slot_22
set_option maxRecDepth 100000 in
theorem w_L_slot_1 {l : Launch} (hst : l.stackTraces = false) (g : GG) (A : Nat → Prop) (lay : Nat → Nat) (qo : Nat) {σ σ' : CS} {v : Int64} {x1 : Int32} {x2 : Int32} (h : F_X5_slot σ x1 x2 = some (σ', .inr 1)) : MIw l yL_slot cL_slot 5 hh_L_slot 8 134 1 6 [.ref (ga g 0), .int x1, .int x2, .ref qo] (Lx g (oW g qo) A) g A lay (σ, v) (σ', v) 1 := by
  refine e_iw (own := RL) (lo := [(0, .ref (ga g 0)), (1, .int x1), (2, .int x2), (3, .ref qo)]) hst (plainFor_of_name (by decide)) rfl rfl (Nat.le_of_ble_eq_true rfl) ?_
  intro p e s m args below meth c C K M T
  change JJ _ _ _ _ _ _ _ _ _ _ _ _ _ (LW g A lay ([outc g qo v] ++ cW g lay σ)) _ _ _ _ _
  refine j_aload_n 1 C dL_slot_0 3 rfl rfl ?_
  refine j_iconst 2 C dL_slot_1 ic_0 rfl ?_
  refine j_aload_n 3 C dL_slot_2 0 rfl rfl ?_
  refine j_iload_n 4 C dL_slot_3 1 rfl rfl ?_
  refine j_iload_n 5 C dL_slot_4 2 rfl rfl ?_
  refine lk_Xi (wx := cW g) (w0 := [outc g qo v]) (As := [.int x1, .int x2]) C K (fun A1 => x_X5_slot K.2.2.2 g A1 lay h) cp_X5_slot (fun A1 => rv_F) mw_905 dL_slot_5 rfl rfl (Nat.le_of_ble_eq_true rfl) ⟨Nat.le_of_ble_eq_true rfl, Nat.le_of_ble_eq_true rfl⟩ ⟨Nat.le_of_ble_eq_true rfl, Nat.le_of_ble_eq_true rfl⟩ T [] ⟨0, 10, 13, 18⟩ [⟨0, 10, 17, 13⟩] rfl (fun z hz => (List.not_mem_nil hz).elim) (by decide) (by decide) mw_671 (xc_1 K.2.2.1) (fun lay q9 => ?_)
  refine j_astore 15 C dL_slot_13 (lo' := [(4, .ref q9), (0, .ref (ga g 0)), (1, .int x1), (2, .int x2), (3, .ref qo)]) (by decide) rfl rfl ?_
  refine j_iconst 16 C dL_slot_15 ic_1 rfl ?_
  exact x_i (Wf := Lx g (oW g qo) A) (σ := (σ', v)) (lay := lay) C M dL_slot_16
set_option maxRecDepth 100000 in
theorem w_L_slot_2 {l : Launch} (hst : l.stackTraces = false) (g : GG) (A : Nat → Prop) (lay : Nat → Nat) (qo : Nat) {σ σ' : CS} {v : Int64} {x1 : Int32} {x2 : Int32} (h : F_X5_slot σ x1 x2 = some (σ', .inr 2)) : MIw l yL_slot cL_slot 5 hh_L_slot 8 134 1 6 [.ref (ga g 0), .int x1, .int x2, .ref qo] (Lx g (oW g qo) A) g A lay (σ, v) (σ', v) 2 := by
  refine e_iw (own := RL) (lo := [(0, .ref (ga g 0)), (1, .int x1), (2, .int x2), (3, .ref qo)]) hst (plainFor_of_name (by decide)) rfl rfl (Nat.le_of_ble_eq_true rfl) ?_
  intro p e s m args below meth c C K M T
  change JJ _ _ _ _ _ _ _ _ _ _ _ _ _ (LW g A lay ([outc g qo v] ++ cW g lay σ)) _ _ _ _ _
  refine j_aload_n 1 C dL_slot_0 3 rfl rfl ?_
  refine j_iconst 2 C dL_slot_1 ic_0 rfl ?_
  refine j_aload_n 3 C dL_slot_2 0 rfl rfl ?_
  refine j_iload_n 4 C dL_slot_3 1 rfl rfl ?_
  refine j_iload_n 5 C dL_slot_4 2 rfl rfl ?_
  refine lk_Xi (wx := cW g) (w0 := [outc g qo v]) (As := [.int x1, .int x2]) C K (fun A1 => x_X5_slot K.2.2.2 g A1 lay h) cp_X5_slot (fun A1 => rv_F) mw_905 dL_slot_5 rfl rfl (Nat.le_of_ble_eq_true rfl) ⟨Nat.le_of_ble_eq_true rfl, Nat.le_of_ble_eq_true rfl⟩ ⟨Nat.le_of_ble_eq_true rfl, Nat.le_of_ble_eq_true rfl⟩ T [⟨0, 10, 13, 18⟩] ⟨0, 10, 17, 13⟩ [] rfl (fun z hz => by
    simp only [List.mem_cons, List.not_mem_nil, or_false] at hz
    rcases hz with rfl
    · exact Or.inr ⟨by decide, "java/lang/IndexOutOfBoundsException", C.w mw_671, K.2.2.1.2.2.2.2.2.2.2.1⟩) (by decide) (by decide) mw_645 (xc_2 K.2.2.1) (fun lay q9 => ?_)
  refine j_astore 19 C dL_slot_17 (lo' := [(4, .ref q9), (0, .ref (ga g 0)), (1, .int x1), (2, .int x2), (3, .ref qo)]) (by decide) rfl rfl ?_
  refine j_iconst 20 C dL_slot_19 ic_2 rfl ?_
  exact x_i (Wf := Lx g (oW g qo) A) (σ := (σ', v)) (lay := lay) C M dL_slot_20
def hh_L_roundValue : List (Nat × Nat × Nat × Nat) := [(0, 10, 13, 18), (0, 10, 17, 20)]
theorem hw_L_roundValue : Cond.codeWith yL_roundValue cL_roundValue 5 (some .int) hh_L_roundValue ∈ AW := mw_908
set_option maxRecDepth 100000 in
theorem w_L_roundValue {l : Launch} (hst : l.stackTraces = false) (g : GG) (A : Nat → Prop) (lay : Nat → Nat) (qo : Nat) {σ σ' : CS} {v : Int64} {r : Int32} {x1 : Int32} {x2 : Int32} (h : F_X5_roundValue σ x1 x2 = some (σ', .inl r)) : MIw l yL_roundValue cL_roundValue 5 hh_L_roundValue 8 133 (0) (0) [.ref (ga g 0), .int x1, .int x2, .ref qo] (Lx g (oW g qo) A) g A lay (σ, v) (σ', r.toInt64) 0 := by
  refine e_iw (own := RL) (lo := [(0, .ref (ga g 0)), (1, .int x1), (2, .int x2), (3, .ref qo)]) hst (plainFor_of_name (by decide)) rfl rfl (Nat.le_of_ble_eq_true rfl) ?_
  intro p e s m args below meth c C K M T
  change JJ _ _ _ _ _ _ _ _ _ _ _ _ _ (LW g A lay ([outc g qo v] ++ cW g lay σ)) _ _ _ _ _
  refine j_aload_n 1 C dL_roundValue_0 3 rfl rfl ?_
  refine j_iconst 2 C dL_roundValue_1 ic_0 rfl ?_
  refine j_aload_n 3 C dL_roundValue_2 0 rfl rfl ?_
  refine j_iload_n 4 C dL_roundValue_3 1 rfl rfl ?_
  refine j_iload_n 5 C dL_roundValue_4 2 rfl rfl ?_
  refine lk_Vi (wx := cW g) (w0 := [outc g qo v]) (As := [.int x1, .int x2]) 8 C K (fun A1 => c_X5_roundValue K.2.2.2 g A1 lay h) cp_X5_roundValue (fun A1 => rv_F) mw_909 dL_roundValue_5 rfl rfl (Nat.le_of_ble_eq_true rfl) ⟨Nat.le_of_ble_eq_true rfl, Nat.le_of_ble_eq_true rfl⟩ ⟨Nat.le_of_ble_eq_true rfl, Nat.le_of_ble_eq_true rfl⟩ rfl (fun lay => ?_)
  refine j_i2l 9 C dL_roundValue_8 rfl ?_
  refine lk_last 10 C K dL_roundValue_9 rfl ?_
  refine j_goto 21 C dL_roundValue_10 (by decide) ?_
  refine j_iconst 22 C dL_roundValue_21 ic_0 rfl ?_
  refine j_widen (k' := 0) (n' := 0) (by omega) (by omega) ?_
  exact x_i (Wf := Lx g (oW g qo) A) (σ := (σ', r.toInt64)) (lay := lay) C M dL_roundValue_22
set_option maxRecDepth 100000 in
theorem w_L_roundValue_1 {l : Launch} (hst : l.stackTraces = false) (g : GG) (A : Nat → Prop) (lay : Nat → Nat) (qo : Nat) {σ σ' : CS} {v : Int64} {x1 : Int32} {x2 : Int32} (h : F_X5_roundValue σ x1 x2 = some (σ', .inr 1)) : MIw l yL_roundValue cL_roundValue 5 hh_L_roundValue 8 133 1 6 [.ref (ga g 0), .int x1, .int x2, .ref qo] (Lx g (oW g qo) A) g A lay (σ, v) (σ', v) 1 := by
  refine e_iw (own := RL) (lo := [(0, .ref (ga g 0)), (1, .int x1), (2, .int x2), (3, .ref qo)]) hst (plainFor_of_name (by decide)) rfl rfl (Nat.le_of_ble_eq_true rfl) ?_
  intro p e s m args below meth c C K M T
  change JJ _ _ _ _ _ _ _ _ _ _ _ _ _ (LW g A lay ([outc g qo v] ++ cW g lay σ)) _ _ _ _ _
  refine j_aload_n 1 C dL_roundValue_0 3 rfl rfl ?_
  refine j_iconst 2 C dL_roundValue_1 ic_0 rfl ?_
  refine j_aload_n 3 C dL_roundValue_2 0 rfl rfl ?_
  refine j_iload_n 4 C dL_roundValue_3 1 rfl rfl ?_
  refine j_iload_n 5 C dL_roundValue_4 2 rfl rfl ?_
  refine lk_Xi (wx := cW g) (w0 := [outc g qo v]) (As := [.int x1, .int x2]) C K (fun A1 => x_X5_roundValue K.2.2.2 g A1 lay h) cp_X5_roundValue (fun A1 => rv_F) mw_909 dL_roundValue_5 rfl rfl (Nat.le_of_ble_eq_true rfl) ⟨Nat.le_of_ble_eq_true rfl, Nat.le_of_ble_eq_true rfl⟩ ⟨Nat.le_of_ble_eq_true rfl, Nat.le_of_ble_eq_true rfl⟩ T [] ⟨0, 10, 13, 18⟩ [⟨0, 10, 17, 20⟩] rfl (fun z hz => (List.not_mem_nil hz).elim) (by decide) (by decide) mw_671 (xc_1 K.2.2.1) (fun lay q9 => ?_)
  refine j_astore 15 C dL_roundValue_13 (lo' := [(4, .ref q9), (0, .ref (ga g 0)), (1, .int x1), (2, .int x2), (3, .ref qo)]) (by decide) rfl rfl ?_
  refine j_iconst 16 C dL_roundValue_15 ic_1 rfl ?_
  exact x_i (Wf := Lx g (oW g qo) A) (σ := (σ', v)) (lay := lay) C M dL_roundValue_16
set_option maxRecDepth 100000 in
theorem w_L_roundValue_3 {l : Launch} (hst : l.stackTraces = false) (g : GG) (A : Nat → Prop) (lay : Nat → Nat) (qo : Nat) {σ σ' : CS} {v : Int64} {x1 : Int32} {x2 : Int32} (h : F_X5_roundValue σ x1 x2 = some (σ', .inr 3)) : MIw l yL_roundValue cL_roundValue 5 hh_L_roundValue 8 133 1 6 [.ref (ga g 0), .int x1, .int x2, .ref qo] (Lx g (oW g qo) A) g A lay (σ, v) (σ', v) 2 := by
  refine e_iw (own := RL) (lo := [(0, .ref (ga g 0)), (1, .int x1), (2, .int x2), (3, .ref qo)]) hst (plainFor_of_name (by decide)) rfl rfl (Nat.le_of_ble_eq_true rfl) ?_
  intro p e s m args below meth c C K M T
  change JJ _ _ _ _ _ _ _ _ _ _ _ _ _ (LW g A lay ([outc g qo v] ++ cW g lay σ)) _ _ _ _ _
  refine j_aload_n 1 C dL_roundValue_0 3 rfl rfl ?_
  refine j_iconst 2 C dL_roundValue_1 ic_0 rfl ?_
  refine j_aload_n 3 C dL_roundValue_2 0 rfl rfl ?_
  refine j_iload_n 4 C dL_roundValue_3 1 rfl rfl ?_
  refine j_iload_n 5 C dL_roundValue_4 2 rfl rfl ?_
  refine lk_Xi (wx := cW g) (w0 := [outc g qo v]) (As := [.int x1, .int x2]) C K (fun A1 => x_X5_roundValue K.2.2.2 g A1 lay h) cp_X5_roundValue (fun A1 => rv_F) mw_909 dL_roundValue_5 rfl rfl (Nat.le_of_ble_eq_true rfl) ⟨Nat.le_of_ble_eq_true rfl, Nat.le_of_ble_eq_true rfl⟩ ⟨Nat.le_of_ble_eq_true rfl, Nat.le_of_ble_eq_true rfl⟩ T [⟨0, 10, 13, 18⟩] ⟨0, 10, 17, 20⟩ [] rfl (fun z hz => by
    simp only [List.mem_cons, List.not_mem_nil, or_false] at hz
    rcases hz with rfl
    · exact Or.inr ⟨by decide, "java/lang/IndexOutOfBoundsException", C.w mw_671, K.2.2.1.2.2.2.2.2.2.2.2.1⟩) (by decide) (by decide) mw_672 (xc_3 K.2.2.1) (fun lay q9 => ?_)
  refine j_astore 19 C dL_roundValue_17 (lo' := [(4, .ref q9), (0, .ref (ga g 0)), (1, .int x1), (2, .int x2), (3, .ref qo)]) (by decide) rfl rfl ?_
  refine j_iconst 20 C dL_roundValue_19 ic_2 rfl ?_
  exact x_i (Wf := Lx g (oW g qo) A) (σ := (σ', v)) (lay := lay) C M dL_roundValue_20
def hh_L_ifCrashed : List (Nat × Nat × Nat × Nat) := [(0, 12, 15, 18), (0, 12, 19, 13)]
theorem hw_L_ifCrashed : Cond.codeWith yL_ifCrashed cL_ifCrashed 6 (some .int) hh_L_ifCrashed ∈ AW := mw_912
set_option maxRecDepth 100000 in
theorem w_L_ifCrashed {l : Launch} (hst : l.stackTraces = false) (g : GG) (A : Nat → Prop) (lay : Nat → Nat) (qo : Nat) {σ σ' : CS} {v : Int64} {r : Int32} {x1 : Int32} {x2 : Int32} {x3 : Int32} (h : F_X5_ifCrashed σ x1 x2 x3 = some (σ', .inl r)) : MIw l yL_ifCrashed cL_ifCrashed 6 hh_L_ifCrashed 8 134 (0) (0) [.ref (ga g 0), .int x1, .int x2, .int x3, .ref qo] (Lx g (oW g qo) A) g A lay (σ, v) (σ', r.toInt64) 0 := by
  refine e_iw (own := RL) (lo := [(0, .ref (ga g 0)), (1, .int x1), (2, .int x2), (3, .int x3), (4, .ref qo)]) hst (plainFor_of_name (by decide)) rfl rfl (Nat.le_of_ble_eq_true rfl) ?_
  intro p e s m args below meth c C K M T
  change JJ _ _ _ _ _ _ _ _ _ _ _ _ _ (LW g A lay ([outc g qo v] ++ cW g lay σ)) _ _ _ _ _
  refine j_aload 2 C dL_ifCrashed_0 4 rfl rfl ?_
  refine j_iconst 3 C dL_ifCrashed_2 ic_0 rfl ?_
  refine j_aload_n 4 C dL_ifCrashed_3 0 rfl rfl ?_
  refine j_iload_n 5 C dL_ifCrashed_4 1 rfl rfl ?_
  refine j_iload_n 6 C dL_ifCrashed_5 2 rfl rfl ?_
  refine j_iload_n 7 C dL_ifCrashed_6 3 rfl rfl ?_
  refine lk_Vi (wx := cW g) (w0 := [outc g qo v]) (As := [.int x1, .int x2, .int x3]) 10 C K (fun A1 => c_X5_ifCrashed K.2.2.2 g A1 lay h) cp_X5_ifCrashed (fun A1 => rv_F) mw_913 dL_ifCrashed_7 rfl rfl (Nat.le_of_ble_eq_true rfl) ⟨Nat.le_of_ble_eq_true rfl, Nat.le_of_ble_eq_true rfl⟩ ⟨Nat.le_of_ble_eq_true rfl, Nat.le_of_ble_eq_true rfl⟩ rfl (fun lay => ?_)
  refine j_i2l 11 C dL_ifCrashed_10 rfl ?_
  refine lk_last 12 C K dL_ifCrashed_11 rfl ?_
  refine j_goto 23 C dL_ifCrashed_12 (by decide) ?_
  refine j_iconst 24 C dL_ifCrashed_23 ic_0 rfl ?_
  refine j_widen (k' := 0) (n' := 0) (by omega) (by omega) ?_
  exact x_i (Wf := Lx g (oW g qo) A) (σ := (σ', r.toInt64)) (lay := lay) C M dL_ifCrashed_24
set_option maxRecDepth 100000 in
theorem w_L_ifCrashed_1 {l : Launch} (hst : l.stackTraces = false) (g : GG) (A : Nat → Prop) (lay : Nat → Nat) (qo : Nat) {σ σ' : CS} {v : Int64} {x1 : Int32} {x2 : Int32} {x3 : Int32} (h : F_X5_ifCrashed σ x1 x2 x3 = some (σ', .inr 1)) : MIw l yL_ifCrashed cL_ifCrashed 6 hh_L_ifCrashed 8 134 1 6 [.ref (ga g 0), .int x1, .int x2, .int x3, .ref qo] (Lx g (oW g qo) A) g A lay (σ, v) (σ', v) 1 := by
  refine e_iw (own := RL) (lo := [(0, .ref (ga g 0)), (1, .int x1), (2, .int x2), (3, .int x3), (4, .ref qo)]) hst (plainFor_of_name (by decide)) rfl rfl (Nat.le_of_ble_eq_true rfl) ?_
  intro p e s m args below meth c C K M T
  change JJ _ _ _ _ _ _ _ _ _ _ _ _ _ (LW g A lay ([outc g qo v] ++ cW g lay σ)) _ _ _ _ _
  refine j_aload 2 C dL_ifCrashed_0 4 rfl rfl ?_
  refine j_iconst 3 C dL_ifCrashed_2 ic_0 rfl ?_
  refine j_aload_n 4 C dL_ifCrashed_3 0 rfl rfl ?_
  refine j_iload_n 5 C dL_ifCrashed_4 1 rfl rfl ?_
  refine j_iload_n 6 C dL_ifCrashed_5 2 rfl rfl ?_
  refine j_iload_n 7 C dL_ifCrashed_6 3 rfl rfl ?_
  refine lk_Xi (wx := cW g) (w0 := [outc g qo v]) (As := [.int x1, .int x2, .int x3]) C K (fun A1 => x_X5_ifCrashed K.2.2.2 g A1 lay h) cp_X5_ifCrashed (fun A1 => rv_F) mw_913 dL_ifCrashed_7 rfl rfl (Nat.le_of_ble_eq_true rfl) ⟨Nat.le_of_ble_eq_true rfl, Nat.le_of_ble_eq_true rfl⟩ ⟨Nat.le_of_ble_eq_true rfl, Nat.le_of_ble_eq_true rfl⟩ T [] ⟨0, 12, 15, 18⟩ [⟨0, 12, 19, 13⟩] rfl (fun z hz => (List.not_mem_nil hz).elim) (by decide) (by decide) mw_671 (xc_1 K.2.2.1) (fun lay q9 => ?_)
  refine j_astore 17 C dL_ifCrashed_15 (lo' := [(5, .ref q9), (0, .ref (ga g 0)), (1, .int x1), (2, .int x2), (3, .int x3), (4, .ref qo)]) (by decide) rfl rfl ?_
  refine j_iconst 18 C dL_ifCrashed_17 ic_1 rfl ?_
  exact x_i (Wf := Lx g (oW g qo) A) (σ := (σ', v)) (lay := lay) C M dL_ifCrashed_18
set_option maxRecDepth 100000 in
theorem w_L_ifCrashed_2 {l : Launch} (hst : l.stackTraces = false) (g : GG) (A : Nat → Prop) (lay : Nat → Nat) (qo : Nat) {σ σ' : CS} {v : Int64} {x1 : Int32} {x2 : Int32} {x3 : Int32} (h : F_X5_ifCrashed σ x1 x2 x3 = some (σ', .inr 2)) : MIw l yL_ifCrashed cL_ifCrashed 6 hh_L_ifCrashed 8 134 1 6 [.ref (ga g 0), .int x1, .int x2, .int x3, .ref qo] (Lx g (oW g qo) A) g A lay (σ, v) (σ', v) 2 := by
  refine e_iw (own := RL) (lo := [(0, .ref (ga g 0)), (1, .int x1), (2, .int x2), (3, .int x3), (4, .ref qo)]) hst (plainFor_of_name (by decide)) rfl rfl (Nat.le_of_ble_eq_true rfl) ?_
  intro p e s m args below meth c C K M T
  change JJ _ _ _ _ _ _ _ _ _ _ _ _ _ (LW g A lay ([outc g qo v] ++ cW g lay σ)) _ _ _ _ _
  refine j_aload 2 C dL_ifCrashed_0 4 rfl rfl ?_
  refine j_iconst 3 C dL_ifCrashed_2 ic_0 rfl ?_
  refine j_aload_n 4 C dL_ifCrashed_3 0 rfl rfl ?_
  refine j_iload_n 5 C dL_ifCrashed_4 1 rfl rfl ?_
  refine j_iload_n 6 C dL_ifCrashed_5 2 rfl rfl ?_
  refine j_iload_n 7 C dL_ifCrashed_6 3 rfl rfl ?_
  refine lk_Xi (wx := cW g) (w0 := [outc g qo v]) (As := [.int x1, .int x2, .int x3]) C K (fun A1 => x_X5_ifCrashed K.2.2.2 g A1 lay h) cp_X5_ifCrashed (fun A1 => rv_F) mw_913 dL_ifCrashed_7 rfl rfl (Nat.le_of_ble_eq_true rfl) ⟨Nat.le_of_ble_eq_true rfl, Nat.le_of_ble_eq_true rfl⟩ ⟨Nat.le_of_ble_eq_true rfl, Nat.le_of_ble_eq_true rfl⟩ T [⟨0, 12, 15, 18⟩] ⟨0, 12, 19, 13⟩ [] rfl (fun z hz => by
    simp only [List.mem_cons, List.not_mem_nil, or_false] at hz
    rcases hz with rfl
    · exact Or.inr ⟨by decide, "java/lang/IndexOutOfBoundsException", C.w mw_671, K.2.2.1.2.2.2.2.2.2.2.1⟩) (by decide) (by decide) mw_645 (xc_2 K.2.2.1) (fun lay q9 => ?_)
  refine j_astore 21 C dL_ifCrashed_19 (lo' := [(5, .ref q9), (0, .ref (ga g 0)), (1, .int x1), (2, .int x2), (3, .int x3), (4, .ref qo)]) (by decide) rfl rfl ?_
  refine j_iconst 22 C dL_ifCrashed_21 ic_2 rfl ?_
  exact x_i (Wf := Lx g (oW g qo) A) (σ := (σ', v)) (lay := lay) C M dL_ifCrashed_22
def hh_L_harmless : List (Nat × Nat × Nat × Nat) := [(0, 9, 12, 18)]
theorem hw_L_harmless : Cond.codeWith yL_harmless cL_harmless 4 (some .int) hh_L_harmless ∈ AW := mw_925
set_option maxRecDepth 100000 in
theorem w_L_harmless {l : Launch} (hst : l.stackTraces = false) (g : GG) (A : Nat → Prop) (lay : Nat → Nat) (qo : Nat) {σ σ' : CS} {v : Int64} {r : Int32} {x1 : Int32} (h : F_X5_harmless σ x1 = some (σ', .inl r)) : MIw l yL_harmless cL_harmless 4 hh_L_harmless 8 136 (0) (0) [.ref (ga g 0), .int x1, .ref qo] (Lx g (oW g qo) A) g A lay (σ, v) (σ', r.toInt64) 0 := by
  refine e_iw (own := RL) (lo := [(0, .ref (ga g 0)), (1, .int x1), (2, .ref qo)]) hst (plainFor_of_name (by decide)) rfl rfl (Nat.le_of_ble_eq_true rfl) ?_
  intro p e s m args below meth c C K M T
  change JJ _ _ _ _ _ _ _ _ _ _ _ _ _ (LW g A lay ([outc g qo v] ++ cW g lay σ)) _ _ _ _ _
  refine j_aload_n 1 C dL_harmless_0 2 rfl rfl ?_
  refine j_iconst 2 C dL_harmless_1 ic_0 rfl ?_
  refine j_aload_n 3 C dL_harmless_2 0 rfl rfl ?_
  refine j_iload_n 4 C dL_harmless_3 1 rfl rfl ?_
  refine lk_Vi (wx := cW g) (w0 := [outc g qo v]) (As := [.int x1]) 7 C K (fun A1 => c_X5_harmless K.2.2.2 g A1 lay h) cp_X5_harmless (fun A1 => rv_F) mw_926 dL_harmless_4 rfl rfl (Nat.le_of_ble_eq_true rfl) ⟨Nat.le_of_ble_eq_true rfl, Nat.le_of_ble_eq_true rfl⟩ ⟨Nat.le_of_ble_eq_true rfl, Nat.le_of_ble_eq_true rfl⟩ rfl (fun lay => ?_)
  refine j_i2l 8 C dL_harmless_7 rfl ?_
  refine lk_last 9 C K dL_harmless_8 rfl ?_
  refine j_goto 15 C dL_harmless_9 (by decide) ?_
  refine j_iconst 16 C dL_harmless_15 ic_0 rfl ?_
  refine j_widen (k' := 0) (n' := 0) (by omega) (by omega) ?_
  exact x_i (Wf := Lx g (oW g qo) A) (σ := (σ', r.toInt64)) (lay := lay) C M dL_harmless_16
set_option maxRecDepth 100000 in
theorem w_L_harmless_1 {l : Launch} (hst : l.stackTraces = false) (g : GG) (A : Nat → Prop) (lay : Nat → Nat) (qo : Nat) {σ σ' : CS} {v : Int64} {x1 : Int32} (h : F_X5_harmless σ x1 = some (σ', .inr 1)) : MIw l yL_harmless cL_harmless 4 hh_L_harmless 8 136 1 6 [.ref (ga g 0), .int x1, .ref qo] (Lx g (oW g qo) A) g A lay (σ, v) (σ', v) 1 := by
  refine e_iw (own := RL) (lo := [(0, .ref (ga g 0)), (1, .int x1), (2, .ref qo)]) hst (plainFor_of_name (by decide)) rfl rfl (Nat.le_of_ble_eq_true rfl) ?_
  intro p e s m args below meth c C K M T
  change JJ _ _ _ _ _ _ _ _ _ _ _ _ _ (LW g A lay ([outc g qo v] ++ cW g lay σ)) _ _ _ _ _
  refine j_aload_n 1 C dL_harmless_0 2 rfl rfl ?_
  refine j_iconst 2 C dL_harmless_1 ic_0 rfl ?_
  refine j_aload_n 3 C dL_harmless_2 0 rfl rfl ?_
  refine j_iload_n 4 C dL_harmless_3 1 rfl rfl ?_
  refine lk_Xi (wx := cW g) (w0 := [outc g qo v]) (As := [.int x1]) C K (fun A1 => x_X5_harmless K.2.2.2 g A1 lay h) cp_X5_harmless (fun A1 => rv_F) mw_926 dL_harmless_4 rfl rfl (Nat.le_of_ble_eq_true rfl) ⟨Nat.le_of_ble_eq_true rfl, Nat.le_of_ble_eq_true rfl⟩ ⟨Nat.le_of_ble_eq_true rfl, Nat.le_of_ble_eq_true rfl⟩ T [] ⟨0, 9, 12, 18⟩ [] rfl (fun z hz => (List.not_mem_nil hz).elim) (by decide) (by decide) mw_671 (xc_1 K.2.2.1) (fun lay q9 => ?_)
  refine j_astore_n 13 C dL_harmless_12 (lo' := [(3, .ref q9), (0, .ref (ga g 0)), (1, .int x1), (2, .ref qo)]) (by decide) rfl rfl ?_
  refine j_iconst 14 C dL_harmless_13 ic_1 rfl ?_
  exact x_i (Wf := Lx g (oW g qo) A) (σ := (σ', v)) (lay := lay) C M dL_harmless_14
def hh_L_leastLosses : List (Nat × Nat × Nat × Nat) := [(0, 9, 12, 18), (0, 9, 15, 20)]
theorem hw_L_leastLosses : Cond.codeWith yL_leastLosses cL_leastLosses 4 (some .int) hh_L_leastLosses ∈ AW := mw_932
set_option maxRecDepth 100000 in
theorem w_L_leastLosses {l : Launch} (hst : l.stackTraces = false) (g : GG) (A : Nat → Prop) (lay : Nat → Nat) (qo : Nat) {σ σ' : CS} {v : Int64} {r : Int32} {x1 : Int32} (h : F_X5_leastLosses σ x1 = some (σ', .inl r)) : MIw l yL_leastLosses cL_leastLosses 4 hh_L_leastLosses 8 132 (0) (0) [.ref (ga g 0), .int x1, .ref qo] (Lx g (oW g qo) A) g A lay (σ, v) (σ', r.toInt64) 0 := by
  refine e_iw (own := RL) (lo := [(0, .ref (ga g 0)), (1, .int x1), (2, .ref qo)]) hst (plainFor_of_name (by decide)) rfl rfl (Nat.le_of_ble_eq_true rfl) ?_
  intro p e s m args below meth c C K M T
  change JJ _ _ _ _ _ _ _ _ _ _ _ _ _ (LW g A lay ([outc g qo v] ++ cW g lay σ)) _ _ _ _ _
  refine j_aload_n 1 C dL_leastLosses_0 2 rfl rfl ?_
  refine j_iconst 2 C dL_leastLosses_1 ic_0 rfl ?_
  refine j_aload_n 3 C dL_leastLosses_2 0 rfl rfl ?_
  refine j_iload_n 4 C dL_leastLosses_3 1 rfl rfl ?_
  refine lk_Vi (wx := cW g) (w0 := [outc g qo v]) (As := [.int x1]) 7 C K (fun A1 => c_X5_leastLosses K.2.2.2 g A1 lay h) cp_X5_leastLosses (fun A1 => rv_F) mw_933 dL_leastLosses_4 rfl rfl (Nat.le_of_ble_eq_true rfl) ⟨Nat.le_of_ble_eq_true rfl, Nat.le_of_ble_eq_true rfl⟩ ⟨Nat.le_of_ble_eq_true rfl, Nat.le_of_ble_eq_true rfl⟩ rfl (fun lay => ?_)
  refine j_i2l 8 C dL_leastLosses_7 rfl ?_
  refine lk_last 9 C K dL_leastLosses_8 rfl ?_
  refine j_goto 18 C dL_leastLosses_9 (by decide) ?_
  refine j_iconst 19 C dL_leastLosses_18 ic_0 rfl ?_
  refine j_widen (k' := 0) (n' := 0) (by omega) (by omega) ?_
  exact x_i (Wf := Lx g (oW g qo) A) (σ := (σ', r.toInt64)) (lay := lay) C M dL_leastLosses_19
set_option maxRecDepth 100000 in
theorem w_L_leastLosses_1 {l : Launch} (hst : l.stackTraces = false) (g : GG) (A : Nat → Prop) (lay : Nat → Nat) (qo : Nat) {σ σ' : CS} {v : Int64} {x1 : Int32} (h : F_X5_leastLosses σ x1 = some (σ', .inr 1)) : MIw l yL_leastLosses cL_leastLosses 4 hh_L_leastLosses 8 132 1 6 [.ref (ga g 0), .int x1, .ref qo] (Lx g (oW g qo) A) g A lay (σ, v) (σ', v) 1 := by
  refine e_iw (own := RL) (lo := [(0, .ref (ga g 0)), (1, .int x1), (2, .ref qo)]) hst (plainFor_of_name (by decide)) rfl rfl (Nat.le_of_ble_eq_true rfl) ?_
  intro p e s m args below meth c C K M T
  change JJ _ _ _ _ _ _ _ _ _ _ _ _ _ (LW g A lay ([outc g qo v] ++ cW g lay σ)) _ _ _ _ _
  refine j_aload_n 1 C dL_leastLosses_0 2 rfl rfl ?_
  refine j_iconst 2 C dL_leastLosses_1 ic_0 rfl ?_
  refine j_aload_n 3 C dL_leastLosses_2 0 rfl rfl ?_
  refine j_iload_n 4 C dL_leastLosses_3 1 rfl rfl ?_
  refine lk_Xi (wx := cW g) (w0 := [outc g qo v]) (As := [.int x1]) C K (fun A1 => x_X5_leastLosses K.2.2.2 g A1 lay h) cp_X5_leastLosses (fun A1 => rv_F) mw_933 dL_leastLosses_4 rfl rfl (Nat.le_of_ble_eq_true rfl) ⟨Nat.le_of_ble_eq_true rfl, Nat.le_of_ble_eq_true rfl⟩ ⟨Nat.le_of_ble_eq_true rfl, Nat.le_of_ble_eq_true rfl⟩ T [] ⟨0, 9, 12, 18⟩ [⟨0, 9, 15, 20⟩] rfl (fun z hz => (List.not_mem_nil hz).elim) (by decide) (by decide) mw_671 (xc_1 K.2.2.1) (fun lay q9 => ?_)
  refine j_astore_n 13 C dL_leastLosses_12 (lo' := [(3, .ref q9), (0, .ref (ga g 0)), (1, .int x1), (2, .ref qo)]) (by decide) rfl rfl ?_
  refine j_iconst 14 C dL_leastLosses_13 ic_1 rfl ?_
  exact x_i (Wf := Lx g (oW g qo) A) (σ := (σ', v)) (lay := lay) C M dL_leastLosses_14
set_option maxRecDepth 100000 in
theorem w_L_leastLosses_3 {l : Launch} (hst : l.stackTraces = false) (g : GG) (A : Nat → Prop) (lay : Nat → Nat) (qo : Nat) {σ σ' : CS} {v : Int64} {x1 : Int32} (h : F_X5_leastLosses σ x1 = some (σ', .inr 3)) : MIw l yL_leastLosses cL_leastLosses 4 hh_L_leastLosses 8 132 1 6 [.ref (ga g 0), .int x1, .ref qo] (Lx g (oW g qo) A) g A lay (σ, v) (σ', v) 2 := by
  refine e_iw (own := RL) (lo := [(0, .ref (ga g 0)), (1, .int x1), (2, .ref qo)]) hst (plainFor_of_name (by decide)) rfl rfl (Nat.le_of_ble_eq_true rfl) ?_
  intro p e s m args below meth c C K M T
  change JJ _ _ _ _ _ _ _ _ _ _ _ _ _ (LW g A lay ([outc g qo v] ++ cW g lay σ)) _ _ _ _ _
  refine j_aload_n 1 C dL_leastLosses_0 2 rfl rfl ?_
  refine j_iconst 2 C dL_leastLosses_1 ic_0 rfl ?_
  refine j_aload_n 3 C dL_leastLosses_2 0 rfl rfl ?_
  refine j_iload_n 4 C dL_leastLosses_3 1 rfl rfl ?_
  refine lk_Xi (wx := cW g) (w0 := [outc g qo v]) (As := [.int x1]) C K (fun A1 => x_X5_leastLosses K.2.2.2 g A1 lay h) cp_X5_leastLosses (fun A1 => rv_F) mw_933 dL_leastLosses_4 rfl rfl (Nat.le_of_ble_eq_true rfl) ⟨Nat.le_of_ble_eq_true rfl, Nat.le_of_ble_eq_true rfl⟩ ⟨Nat.le_of_ble_eq_true rfl, Nat.le_of_ble_eq_true rfl⟩ T [⟨0, 9, 12, 18⟩] ⟨0, 9, 15, 20⟩ [] rfl (fun z hz => by
    simp only [List.mem_cons, List.not_mem_nil, or_false] at hz
    rcases hz with rfl
    · exact Or.inr ⟨by decide, "java/lang/IndexOutOfBoundsException", C.w mw_671, K.2.2.1.2.2.2.2.2.2.2.2.1⟩) (by decide) (by decide) mw_672 (xc_3 K.2.2.1) (fun lay q9 => ?_)
  refine j_astore_n 16 C dL_leastLosses_15 (lo' := [(3, .ref q9), (0, .ref (ga g 0)), (1, .int x1), (2, .ref qo)]) (by decide) rfl rfl ?_
  refine j_iconst 17 C dL_leastLosses_16 ic_2 rfl ?_
  exact x_i (Wf := Lx g (oW g qo) A) (σ := (σ', v)) (lay := lay) C M dL_leastLosses_17
