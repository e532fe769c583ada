theorem cpi_X0_init : CPi yX0_init cX0_init 1 0 := ⟨mw_260, mw_104, mw_261, rfl, by decide, by decide, by decide +kernel⟩
theorem cpi_X1_init : CPi yX1_init cX1_init 1 0 := ⟨mw_132, mw_99, mw_133, rfl, by decide, by decide, by decide +kernel⟩
theorem cpi_X2_init : CPi yX2_init cX2_init 1 0 := ⟨mw_156, mw_101, mw_157, rfl, by decide, by decide, by decide +kernel⟩
theorem cpi_X4_init : CPi yX4_init cX4_init 1 0 := ⟨mw_197, mw_103, mw_198, rfl, by decide, by decide, by decide +kernel⟩
theorem cpi_X3_init : CPi yX3_init cX3_init 2 1 := ⟨mw_189, mw_102, mw_190, rfl, by decide, by decide, by decide +kernel⟩
theorem cpi_X5_init : CPi yX5_init cX5_init 2 0 := ⟨mw_120, mw_98, mw_121, rfl, by decide, by decide, by decide +kernel⟩
abbrev kA0 (g : GG) (q N : Nat) : Nat × va_E := (q, .inl (gI g, (N, .inl (fun _ => 0))))
abbrev kAm (g : GG) (q : Nat) : Nat × va_E := (q, .inl (gI g, (4, .inl (lfl (fun _ => 0) (-1) 4))))
abbrev rd0 (h : Nat) : Nat × va_E := (h, .inr (2, [.int 0, .int 0, .int 0, .int 0, .int 0, .int 0, .int 0]))
abbrev dc0 (h : Nat) (x : Int32) : Nat × va_E := (h, .inr (0, [.int x, .int x, .int 0, .int 0]))
abbrev dkL (g : GG) (h b u : Nat) : va_W := [(h, .inr (1, [.int 0, .ref b, .ref u])), kA0 g b 4, kAm g u]
abbrev wrL (g : GG) (h a b c : Nat) : va_W := [(h, .inr (4, [.ref a, .ref b, .ref c, .int 0])), kA0 g a 8, kA0 g b 8, kA0 g c 8]
def ndL (g : GG) (a : Nat → Nat) (x : Int32) : va_W := [(a 0, .inr (3, [.int x, .ref (a 1), .ref (a 4), .ref (a 7), .ref (a 11), .int 1, .int 1, .int 0, .int 0, .int (-1)]))] ++ dkL g (a 1) (a 2) (a 3) ++ dkL g (a 4) (a 5) (a 6) ++ wrL g (a 7) (a 8) (a 9) (a 10) ++ [kA0 g (a 11) 4]
set_option maxHeartbeats 4000000 in
set_option maxRecDepth 100000 in
theorem ci_X2 {l : Launch} (hst : l.stackTraces = false) (g : GG) (A : Nat → Prop) (lay : Nat → Nat) (h : Nat) : MVp l yX2_init cX2_init 1 1 24 0 0 [.ref h] (LW g A) g A lay [rd0 h] (fun u => u = [rd0 h]) := by
  refine e_vp (own := RX2) (lo := [(0, .ref h)]) hst (plainFor_of_name (by decide)) rfl rfl (by exact Nat.le_of_ble_eq_true rfl) ?_
  intro p e s m args below meth c C K M hnm
  refine j_aload_n 1 C dX2_init_0 0 rfl rfl ?_
  refine l_obj 4 C mw_158 dX2_init_1 (by exact Nat.le_of_ble_eq_true rfl) (by exact Nat.le_of_ble_eq_true rfl) rfl ?_
  exact x_vp C M rfl dX2_init_4
set_option maxHeartbeats 4000000 in
set_option maxRecDepth 100000 in
theorem ci_X0 {l : Launch} (hst : l.stackTraces = false) (g : GG) (A : Nat → Prop) (lay : Nat → Nat) (h : Nat) : MVp l yX0_init cX0_init 1 1 24 0 0 [.ref h] (LW g A) g A lay [dc0 h 0] (fun u => u = [dc0 h (-1)]) := by
  refine e_vp (own := RX0) (lo := [(0, .ref h)]) hst (plainFor_of_name (by decide)) rfl rfl (by exact Nat.le_of_ble_eq_true rfl) ?_
  intro p e s m args below meth c C K M hnm
  refine j_aload_n 1 C dX0_init_0 0 rfl rfl ?_
  refine l_obj 4 C mw_262 dX0_init_1 (by exact Nat.le_of_ble_eq_true rfl) (by exact Nat.le_of_ble_eq_true rfl) rfl ?_
  refine j_aload_n 5 C dX0_init_4 0 rfl rfl ?_
  refine j_iconst 6 C dX0_init_5 ic_m1 rfl ?_
  refine l_put 9 C K 0 0 rfl rfl inA_X0 tyX0 tyX0_ok nmX0 0 (by decide) mw_263 rfl rfl rfl (by exact Nat.le_of_ble_eq_true rfl) dX0_init_6 rfl (ws' := [(h, .inr (0, [.int (-1), .int 0, .int 0, .int 0]))]) rfl ?_
  refine j_aload_n 10 C dX0_init_9 0 rfl rfl ?_
  refine j_iconst 11 C dX0_init_10 ic_m1 rfl ?_
  refine l_put 14 C K 0 0 rfl rfl inA_X0 tyX0 tyX0_ok nmX0 1 (by decide) mw_265 rfl rfl rfl (by exact Nat.le_of_ble_eq_true rfl) dX0_init_11 rfl (ws' := [dc0 h (-1)]) rfl ?_
  exact x_vp C M rfl dX0_init_14
set_option maxHeartbeats 4000000 in
set_option maxRecDepth 100000 in
theorem ci_X1 {l : Launch} (hst : l.stackTraces = false) (g : GG) (A : Nat → Prop) (lay : Nat → Nat) (h : Nat) : MVp l yX1_init cX1_init 1 1 24 2 8 [.ref h] (LW g A) g A lay [(h, .inr (1, [.int 0, .null, .null]))] (fun w => ∃ b u, w = dkL g h b u) := by
  refine e_vp (own := RX1) (lo := [(0, .ref h)]) hst (plainFor_of_name (by decide)) rfl rfl (by exact Nat.le_of_ble_eq_true rfl) ?_
  intro p e s m args below meth c C K M hnm
  refine j_aload_n 1 C dX1_init_0 0 rfl rfl ?_
  refine l_obj 4 C mw_134 dX1_init_1 (by exact Nat.le_of_ble_eq_true rfl) (by exact Nat.le_of_ble_eq_true rfl) rfl ?_
  refine j_aload_n 5 C dX1_init_4 0 rfl rfl ?_
  refine j_iconst 6 C dX1_init_5 ic_4 rfl ?_
  refine l_newi 8 C K 4 (by decide) (by decide) (by decide) dX1_init_6 ⟨by exact Nat.le_of_ble_eq_true rfl, by exact Nat.le_of_ble_eq_true rfl⟩ rfl (fun b => ?_)
  refine l_putF 11 C K 0 1 rfl rfl inA_X1 tyX1 tyX1_ok nmX1 1 (by decide) mw_141 rfl hnm rfl rfl rfl (by exact Nat.le_of_ble_eq_true rfl) dX1_init_8 rfl (ws' := [(h, .inr (1, [.int 0, .ref b, .null])), kA0 g b 4]) rfl ?_
  refine j_aload_n 12 C dX1_init_11 0 rfl rfl ?_
  refine j_iconst 13 C dX1_init_12 ic_4 rfl ?_
  refine l_newi 15 C K 4 (by decide) (by decide) (by decide) dX1_init_13 ⟨by exact Nat.le_of_ble_eq_true rfl, by exact Nat.le_of_ble_eq_true rfl⟩ rfl (fun u => ?_)
  refine l_putF 18 C K 0 1 rfl rfl inA_X1 tyX1 tyX1_ok nmX1 2 (by decide) mw_143 rfl hnm rfl rfl rfl (by exact Nat.le_of_ble_eq_true rfl) dX1_init_15 rfl (ws' := [(h, .inr (1, [.int 0, .ref b, .ref u])), kA0 g b 4, kA0 g u 4]) rfl ?_
  refine j_aload_n 19 C dX1_init_18 0 rfl rfl ?_
  refine l_get 22 C K 0 1 rfl rfl inA_X1 2 (by decide) mw_143 rfl dX1_init_19 rfl ?_
  refine j_iconst 23 C dX1_init_22 ic_m1 rfl ?_
  refine k_Sv 26 C K (lc_fill K.2.2.2 g A lay (t := 2) rfl (by decide)) cp_fill mw_135 dX1_init_23 rfl rfl (by exact Nat.le_of_ble_eq_true rfl) ⟨by exact Nat.le_of_ble_eq_true rfl, by exact Nat.le_of_ble_eq_true rfl⟩ ⟨by exact Nat.le_of_ble_eq_true rfl, by exact Nat.le_of_ble_eq_true rfl⟩ rfl (fun lay => ?_)
  exact x_vp C M ⟨b, u, rfl⟩ dX1_init_26
set_option maxHeartbeats 4000000 in
set_option maxRecDepth 100000 in
theorem ci_X4 {l : Launch} (hst : l.stackTraces = false) (g : GG) (A : Nat → Prop) (lay : Nat → Nat) (h : Nat) : MVp l yX4_init cX4_init 1 1 24 3 24 [.ref h] (LW g A) g A lay [(h, .inr (4, [.null, .null, .null, .int 0]))] (fun w => ∃ a b c, w = wrL g h a b c) := by
  refine e_vp (own := RX4) (lo := [(0, .ref h)]) hst (plainFor_of_name (by decide)) rfl rfl (by exact Nat.le_of_ble_eq_true rfl) ?_
  intro p e s m args below meth c C K M hnm
  refine j_aload_n 1 C dX4_init_0 0 rfl rfl ?_
  refine l_obj 4 C mw_199 dX4_init_1 (by exact Nat.le_of_ble_eq_true rfl) (by exact Nat.le_of_ble_eq_true rfl) rfl ?_
  refine j_aload_n 5 C dX4_init_4 0 rfl rfl ?_
  refine j_bipush 7 C dX4_init_5 bp_8 rfl ?_
  refine l_newi 9 C K 8 (by decide) (by decide) (by decide) dX4_init_7 ⟨by exact Nat.le_of_ble_eq_true rfl, by exact Nat.le_of_ble_eq_true rfl⟩ rfl (fun a => ?_)
  refine l_put 12 C K 0 4 rfl rfl inA_X4 tyX4 tyX4_ok nmX4 0 (by decide) mw_200 rfl rfl rfl (by exact Nat.le_of_ble_eq_true rfl) dX4_init_9 rfl (ws' := [(h, .inr (4, [.ref a, .null, .null, .int 0])), kA0 g a 8]) rfl ?_
  refine j_aload_n 13 C dX4_init_12 0 rfl rfl ?_
  refine j_bipush 15 C dX4_init_13 bp_8 rfl ?_
  refine l_newi 17 C K 8 (by decide) (by decide) (by decide) dX4_init_15 ⟨by exact Nat.le_of_ble_eq_true rfl, by exact Nat.le_of_ble_eq_true rfl⟩ rfl (fun b => ?_)
  refine l_put 20 C K 0 4 rfl rfl inA_X4 tyX4 tyX4_ok nmX4 1 (by decide) mw_202 rfl rfl rfl (by exact Nat.le_of_ble_eq_true rfl) dX4_init_17 rfl (ws' := [(h, .inr (4, [.ref a, .ref b, .null, .int 0])), kA0 g a 8, kA0 g b 8]) rfl ?_
  refine j_aload_n 21 C dX4_init_20 0 rfl rfl ?_
  refine j_bipush 23 C dX4_init_21 bp_8 rfl ?_
  refine l_newi 25 C K 8 (by decide) (by decide) (by decide) dX4_init_23 ⟨by exact Nat.le_of_ble_eq_true rfl, by exact Nat.le_of_ble_eq_true rfl⟩ rfl (fun c' => ?_)
  refine l_put 28 C K 0 4 rfl rfl inA_X4 tyX4 tyX4_ok nmX4 2 (by decide) mw_204 rfl rfl rfl (by exact Nat.le_of_ble_eq_true rfl) dX4_init_25 rfl (ws' := wrL g h a b c') rfl ?_
  exact x_vp C M ⟨a, b, c', rfl⟩ dX4_init_28
abbrev nd0 (h : Nat) : Nat × va_E := (h, .inr (3, [.int 0, .null, .null, .null, .null, .int 0, .int 0, .int 0, .int 0, .int 0]))
abbrev ndW1 (g : GG) (h a1 a2 a3 : Nat) : va_W := [(h, .inr (3, [.int 0, .ref a1, .null, .null, .null, .int 0, .int 0, .int 0, .int 0, .int 0]))] ++ dkL g a1 a2 a3
abbrev ndW2 (g : GG) (h a1 a2 a3 a4 a5 a6 : Nat) : va_W := [(h, .inr (3, [.int 0, .ref a1, .ref a4, .null, .null, .int 0, .int 0, .int 0, .int 0, .int 0]))] ++ dkL g a1 a2 a3 ++ dkL g a4 a5 a6
set_option maxHeartbeats 4000000 in
set_option maxRecDepth 100000 in
theorem ci_X3 {l : Launch} (hst : l.stackTraces = false) (g : GG) (A : Nat → Prop) (lay : Nat → Nat) (h : Nat) (x : Int32) : MVp l yX3_init cX3_init 2 2 50 11 54 [.ref h, .int x] (LW g A) g A lay [nd0 h] (fun w => ∃ a : Nat → Nat, a 0 = h ∧ w = ndL g a x) := by
  refine e_vp (own := RX3) (lo := [(0, .ref h), (1, .int x)]) hst (plainFor_of_name (by decide)) rfl rfl (by exact Nat.le_of_ble_eq_true rfl) ?_
  intro p e s m args below meth c C K M hnm
  refine j_aload_n 1 C dX3_init_0 0 rfl rfl ?_
  refine l_obj 4 C mw_191 dX3_init_1 (by exact Nat.le_of_ble_eq_true rfl) (by exact Nat.le_of_ble_eq_true rfl) rfl ?_
  refine j_aload_n 5 C dX3_init_4 0 rfl rfl ?_
  refine l_new 8 C K 1 rfl inA_X1 tyX1 tyX1_ok mw_192 mw_130 mw_99 [.int 0, .null, .null] (fun j hj => by match j, hj with | 0, _ => rfl | 1, _ => rfl | 2, _ => rfl) dX3_init_5 ⟨by exact Nat.le_of_ble_eq_true rfl, by exact Nat.le_of_ble_eq_true rfl⟩ rfl (fun a1 => ?_)
  refine j_dup 9 C dX3_init_8 rfl rfl ?_
  refine l_callI 12 C K (w0 := [nd0 h]) (wc := [(a1, .inr (1, [.int 0, .null, .null]))]) (fun A1 => ci_X1 K.2.2.2 g A1 lay a1) cpi_X1_init mw_193 dX3_init_9 rfl rfl (by exact Nat.le_of_ble_eq_true rfl) ⟨by exact Nat.le_of_ble_eq_true rfl, by exact Nat.le_of_ble_eq_true rfl⟩ ⟨by exact Nat.le_of_ble_eq_true rfl, by exact Nat.le_of_ble_eq_true rfl⟩ rfl (fun w1 hp1 => ?_)
  obtain ⟨a2, a3, rfl⟩ := hp1
  refine l_putF 15 C K 0 3 rfl rfl inA_X3 tyX3 tyX3_ok nmX3 1 (by decide) mw_219 rfl hnm rfl rfl rfl (by exact Nat.le_of_ble_eq_true rfl) dX3_init_12 rfl (ws' := ndW1 g h a1 a2 a3) rfl ?_
  refine j_aload_n 16 C dX3_init_15 0 rfl rfl ?_
  refine l_new 19 C K 1 rfl inA_X1 tyX1 tyX1_ok mw_192 mw_130 mw_99 [.int 0, .null, .null] (fun j hj => by match j, hj with | 0, _ => rfl | 1, _ => rfl | 2, _ => rfl) dX3_init_16 ⟨by exact Nat.le_of_ble_eq_true rfl, by exact Nat.le_of_ble_eq_true rfl⟩ rfl (fun a4 => ?_)
  refine j_dup 20 C dX3_init_19 rfl rfl ?_
  refine l_callI 23 C K (w0 := ndW1 g h a1 a2 a3) (wc := [(a4, .inr (1, [.int 0, .null, .null]))]) (fun A1 => ci_X1 K.2.2.2 g A1 lay a4) cpi_X1_init mw_193 dX3_init_20 rfl rfl (by exact Nat.le_of_ble_eq_true rfl) ⟨by exact Nat.le_of_ble_eq_true rfl, by exact Nat.le_of_ble_eq_true rfl⟩ ⟨by exact Nat.le_of_ble_eq_true rfl, by exact Nat.le_of_ble_eq_true rfl⟩ rfl (fun w2 hp2 => ?_)
  obtain ⟨a5, a6, rfl⟩ := hp2
  refine l_putF 26 C K 0 3 rfl rfl inA_X3 tyX3 tyX3_ok nmX3 2 (by decide) mw_221 rfl hnm rfl rfl rfl (by exact Nat.le_of_ble_eq_true rfl) dX3_init_23 rfl (ws' := ndW2 g h a1 a2 a3 a4 a5 a6) rfl ?_
  refine j_aload_n 27 C dX3_init_26 0 rfl rfl ?_
  refine l_new 30 C K 4 rfl inA_X4 tyX4 tyX4_ok mw_194 mw_195 mw_103 [.null, .null, .null, .int 0] (fun j hj => by match j, hj with | 0, _ => rfl | 1, _ => rfl | 2, _ => rfl | 3, _ => rfl) dX3_init_27 ⟨by exact Nat.le_of_ble_eq_true rfl, by exact Nat.le_of_ble_eq_true rfl⟩ rfl (fun a7 => ?_)
  refine j_dup 31 C dX3_init_30 rfl rfl ?_
  refine l_callIN 34 C K (w0 := ndW2 g h a1 a2 a3 a4 a5 a6) (wc := [(a7, .inr (4, [.null, .null, .null, .int 0]))]) (fun A1 => ci_X4 K.2.2.2 g A1 lay a7) cpi_X4_init (nest_196 K) dX3_init_31 rfl rfl (by exact Nat.le_of_ble_eq_true rfl) ⟨by exact Nat.le_of_ble_eq_true rfl, by exact Nat.le_of_ble_eq_true rfl⟩ ⟨by exact Nat.le_of_ble_eq_true rfl, by exact Nat.le_of_ble_eq_true rfl⟩ rfl (fun w3 hp3 => ?_)
  obtain ⟨a8, a9, a10, rfl⟩ := hp3
  refine l_putF 37 C K 0 3 rfl rfl inA_X3 tyX3 tyX3_ok nmX3 3 (by decide) mw_223 rfl hnm rfl rfl rfl (by exact Nat.le_of_ble_eq_true rfl) dX3_init_34 rfl (ws' := [(h, .inr (3, [.int 0, .ref a1, .ref a4, .ref a7, .null, .int 0, .int 0, .int 0, .int 0, .int 0]))] ++ dkL g a1 a2 a3 ++ dkL g a4 a5 a6 ++ wrL g a7 a8 a9 a10) rfl ?_
  refine j_aload_n 38 C dX3_init_37 0 rfl rfl ?_
  refine j_iconst 39 C dX3_init_38 ic_4 rfl ?_
  refine l_newi 41 C K 4 (by decide) (by decide) (by decide) dX3_init_39 ⟨by exact Nat.le_of_ble_eq_true rfl, by exact Nat.le_of_ble_eq_true rfl⟩ rfl (fun a11 => ?_)
  refine l_putF 44 C K 0 3 rfl rfl inA_X3 tyX3 tyX3_ok nmX3 4 (by decide) mw_225 rfl hnm rfl rfl rfl (by exact Nat.le_of_ble_eq_true rfl) dX3_init_41 rfl (ws' := [(h, .inr (3, [.int 0, .ref a1, .ref a4, .ref a7, .ref a11, .int 0, .int 0, .int 0, .int 0, .int 0]))] ++ dkL g a1 a2 a3 ++ dkL g a4 a5 a6 ++ wrL g a7 a8 a9 a10 ++ [kA0 g a11 4]) rfl ?_
  refine j_aload_n 45 C dX3_init_44 0 rfl rfl ?_
  refine j_iconst 46 C dX3_init_45 ic_1 rfl ?_
  refine l_put 49 C K 0 3 rfl rfl inA_X3 tyX3 tyX3_ok nmX3 5 (by decide) mw_227 rfl rfl rfl (by exact Nat.le_of_ble_eq_true rfl) dX3_init_46 rfl (ws' := [(h, .inr (3, [.int 0, .ref a1, .ref a4, .ref a7, .ref a11, .int 1, .int 0, .int 0, .int 0, .int 0]))] ++ dkL g a1 a2 a3 ++ dkL g a4 a5 a6 ++ wrL g a7 a8 a9 a10 ++ [kA0 g a11 4]) rfl ?_
  refine j_aload_n 50 C dX3_init_49 0 rfl rfl ?_
  refine j_iconst 51 C dX3_init_50 ic_1 rfl ?_
  refine l_put 54 C K 0 3 rfl rfl inA_X3 tyX3 tyX3_ok nmX3 6 (by decide) mw_229 rfl rfl rfl (by exact Nat.le_of_ble_eq_true rfl) dX3_init_51 rfl (ws' := [(h, .inr (3, [.int 0, .ref a1, .ref a4, .ref a7, .ref a11, .int 1, .int 1, .int 0, .int 0, .int 0]))] ++ dkL g a1 a2 a3 ++ dkL g a4 a5 a6 ++ wrL g a7 a8 a9 a10 ++ [kA0 g a11 4]) rfl ?_
  refine j_aload_n 55 C dX3_init_54 0 rfl rfl ?_
  refine j_iconst 56 C dX3_init_55 ic_m1 rfl ?_
  refine l_put 59 C K 0 3 rfl rfl inA_X3 tyX3 tyX3_ok nmX3 9 (by decide) mw_235 rfl rfl rfl (by exact Nat.le_of_ble_eq_true rfl) dX3_init_56 rfl (ws' := [(h, .inr (3, [.int 0, .ref a1, .ref a4, .ref a7, .ref a11, .int 1, .int 1, .int 0, .int 0, .int (-1)]))] ++ dkL g a1 a2 a3 ++ dkL g a4 a5 a6 ++ wrL g a7 a8 a9 a10 ++ [kA0 g a11 4]) rfl ?_
  refine j_aload_n 60 C dX3_init_59 0 rfl rfl ?_
  refine j_iload_n 61 C dX3_init_60 1 rfl rfl ?_
  refine l_putF 64 C K 0 3 rfl rfl inA_X3 tyX3 tyX3_ok nmX3 0 (by decide) mw_218 rfl hnm rfl rfl rfl (by exact Nat.le_of_ble_eq_true rfl) dX3_init_61 rfl (ws' := [(h, .inr (3, [.int x, .ref a1, .ref a4, .ref a7, .ref a11, .int 1, .int 1, .int 0, .int 0, .int (-1)]))] ++ dkL g a1 a2 a3 ++ dkL g a4 a5 a6 ++ wrL g a7 a8 a9 a10 ++ [kA0 g a11 4]) rfl ?_
  exact x_vp C M ⟨fun k => match k with
    | 0 => h
    | 1 => a1
    | 2 => a2
    | 3 => a3
    | 4 => a4
    | 5 => a5
    | 6 => a6
    | 7 => a7
    | 8 => a8
    | 9 => a9
    | 10 => a10
    | _ => a11, rfl, rfl⟩ dX3_init_64
