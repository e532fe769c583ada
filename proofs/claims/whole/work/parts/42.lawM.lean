/-! ===== the law's loop: the cases ===== -/
section LSR
variable {p : Program} {l : Launch} {e : Env} {R : Room} {s : State} {m : MethodId} {args : Array Value} {below : List Frame} {meth : Method} {c : Code} {Q : State → Prop} {A : Nat → Prop} {nL : Nat} {k n pc : Nat} {lo : List (Nat × Value)} {st : List Value} {cc : ByteArray} {own : String} {Wd : Heap → Prop} {b L i : Nat} {xs : Nat → Int32}
theorem ls_rd (q : Nat) (C : KX p m c cc nL s args own) (hX : va_X b L xs s s.heap) (hbl : b < s.heap.size) (hbA : ¬ A b) (hL : L ≤ 2560) (j u w : Nat) (z : Int) (d0 : decode cc pc = .ok (.aload_n 0, 1)) (d1 : decode cc (pc + 1) = .ok (.iload 4, 2)) (d3 : decode cc (pc + 3) = .ok (.iconst z, 1)) (d4 : decode cc (pc + 4) = .ok (.iadd, 1)) (d5 : decode cc (pc + 5) = .ok (.iaload, 1)) (hz : Int32.ofInt z = nI j) (hi : i + j < L) (h0 : lo[u]? = some (0, .ref b)) (h4 : lo[w]? = some (4, .int (nI i))) (hq : pc + 6 = q) (KK : JJ p l e R s m args below meth c Q A nL Wd k n q lo (.int (xs (i + j)) :: st)) : JJ p l e R s m args below meth c Q A nL Wd k n pc lo st := by
  subst hq
  refine j_aload_n (pc + 1) C d0 u h0 rfl ?_
  refine j_iload (pc + 3) C d1 w h4 rfl ?_
  refine j_iconst (pc + 4) C d3 hz rfl ?_
  refine j_iadd (pc + 5) C d4 rfl ?_
  rw [nI_add]
  intro H locs ls hW hS hl
  refine va_sld C.1 C.2.1 hX hbl hbA hS (vp_in_nI hi (by omega)) d5 ?_
  rw [nI_clamp (by omega)]
  exact KK H locs ls hW hS hl
theorem ls_rd0 (q : Nat) (C : KX p m c cc nL s args own) (hX : va_X b L xs s s.heap) (hbl : b < s.heap.size) (hbA : ¬ A b) (hL : L ≤ 2560) (u w : Nat) (d0 : decode cc pc = .ok (.aload_n 0, 1)) (d1 : decode cc (pc + 1) = .ok (.iload 4, 2)) (d5 : decode cc (pc + 3) = .ok (.iaload, 1)) (hi : i < L) (h0 : lo[u]? = some (0, .ref b)) (h4 : lo[w]? = some (4, .int (nI i))) (hq : pc + 4 = q) (KK : JJ p l e R s m args below meth c Q A nL Wd k n q lo (.int (xs i) :: st)) : JJ p l e R s m args below meth c Q A nL Wd k n pc lo st := by
  subst hq
  refine j_aload_n (pc + 1) C d0 u h0 rfl ?_
  refine j_iload (pc + 3) C d1 w h4 rfl ?_
  intro H locs ls hW hS hl
  refine va_sld C.1 C.2.1 hX hbl hbA hS (vp_in_nI hi (by omega)) d5 ?_
  rw [nI_clamp (by omega)]
  exact KK H locs ls hW hS hl
theorem lk_lald (q : Nat) (C : KX p m c cc nL s args own) {g : GG} {ly : Nat → Nat} (K : KC l g A s) {qo : Nat} {v : Int64} {wc : va_W} (hd : decode cc pc = .ok (.laload, 1)) (hq : pc + 1 = q) (KK : JJ p l e R s m args below meth c Q A nL (LW g A ly ([outc g qo v] ++ wc)) k n q lo (.long v :: st)) : JJ p l e R s m args below meth c Q A nL (LW g A ly ([outc g qo v] ++ wc)) k n pc lo (.int (0 : Int32) :: .ref qo :: st) := by
  subst hq
  intro H locs ls hW hS hl
  exact va_lald C.1 C.2.1 K.2.1 hW.1 0 4 (cA := gJ g) (n := 1) (f := fun _ => v) rfl rfl (by intro h; rcases h with h | h; exact absurd h (by decide); exact absurd h (by decide)) hd (KK H locs ls hW hS hl)
end LSR
theorem lg_cmp_self (x : Int64) : lg_cmp x x = 0 := by simp [lg_cmp]
theorem thr_eq (ρ : RS) : F_X6_thrown ρ = some (ρ, ρ.1 0 0) := rfl
theorem nz_1 : Int32.ofInt 1 = nI 1 := by decide
theorem nz_2 : Int32.ofInt 2 = nI 2 := by decide
theorem nz_3 : Int32.ofInt 3 = nI 3 := by decide
theorem nz_4 : Int32.ofInt 4 = nI 4 := by decide
set_option maxRecDepth 100000 in
theorem lq_begin {p : Program} {l : Launch} {e : Env} {s : State} {m : MethodId} {args : Array Value} {below : List Frame} {meth : Method} {c : Code} {Q : State → Prop} {A : Nat → Prop} {k n : Nat} {g : GG} {ly lay : Nat → Nat} {b L qo : Nat} {xs : Nat → Int32} {i : Nat} {σ σ' : CS} {ρ ρ' : RS} {v : Int64} {r : Int32} (C : KX p m c cL_law 9 s args RL) (K : KC l g A s) (hX : va_X b L xs s s.heap) (hbl : b < s.heap.size) (hbA : ¬ A b) (hi : i + 5 ≤ L) (hL : L ≤ 2560) (hF : F_X5_begin σ (xs (i + 1)) (xs (i + 2)) = some (σ', .inl r)) (hM : F_X6_begin ρ (xs (i + 1)) (xs (i + 2)) = some (ρ', r)) (h0 : ρ'.1 0 0 = 0) (hc : k + 0 ≤ 601024 ∧ n + 0 ≤ 7293034)
    (KK : ∀ lay : Nat → Nat, JJ p l e room_1 s m args below meth c Q A 9 (LW g A ly (rW g ρ' ++ ([outc g qo r.toInt64] ++ cW g lay σ'))) (k + 0) (n + 0) 1531 [(0, .ref b), (1, .ref (ga g 0)), (2, .ref (gm g 0)), (3, .ref qo), (4, .int (nI i))] []) : JJ p l e room_1 s m args below meth c Q A 9 (LW g A ly (rW g ρ ++ ([outc g qo v] ++ cW g lay σ))) k n 152 [(0, .ref b), (1, .ref (ga g 0)), (2, .ref (gm g 0)), (3, .ref qo), (4, .int (nI i))] [] := by
  refine j_aload_n 153 C dL_law_152 1 rfl rfl ?_
  refine ls_rd 159 C hX hbl hbA hL 1 0 4 1 dL_law_153 dL_law_154 dL_law_156 dL_law_157 dL_law_158 nz_1 (by omega) rfl rfl rfl ?_
  refine ls_rd 165 C hX hbl hbA hL 2 0 4 2 dL_law_159 dL_law_160 dL_law_162 dL_law_163 dL_law_164 nz_2 (by omega) rfl rfl rfl ?_
  refine j_aload_n 166 C dL_law_165 3 rfl rfl ?_
  refine lk_Sw (np := 4) (w0 := rW g ρ) (wx := oW g qo) (σ := (σ, v)) (σ' := (σ', r.toInt64)) (lay := lay) (As := [.ref (ga g 0), .int (xs (i + 1)), .int (xs (i + 2)), .ref qo]) (st := []) 169 C K (fun A1 => w_L_begin K.2.2.2 g A1 lay qo hF) mw_643 mw_97 hw_L_begin ⟨by decide, by decide, by decide +kernel⟩ mw_642 dL_law_166 rfl rfl (Nat.le_of_ble_eq_true rfl) ⟨Nat.le_of_ble_eq_true rfl, Nat.le_of_ble_eq_true rfl⟩ hc rfl (fun lay => ?_)
  refine j_istore 171 C dL_law_169 (lo' := (5, .int 0) :: [(0, .ref b), (1, .ref (ga g 0)), (2, .ref (gm g 0)), (3, .ref qo), (4, .int (nI i))]) (by decide) rfl rfl ?_
  refine j_world (fun H h => LW_comm (lay' := ly) h) ?_
  refine j_aload_n 172 C dL_law_171 3 rfl rfl ?_
  refine ls_rd 178 C hX hbl hbA hL 1 1 5 1 dL_law_172 dL_law_173 dL_law_175 dL_law_176 dL_law_177 nz_1 (by omega) rfl rfl rfl ?_
  refine ls_rd 184 C hX hbl hbA hL 2 1 5 2 dL_law_178 dL_law_179 dL_law_181 dL_law_182 dL_law_183 nz_2 (by omega) rfl rfl rfl ?_
  refine lk_Vi (w0 := oW g qo lay (σ', r.toInt64)) (wx := rX g) (σ := ρ) (lay := lay) (As := [.int (xs (i + 1)), .int (xs (i + 2))]) (st := []) 187 C K (fun A1 => c_X6_begin K.2.2.2 g A1 lay hM) cp_X6_begin (fun A1 => rv_M) mw_1074 dL_law_184 rfl rfl (Nat.le_of_ble_eq_true rfl) ⟨Nat.le_of_ble_eq_true rfl, Nat.le_of_ble_eq_true rfl⟩ hc rfl (fun lay1 => ?_)
  refine j_istore 189 C dL_law_187 (lo' := (6, .int r) :: (5, .int 0) :: [(0, .ref b), (1, .ref (ga g 0)), (2, .ref (gm g 0)), (3, .ref qo), (4, .int (nI i))]) (by decide) rfl rfl ?_
  refine j_aload_n 190 C dL_law_189 4 rfl rfl ?_
  refine lk_Vi (w0 := oW g qo lay (σ', r.toInt64)) (wx := rX g) (σ := ρ') (lay := lay1) (As := []) (st := []) (r := 0) 193 C K (fun A1 => c_X6_thrown K.2.2.2 g A1 lay1 (by rw [thr_eq, h0])) cp_X6_thrown (fun A1 => rv_M) mw_1070 dL_law_190 rfl rfl (Nat.le_of_ble_eq_true rfl) ⟨Nat.le_of_ble_eq_true rfl, Nat.le_of_ble_eq_true rfl⟩ hc rfl (fun lay2 => ?_)
  refine j_iload 195 C dL_law_193 1 rfl rfl ?_
  refine j_icmp_eq 198 200 C dL_law_195 (by decide) rfl (fun _ => ?_) (fun h => absurd rfl h)
  refine j_iload 202 C dL_law_200 1 rfl rfl ?_
  refine j_if_ne 205 217 C dL_law_202 (by decide) rfl (fun h => absurd rfl h) (fun _ => ?_)
  refine j_aload_n 206 C dL_law_205 5 rfl rfl ?_
  refine j_iconst 207 C dL_law_206 ic_0 rfl ?_
  change JJ _ _ _ _ _ _ _ _ _ _ _ _ _ (LW g A ly (([outc g qo r.toInt64] ++ cW g lay σ') ++ rW g ρ')) _ _ _ _ _
  refine j_world (fun H h => LW_assoc.mpr h) ?_
  refine lk_lald 208 C K dL_law_207 rfl ?_
  refine j_world (fun H h => LW_assoc.mp h) ?_
  refine j_iload 210 C dL_law_208 0 rfl rfl ?_
  refine j_i2l 211 C dL_law_210 rfl ?_
  refine j_lcmp 212 C dL_law_211 rfl ?_
  refine j_if_eq 215 217 C dL_law_212 (by decide) rfl (fun _ => ?_) (fun h => absurd (lg_cmp_self _) h)
  refine j_goto 1531 C dL_law_217 (by decide) ?_
  refine j_world (fun H h => LW_comm (lay' := ly) h) ?_
  exact j_sub [2, 3, 4, 5, 6] rfl (KK lay)
set_option maxRecDepth 100000 in
theorem lq_begin_2 {p : Program} {l : Launch} {e : Env} {s : State} {m : MethodId} {args : Array Value} {below : List Frame} {meth : Method} {c : Code} {Q : State → Prop} {A : Nat → Prop} {k n : Nat} {g : GG} {ly lay : Nat → Nat} {b L qo : Nat} {xs : Nat → Int32} {i : Nat} {σ σ' : CS} {ρ ρ' : RS} {v : Int64} {r : Int32} (C : KX p m c cL_law 9 s args RL) (K : KC l g A s) (hX : va_X b L xs s s.heap) (hbl : b < s.heap.size) (hbA : ¬ A b) (hi : i + 5 ≤ L) (hL : L ≤ 2560) (hF : F_X5_begin σ (xs (i + 1)) (xs (i + 2)) = some (σ', .inr 2)) (hM : F_X6_begin ρ (xs (i + 1)) (xs (i + 2)) = some (ρ', r)) (h0 : ρ'.1 0 0 = 1) (hc : k + 1 ≤ 601024 ∧ n + 6 ≤ 7293034)
    (KK : ∀ lay : Nat → Nat, JJ p l e room_1 s m args below meth c Q A 9 (LW g A ly (rW g ρ' ++ ([outc g qo v] ++ cW g lay σ'))) (k + 1) (n + 6) 1531 [(0, .ref b), (1, .ref (ga g 0)), (2, .ref (gm g 0)), (3, .ref qo), (4, .int (nI i))] []) : JJ p l e room_1 s m args below meth c Q A 9 (LW g A ly (rW g ρ ++ ([outc g qo v] ++ cW g lay σ))) k n 152 [(0, .ref b), (1, .ref (ga g 0)), (2, .ref (gm g 0)), (3, .ref qo), (4, .int (nI i))] [] := by
  refine j_aload_n 153 C dL_law_152 1 rfl rfl ?_
  refine ls_rd 159 C hX hbl hbA hL 1 0 4 1 dL_law_153 dL_law_154 dL_law_156 dL_law_157 dL_law_158 nz_1 (by omega) rfl rfl rfl ?_
  refine ls_rd 165 C hX hbl hbA hL 2 0 4 2 dL_law_159 dL_law_160 dL_law_162 dL_law_163 dL_law_164 nz_2 (by omega) rfl rfl rfl ?_
  refine j_aload_n 166 C dL_law_165 3 rfl rfl ?_
  refine lk_Sw (np := 4) (w0 := rW g ρ) (wx := oW g qo) (σ := (σ, v)) (σ' := (σ', v)) (lay := lay) (As := [.ref (ga g 0), .int (xs (i + 1)), .int (xs (i + 2)), .ref qo]) (st := []) 169 C K (fun A1 => w_L_begin_2 K.2.2.2 g A1 lay qo hF) mw_643 mw_97 hw_L_begin ⟨by decide, by decide, by decide +kernel⟩ mw_642 dL_law_166 rfl rfl (Nat.le_of_ble_eq_true rfl) ⟨Nat.le_of_ble_eq_true rfl, Nat.le_of_ble_eq_true rfl⟩ hc rfl (fun lay => ?_)
  refine j_istore 171 C dL_law_169 (lo' := (5, .int 1) :: [(0, .ref b), (1, .ref (ga g 0)), (2, .ref (gm g 0)), (3, .ref qo), (4, .int (nI i))]) (by decide) rfl rfl ?_
  refine j_world (fun H h => LW_comm (lay' := ly) h) ?_
  refine j_aload_n 172 C dL_law_171 3 rfl rfl ?_
  refine ls_rd 178 C hX hbl hbA hL 1 1 5 1 dL_law_172 dL_law_173 dL_law_175 dL_law_176 dL_law_177 nz_1 (by omega) rfl rfl rfl ?_
  refine ls_rd 184 C hX hbl hbA hL 2 1 5 2 dL_law_178 dL_law_179 dL_law_181 dL_law_182 dL_law_183 nz_2 (by omega) rfl rfl rfl ?_
  refine lk_Vi (w0 := oW g qo lay (σ', v)) (wx := rX g) (σ := ρ) (lay := lay) (As := [.int (xs (i + 1)), .int (xs (i + 2))]) (st := []) 187 C K (fun A1 => c_X6_begin K.2.2.2 g A1 lay hM) cp_X6_begin (fun A1 => rv_M) mw_1074 dL_law_184 rfl rfl (Nat.le_of_ble_eq_true rfl) ⟨Nat.le_of_ble_eq_true rfl, Nat.le_of_ble_eq_true rfl⟩ hc rfl (fun lay1 => ?_)
  refine j_istore 189 C dL_law_187 (lo' := (6, .int r) :: (5, .int 1) :: [(0, .ref b), (1, .ref (ga g 0)), (2, .ref (gm g 0)), (3, .ref qo), (4, .int (nI i))]) (by decide) rfl rfl ?_
  refine j_aload_n 190 C dL_law_189 4 rfl rfl ?_
  refine lk_Vi (w0 := oW g qo lay (σ', v)) (wx := rX g) (σ := ρ') (lay := lay1) (As := []) (st := []) (r := 1) 193 C K (fun A1 => c_X6_thrown K.2.2.2 g A1 lay1 (by rw [thr_eq, h0])) cp_X6_thrown (fun A1 => rv_M) mw_1070 dL_law_190 rfl rfl (Nat.le_of_ble_eq_true rfl) ⟨Nat.le_of_ble_eq_true rfl, Nat.le_of_ble_eq_true rfl⟩ hc rfl (fun lay2 => ?_)
  refine j_iload 195 C dL_law_193 1 rfl rfl ?_
  refine j_icmp_eq 198 200 C dL_law_195 (by decide) rfl (fun _ => ?_) (fun h => absurd rfl h)
  refine j_iload 202 C dL_law_200 1 rfl rfl ?_
  refine j_if_ne 205 217 C dL_law_202 (by decide) rfl (fun _ => ?_) (fun h => absurd h (by decide))
  change JJ _ _ _ _ _ _ _ _ _ _ _ _ _ (LW g A ly (([outc g qo v] ++ cW g lay σ') ++ rW g ρ')) _ _ _ _ _
  refine j_goto 1531 C dL_law_217 (by decide) ?_
  refine j_world (fun H h => LW_comm (lay' := ly) h) ?_
  exact j_sub [2, 3, 4, 5, 6] rfl (KK lay)
set_option maxRecDepth 100000 in
theorem lq_setBarriers_0 {p : Program} {l : Launch} {e : Env} {s : State} {m : MethodId} {args : Array Value} {below : List Frame} {meth : Method} {c : Code} {Q : State → Prop} {A : Nat → Prop} {k n : Nat} {g : GG} {ly lay : Nat → Nat} {b L qo : Nat} {xs : Nat → Int32} {i : Nat} {σ σ' : CS} {ρ ρ' : RS} {v : Int64} {r : Int32} (C : KX p m c cL_law 9 s args RL) (K : KC l g A s) (hX : va_X b L xs s s.heap) (hbl : b < s.heap.size) (hbA : ¬ A b) (hi : i + 5 ≤ L) (hL : L ≤ 2560) (hb : xs (i + 1) = 0) (hF : F_X5_setBarriers σ 0 = some (σ', r)) (hM : F_X6_setBarriers ρ 0 = some (ρ', r)) (hc : k ≤ 601024 ∧ n ≤ 7293034)
    (KK : ∀ lay : Nat → Nat, JJ p l e room_1 s m args below meth c Q A 9 (LW g A ly (rW g ρ' ++ ([outc g qo v] ++ cW g lay σ'))) k n 1531 [(0, .ref b), (1, .ref (ga g 0)), (2, .ref (gm g 0)), (3, .ref qo), (4, .int (nI i))] []) : JJ p l e room_1 s m args below meth c Q A 9 (LW g A ly (rW g ρ ++ ([outc g qo v] ++ cW g lay σ))) k n 220 [(0, .ref b), (1, .ref (ga g 0)), (2, .ref (gm g 0)), (3, .ref qo), (4, .int (nI i))] [] := by
  refine j_aload_n 221 C dL_law_220 1 rfl rfl ?_
  refine ls_rd 227 C hX hbl hbA hL 1 0 4 1 dL_law_221 dL_law_222 dL_law_224 dL_law_225 dL_law_226 nz_1 (by omega) rfl rfl rfl ?_
  refine j_if_eq 230 234 C dL_law_227 (by decide) rfl (fun _ => ?_) (fun h => absurd hb h)
  refine j_iconst 235 C dL_law_234 ic_0 rfl ?_
  refine j_world (fun H h => LW_assoc.mp h) ?_
  refine lk_Vi (w0 := rW g ρ ++ [outc g qo v]) (wx := cW g) (σ := σ) (lay := lay) (As := [.int 0]) (st := []) 238 C K (fun A1 => c_X5_setBarriers K.2.2.2 g A1 lay hF) cp_X5_setBarriers (fun A1 => rv_F) mw_317 dL_law_235 rfl rfl (Nat.le_of_ble_eq_true rfl) ⟨Nat.le_of_ble_eq_true rfl, Nat.le_of_ble_eq_true rfl⟩ hc rfl (fun lay => ?_)
  refine j_world (fun H h => LW_comm (lay' := ly) (LW_assoc.mpr h)) ?_
  refine j_aload_n 239 C dL_law_238 2 rfl rfl ?_
  refine ls_rd 245 C hX hbl hbA hL 1 0 4 1 dL_law_239 dL_law_240 dL_law_242 dL_law_243 dL_law_244 nz_1 (by omega) rfl rfl rfl ?_
  refine j_if_eq 248 252 C dL_law_245 (by decide) rfl (fun _ => ?_) (fun h => absurd hb h)
  refine j_iconst 253 C dL_law_252 ic_0 rfl ?_
  refine lk_Vi (w0 := [outc g qo v] ++ cW g lay σ') (wx := rX g) (σ := ρ) (lay := lay) (As := [.int 0]) (st := [.int r]) 256 C K (fun A1 => c_X6_setBarriers K.2.2.2 g A1 lay hM) cp_X6_setBarriers (fun A1 => rv_M) mw_1081 dL_law_253 rfl rfl (Nat.le_of_ble_eq_true rfl) ⟨Nat.le_of_ble_eq_true rfl, Nat.le_of_ble_eq_true rfl⟩ hc rfl (fun lay1 => ?_)
  refine j_world (fun H h => LW_comm (lay' := ly) h) ?_
  change JJ _ _ _ _ _ _ _ _ _ _ _ _ _ (LW g A ly (rW g ρ' ++ ([outc g qo v] ++ cW g lay σ'))) _ _ _ _ _
  refine j_icmp_eq 259 1531 C dL_law_256 (by decide) rfl (fun _ => ?_) (fun h => absurd rfl h)
  exact KK lay
set_option maxRecDepth 100000 in
theorem lq_setBarriers_1 {p : Program} {l : Launch} {e : Env} {s : State} {m : MethodId} {args : Array Value} {below : List Frame} {meth : Method} {c : Code} {Q : State → Prop} {A : Nat → Prop} {k n : Nat} {g : GG} {ly lay : Nat → Nat} {b L qo : Nat} {xs : Nat → Int32} {i : Nat} {σ σ' : CS} {ρ ρ' : RS} {v : Int64} {r : Int32} (C : KX p m c cL_law 9 s args RL) (K : KC l g A s) (hX : va_X b L xs s s.heap) (hbl : b < s.heap.size) (hbA : ¬ A b) (hi : i + 5 ≤ L) (hL : L ≤ 2560) (hb : ¬ xs (i + 1) = 0) (hF : F_X5_setBarriers σ 1 = some (σ', r)) (hM : F_X6_setBarriers ρ 1 = some (ρ', r)) (hc : k ≤ 601024 ∧ n ≤ 7293034)
    (KK : ∀ lay : Nat → Nat, JJ p l e room_1 s m args below meth c Q A 9 (LW g A ly (rW g ρ' ++ ([outc g qo v] ++ cW g lay σ'))) k n 1531 [(0, .ref b), (1, .ref (ga g 0)), (2, .ref (gm g 0)), (3, .ref qo), (4, .int (nI i))] []) : JJ p l e room_1 s m args below meth c Q A 9 (LW g A ly (rW g ρ ++ ([outc g qo v] ++ cW g lay σ))) k n 220 [(0, .ref b), (1, .ref (ga g 0)), (2, .ref (gm g 0)), (3, .ref qo), (4, .int (nI i))] [] := by
  refine j_aload_n 221 C dL_law_220 1 rfl rfl ?_
  refine ls_rd 227 C hX hbl hbA hL 1 0 4 1 dL_law_221 dL_law_222 dL_law_224 dL_law_225 dL_law_226 nz_1 (by omega) rfl rfl rfl ?_
  refine j_if_eq 230 234 C dL_law_227 (by decide) rfl (fun h => absurd h hb) (fun _ => ?_)
  refine j_iconst 231 C dL_law_230 ic_1 rfl ?_
  refine j_goto 235 C dL_law_231 (by decide) ?_
  refine j_world (fun H h => LW_assoc.mp h) ?_
  refine lk_Vi (w0 := rW g ρ ++ [outc g qo v]) (wx := cW g) (σ := σ) (lay := lay) (As := [.int 1]) (st := []) 238 C K (fun A1 => c_X5_setBarriers K.2.2.2 g A1 lay hF) cp_X5_setBarriers (fun A1 => rv_F) mw_317 dL_law_235 rfl rfl (Nat.le_of_ble_eq_true rfl) ⟨Nat.le_of_ble_eq_true rfl, Nat.le_of_ble_eq_true rfl⟩ hc rfl (fun lay => ?_)
  refine j_world (fun H h => LW_comm (lay' := ly) (LW_assoc.mpr h)) ?_
  refine j_aload_n 239 C dL_law_238 2 rfl rfl ?_
  refine ls_rd 245 C hX hbl hbA hL 1 0 4 1 dL_law_239 dL_law_240 dL_law_242 dL_law_243 dL_law_244 nz_1 (by omega) rfl rfl rfl ?_
  refine j_if_eq 248 252 C dL_law_245 (by decide) rfl (fun h => absurd h hb) (fun _ => ?_)
  refine j_iconst 249 C dL_law_248 ic_1 rfl ?_
  refine j_goto 253 C dL_law_249 (by decide) ?_
  refine lk_Vi (w0 := [outc g qo v] ++ cW g lay σ') (wx := rX g) (σ := ρ) (lay := lay) (As := [.int 1]) (st := [.int r]) 256 C K (fun A1 => c_X6_setBarriers K.2.2.2 g A1 lay hM) cp_X6_setBarriers (fun A1 => rv_M) mw_1081 dL_law_253 rfl rfl (Nat.le_of_ble_eq_true rfl) ⟨Nat.le_of_ble_eq_true rfl, Nat.le_of_ble_eq_true rfl⟩ hc rfl (fun lay1 => ?_)
  refine j_world (fun H h => LW_comm (lay' := ly) h) ?_
  change JJ _ _ _ _ _ _ _ _ _ _ _ _ _ (LW g A ly (rW g ρ' ++ ([outc g qo v] ++ cW g lay σ'))) _ _ _ _ _
  refine j_icmp_eq 259 1531 C dL_law_256 (by decide) rfl (fun _ => ?_) (fun h => absurd rfl h)
  exact KK lay
set_option maxRecDepth 100000 in
theorem lq_prepare {p : Program} {l : Launch} {e : Env} {s : State} {m : MethodId} {args : Array Value} {below : List Frame} {meth : Method} {c : Code} {Q : State → Prop} {A : Nat → Prop} {k n : Nat} {g : GG} {ly lay : Nat → Nat} {b L qo : Nat} {xs : Nat → Int32} {i : Nat} {σ σ' : CS} {ρ ρ' : RS} {v : Int64} {r : Int32} (C : KX p m c cL_law 9 s args RL) (K : KC l g A s) (hX : va_X b L xs s s.heap) (hbl : b < s.heap.size) (hbA : ¬ A b) (hi : i + 5 ≤ L) (hL : L ≤ 2560) (hF : F_X5_prepare σ (xs (i + 1)) (xs (i + 2)) = some (σ', .inl r)) (hM : F_X6_prepare ρ (xs (i + 1)) (xs (i + 2)) = some (ρ', r)) (h0 : ρ'.1 0 0 = 0) (hc : k + 24 ≤ 601024 ∧ n + 12288 ≤ 7293034)
    (KK : ∀ lay : Nat → Nat, JJ p l e room_1 s m args below meth c Q A 9 (LW g A ly (rW g ρ' ++ ([outc g qo r.toInt64] ++ cW g lay σ'))) (k + 24) (n + 12288) 1531 [(0, .ref b), (1, .ref (ga g 0)), (2, .ref (gm g 0)), (3, .ref qo), (4, .int (nI i))] []) : JJ p l e room_1 s m args below meth c Q A 9 (LW g A ly (rW g ρ ++ ([outc g qo v] ++ cW g lay σ))) k n 261 [(0, .ref b), (1, .ref (ga g 0)), (2, .ref (gm g 0)), (3, .ref qo), (4, .int (nI i))] [] := by
  refine j_aload_n 262 C dL_law_261 1 rfl rfl ?_
  refine ls_rd 268 C hX hbl hbA hL 1 0 4 1 dL_law_262 dL_law_263 dL_law_265 dL_law_266 dL_law_267 nz_1 (by omega) rfl rfl rfl ?_
  refine ls_rd 274 C hX hbl hbA hL 2 0 4 2 dL_law_268 dL_law_269 dL_law_271 dL_law_272 dL_law_273 nz_2 (by omega) rfl rfl rfl ?_
  refine j_aload_n 275 C dL_law_274 3 rfl rfl ?_
  refine lk_Sw (np := 4) (w0 := rW g ρ) (wx := oW g qo) (σ := (σ, v)) (σ' := (σ', r.toInt64)) (lay := lay) (As := [.ref (ga g 0), .int (xs (i + 1)), .int (xs (i + 2)), .ref qo]) (st := []) 278 C K (fun A1 => w_L_prepare K.2.2.2 g A1 lay qo hF) mw_669 mw_97 hw_L_prepare ⟨by decide, by decide, by decide +kernel⟩ mw_668 dL_law_275 rfl rfl (Nat.le_of_ble_eq_true rfl) ⟨Nat.le_of_ble_eq_true rfl, Nat.le_of_ble_eq_true rfl⟩ hc rfl (fun lay => ?_)
  refine j_istore 280 C dL_law_278 (lo' := (5, .int 0) :: [(0, .ref b), (1, .ref (ga g 0)), (2, .ref (gm g 0)), (3, .ref qo), (4, .int (nI i))]) (by decide) rfl rfl ?_
  refine j_world (fun H h => LW_comm (lay' := ly) h) ?_
  refine j_aload_n 281 C dL_law_280 3 rfl rfl ?_
  refine ls_rd 287 C hX hbl hbA hL 1 1 5 1 dL_law_281 dL_law_282 dL_law_284 dL_law_285 dL_law_286 nz_1 (by omega) rfl rfl rfl ?_
  refine ls_rd 293 C hX hbl hbA hL 2 1 5 2 dL_law_287 dL_law_288 dL_law_290 dL_law_291 dL_law_292 nz_2 (by omega) rfl rfl rfl ?_
  refine lk_Vi (w0 := oW g qo lay (σ', r.toInt64)) (wx := rX g) (σ := ρ) (lay := lay) (As := [.int (xs (i + 1)), .int (xs (i + 2))]) (st := []) 296 C K (fun A1 => c_X6_prepare K.2.2.2 g A1 lay hM) cp_X6_prepare (fun A1 => rv_M) mw_1085 dL_law_293 rfl rfl (Nat.le_of_ble_eq_true rfl) ⟨Nat.le_of_ble_eq_true rfl, Nat.le_of_ble_eq_true rfl⟩ hc rfl (fun lay1 => ?_)
  refine j_istore 298 C dL_law_296 (lo' := (6, .int r) :: (5, .int 0) :: [(0, .ref b), (1, .ref (ga g 0)), (2, .ref (gm g 0)), (3, .ref qo), (4, .int (nI i))]) (by decide) rfl rfl ?_
  refine j_aload_n 299 C dL_law_298 4 rfl rfl ?_
  refine lk_Vi (w0 := oW g qo lay (σ', r.toInt64)) (wx := rX g) (σ := ρ') (lay := lay1) (As := []) (st := []) (r := 0) 302 C K (fun A1 => c_X6_thrown K.2.2.2 g A1 lay1 (by rw [thr_eq, h0])) cp_X6_thrown (fun A1 => rv_M) mw_1070 dL_law_299 rfl rfl (Nat.le_of_ble_eq_true rfl) ⟨Nat.le_of_ble_eq_true rfl, Nat.le_of_ble_eq_true rfl⟩ hc rfl (fun lay2 => ?_)
  refine j_iload 304 C dL_law_302 1 rfl rfl ?_
  refine j_icmp_eq 307 309 C dL_law_304 (by decide) rfl (fun _ => ?_) (fun h => absurd rfl h)
  refine j_iload 311 C dL_law_309 1 rfl rfl ?_
  refine j_if_ne 314 326 C dL_law_311 (by decide) rfl (fun h => absurd rfl h) (fun _ => ?_)
  refine j_aload_n 315 C dL_law_314 5 rfl rfl ?_
  refine j_iconst 316 C dL_law_315 ic_0 rfl ?_
  change JJ _ _ _ _ _ _ _ _ _ _ _ _ _ (LW g A ly (([outc g qo r.toInt64] ++ cW g lay σ') ++ rW g ρ')) _ _ _ _ _
  refine j_world (fun H h => LW_assoc.mpr h) ?_
  refine lk_lald 317 C K dL_law_316 rfl ?_
  refine j_world (fun H h => LW_assoc.mp h) ?_
  refine j_iload 319 C dL_law_317 0 rfl rfl ?_
  refine j_i2l 320 C dL_law_319 rfl ?_
  refine j_lcmp 321 C dL_law_320 rfl ?_
  refine j_if_eq 324 326 C dL_law_321 (by decide) rfl (fun _ => ?_) (fun h => absurd (lg_cmp_self _) h)
  refine j_goto 1531 C dL_law_326 (by decide) ?_
  refine j_world (fun H h => LW_comm (lay' := ly) h) ?_
  exact j_sub [2, 3, 4, 5, 6] rfl (KK lay)
set_option maxRecDepth 100000 in
theorem lq_prepare_1 {p : Program} {l : Launch} {e : Env} {s : State} {m : MethodId} {args : Array Value} {below : List Frame} {meth : Method} {c : Code} {Q : State → Prop} {A : Nat → Prop} {k n : Nat} {g : GG} {ly lay : Nat → Nat} {b L qo : Nat} {xs : Nat → Int32} {i : Nat} {σ σ' : CS} {ρ ρ' : RS} {v : Int64} {r : Int32} (C : KX p m c cL_law 9 s args RL) (K : KC l g A s) (hX : va_X b L xs s s.heap) (hbl : b < s.heap.size) (hbA : ¬ A b) (hi : i + 5 ≤ L) (hL : L ≤ 2560) (hF : F_X5_prepare σ (xs (i + 1)) (xs (i + 2)) = some (σ', .inr 1)) (hM : F_X6_prepare ρ (xs (i + 1)) (xs (i + 2)) = some (ρ', r)) (h0 : ρ'.1 0 0 = 1) (hc : k + 1 ≤ 601024 ∧ n + 6 ≤ 7293034)
    (KK : ∀ lay : Nat → Nat, JJ p l e room_1 s m args below meth c Q A 9 (LW g A ly (rW g ρ' ++ ([outc g qo v] ++ cW g lay σ'))) (k + 1) (n + 6) 1531 [(0, .ref b), (1, .ref (ga g 0)), (2, .ref (gm g 0)), (3, .ref qo), (4, .int (nI i))] []) : JJ p l e room_1 s m args below meth c Q A 9 (LW g A ly (rW g ρ ++ ([outc g qo v] ++ cW g lay σ))) k n 261 [(0, .ref b), (1, .ref (ga g 0)), (2, .ref (gm g 0)), (3, .ref qo), (4, .int (nI i))] [] := by
  refine j_aload_n 262 C dL_law_261 1 rfl rfl ?_
  refine ls_rd 268 C hX hbl hbA hL 1 0 4 1 dL_law_262 dL_law_263 dL_law_265 dL_law_266 dL_law_267 nz_1 (by omega) rfl rfl rfl ?_
  refine ls_rd 274 C hX hbl hbA hL 2 0 4 2 dL_law_268 dL_law_269 dL_law_271 dL_law_272 dL_law_273 nz_2 (by omega) rfl rfl rfl ?_
  refine j_aload_n 275 C dL_law_274 3 rfl rfl ?_
  refine lk_Sw (np := 4) (w0 := rW g ρ) (wx := oW g qo) (σ := (σ, v)) (σ' := (σ', v)) (lay := lay) (As := [.ref (ga g 0), .int (xs (i + 1)), .int (xs (i + 2)), .ref qo]) (st := []) 278 C K (fun A1 => w_L_prepare_1 K.2.2.2 g A1 lay qo hF) mw_669 mw_97 hw_L_prepare ⟨by decide, by decide, by decide +kernel⟩ mw_668 dL_law_275 rfl rfl (Nat.le_of_ble_eq_true rfl) ⟨Nat.le_of_ble_eq_true rfl, Nat.le_of_ble_eq_true rfl⟩ hc rfl (fun lay => ?_)
  refine j_istore 280 C dL_law_278 (lo' := (5, .int 1) :: [(0, .ref b), (1, .ref (ga g 0)), (2, .ref (gm g 0)), (3, .ref qo), (4, .int (nI i))]) (by decide) rfl rfl ?_
  refine j_world (fun H h => LW_comm (lay' := ly) h) ?_
  refine j_aload_n 281 C dL_law_280 3 rfl rfl ?_
  refine ls_rd 287 C hX hbl hbA hL 1 1 5 1 dL_law_281 dL_law_282 dL_law_284 dL_law_285 dL_law_286 nz_1 (by omega) rfl rfl rfl ?_
  refine ls_rd 293 C hX hbl hbA hL 2 1 5 2 dL_law_287 dL_law_288 dL_law_290 dL_law_291 dL_law_292 nz_2 (by omega) rfl rfl rfl ?_
  refine lk_Vi (w0 := oW g qo lay (σ', v)) (wx := rX g) (σ := ρ) (lay := lay) (As := [.int (xs (i + 1)), .int (xs (i + 2))]) (st := []) 296 C K (fun A1 => c_X6_prepare K.2.2.2 g A1 lay hM) cp_X6_prepare (fun A1 => rv_M) mw_1085 dL_law_293 rfl rfl (Nat.le_of_ble_eq_true rfl) ⟨Nat.le_of_ble_eq_true rfl, Nat.le_of_ble_eq_true rfl⟩ hc rfl (fun lay1 => ?_)
  refine j_istore 298 C dL_law_296 (lo' := (6, .int r) :: (5, .int 1) :: [(0, .ref b), (1, .ref (ga g 0)), (2, .ref (gm g 0)), (3, .ref qo), (4, .int (nI i))]) (by decide) rfl rfl ?_
  refine j_aload_n 299 C dL_law_298 4 rfl rfl ?_
  refine lk_Vi (w0 := oW g qo lay (σ', v)) (wx := rX g) (σ := ρ') (lay := lay1) (As := []) (st := []) (r := 1) 302 C K (fun A1 => c_X6_thrown K.2.2.2 g A1 lay1 (by rw [thr_eq, h0])) cp_X6_thrown (fun A1 => rv_M) mw_1070 dL_law_299 rfl rfl (Nat.le_of_ble_eq_true rfl) ⟨Nat.le_of_ble_eq_true rfl, Nat.le_of_ble_eq_true rfl⟩ hc rfl (fun lay2 => ?_)
  refine j_iload 304 C dL_law_302 1 rfl rfl ?_
  refine j_icmp_eq 307 309 C dL_law_304 (by decide) rfl (fun _ => ?_) (fun h => absurd rfl h)
  refine j_iload 311 C dL_law_309 1 rfl rfl ?_
  refine j_if_ne 314 326 C dL_law_311 (by decide) rfl (fun _ => ?_) (fun h => absurd h (by decide))
  change JJ _ _ _ _ _ _ _ _ _ _ _ _ _ (LW g A ly (([outc g qo v] ++ cW g lay σ') ++ rW g ρ')) _ _ _ _ _
  refine j_goto 1531 C dL_law_326 (by decide) ?_
  refine j_world (fun H h => LW_comm (lay' := ly) h) ?_
  exact j_sub [2, 3, 4, 5, 6] rfl (KK lay)
set_option maxRecDepth 100000 in
theorem lq_prepare_2 {p : Program} {l : Launch} {e : Env} {s : State} {m : MethodId} {args : Array Value} {below : List Frame} {meth : Method} {c : Code} {Q : State → Prop} {A : Nat → Prop} {k n : Nat} {g : GG} {ly lay : Nat → Nat} {b L qo : Nat} {xs : Nat → Int32} {i : Nat} {σ σ' : CS} {ρ ρ' : RS} {v : Int64} {r : Int32} (C : KX p m c cL_law 9 s args RL) (K : KC l g A s) (hX : va_X b L xs s s.heap) (hbl : b < s.heap.size) (hbA : ¬ A b) (hi : i + 5 ≤ L) (hL : L ≤ 2560) (hF : F_X5_prepare σ (xs (i + 1)) (xs (i + 2)) = some (σ', .inr 2)) (hM : F_X6_prepare ρ (xs (i + 1)) (xs (i + 2)) = some (ρ', r)) (h0 : ρ'.1 0 0 = 2) (hc : k + 1 ≤ 601024 ∧ n + 6 ≤ 7293034)
    (KK : ∀ lay : Nat → Nat, JJ p l e room_1 s m args below meth c Q A 9 (LW g A ly (rW g ρ' ++ ([outc g qo v] ++ cW g lay σ'))) (k + 1) (n + 6) 1531 [(0, .ref b), (1, .ref (ga g 0)), (2, .ref (gm g 0)), (3, .ref qo), (4, .int (nI i))] []) : JJ p l e room_1 s m args below meth c Q A 9 (LW g A ly (rW g ρ ++ ([outc g qo v] ++ cW g lay σ))) k n 261 [(0, .ref b), (1, .ref (ga g 0)), (2, .ref (gm g 0)), (3, .ref qo), (4, .int (nI i))] [] := by
  refine j_aload_n 262 C dL_law_261 1 rfl rfl ?_
  refine ls_rd 268 C hX hbl hbA hL 1 0 4 1 dL_law_262 dL_law_263 dL_law_265 dL_law_266 dL_law_267 nz_1 (by omega) rfl rfl rfl ?_
  refine ls_rd 274 C hX hbl hbA hL 2 0 4 2 dL_law_268 dL_law_269 dL_law_271 dL_law_272 dL_law_273 nz_2 (by omega) rfl rfl rfl ?_
  refine j_aload_n 275 C dL_law_274 3 rfl rfl ?_
  refine lk_Sw (np := 4) (w0 := rW g ρ) (wx := oW g qo) (σ := (σ, v)) (σ' := (σ', v)) (lay := lay) (As := [.ref (ga g 0), .int (xs (i + 1)), .int (xs (i + 2)), .ref qo]) (st := []) 278 C K (fun A1 => w_L_prepare_2 K.2.2.2 g A1 lay qo hF) mw_669 mw_97 hw_L_prepare ⟨by decide, by decide, by decide +kernel⟩ mw_668 dL_law_275 rfl rfl (Nat.le_of_ble_eq_true rfl) ⟨Nat.le_of_ble_eq_true rfl, Nat.le_of_ble_eq_true rfl⟩ hc rfl (fun lay => ?_)
  refine j_istore 280 C dL_law_278 (lo' := (5, .int 2) :: [(0, .ref b), (1, .ref (ga g 0)), (2, .ref (gm g 0)), (3, .ref qo), (4, .int (nI i))]) (by decide) rfl rfl ?_
  refine j_world (fun H h => LW_comm (lay' := ly) h) ?_
  refine j_aload_n 281 C dL_law_280 3 rfl rfl ?_
  refine ls_rd 287 C hX hbl hbA hL 1 1 5 1 dL_law_281 dL_law_282 dL_law_284 dL_law_285 dL_law_286 nz_1 (by omega) rfl rfl rfl ?_
  refine ls_rd 293 C hX hbl hbA hL 2 1 5 2 dL_law_287 dL_law_288 dL_law_290 dL_law_291 dL_law_292 nz_2 (by omega) rfl rfl rfl ?_
  refine lk_Vi (w0 := oW g qo lay (σ', v)) (wx := rX g) (σ := ρ) (lay := lay) (As := [.int (xs (i + 1)), .int (xs (i + 2))]) (st := []) 296 C K (fun A1 => c_X6_prepare K.2.2.2 g A1 lay hM) cp_X6_prepare (fun A1 => rv_M) mw_1085 dL_law_293 rfl rfl (Nat.le_of_ble_eq_true rfl) ⟨Nat.le_of_ble_eq_true rfl, Nat.le_of_ble_eq_true rfl⟩ hc rfl (fun lay1 => ?_)
  refine j_istore 298 C dL_law_296 (lo' := (6, .int r) :: (5, .int 2) :: [(0, .ref b), (1, .ref (ga g 0)), (2, .ref (gm g 0)), (3, .ref qo), (4, .int (nI i))]) (by decide) rfl rfl ?_
  refine j_aload_n 299 C dL_law_298 4 rfl rfl ?_
  refine lk_Vi (w0 := oW g qo lay (σ', v)) (wx := rX g) (σ := ρ') (lay := lay1) (As := []) (st := []) (r := 2) 302 C K (fun A1 => c_X6_thrown K.2.2.2 g A1 lay1 (by rw [thr_eq, h0])) cp_X6_thrown (fun A1 => rv_M) mw_1070 dL_law_299 rfl rfl (Nat.le_of_ble_eq_true rfl) ⟨Nat.le_of_ble_eq_true rfl, Nat.le_of_ble_eq_true rfl⟩ hc rfl (fun lay2 => ?_)
  refine j_iload 304 C dL_law_302 1 rfl rfl ?_
  refine j_icmp_eq 307 309 C dL_law_304 (by decide) rfl (fun _ => ?_) (fun h => absurd rfl h)
  refine j_iload 311 C dL_law_309 1 rfl rfl ?_
  refine j_if_ne 314 326 C dL_law_311 (by decide) rfl (fun _ => ?_) (fun h => absurd h (by decide))
  change JJ _ _ _ _ _ _ _ _ _ _ _ _ _ (LW g A ly (([outc g qo v] ++ cW g lay σ') ++ rW g ρ')) _ _ _ _ _
  refine j_goto 1531 C dL_law_326 (by decide) ?_
  refine j_world (fun H h => LW_comm (lay' := ly) h) ?_
  exact j_sub [2, 3, 4, 5, 6] rfl (KK lay)
set_option maxRecDepth 100000 in
theorem lq_prepare_3 {p : Program} {l : Launch} {e : Env} {s : State} {m : MethodId} {args : Array Value} {below : List Frame} {meth : Method} {c : Code} {Q : State → Prop} {A : Nat → Prop} {k n : Nat} {g : GG} {ly lay : Nat → Nat} {b L qo : Nat} {xs : Nat → Int32} {i : Nat} {σ σ' : CS} {ρ ρ' : RS} {v : Int64} {r : Int32} (C : KX p m c cL_law 9 s args RL) (K : KC l g A s) (hX : va_X b L xs s s.heap) (hbl : b < s.heap.size) (hbA : ¬ A b) (hi : i + 5 ≤ L) (hL : L ≤ 2560) (hF : F_X5_prepare σ (xs (i + 1)) (xs (i + 2)) = some (σ', .inr 3)) (hM : F_X6_prepare ρ (xs (i + 1)) (xs (i + 2)) = some (ρ', r)) (h0 : ρ'.1 0 0 = 3) (hc : k + 1 ≤ 601024 ∧ n + 6 ≤ 7293034)
    (KK : ∀ lay : Nat → Nat, JJ p l e room_1 s m args below meth c Q A 9 (LW g A ly (rW g ρ' ++ ([outc g qo v] ++ cW g lay σ'))) (k + 1) (n + 6) 1531 [(0, .ref b), (1, .ref (ga g 0)), (2, .ref (gm g 0)), (3, .ref qo), (4, .int (nI i))] []) : JJ p l e room_1 s m args below meth c Q A 9 (LW g A ly (rW g ρ ++ ([outc g qo v] ++ cW g lay σ))) k n 261 [(0, .ref b), (1, .ref (ga g 0)), (2, .ref (gm g 0)), (3, .ref qo), (4, .int (nI i))] [] := by
  refine j_aload_n 262 C dL_law_261 1 rfl rfl ?_
  refine ls_rd 268 C hX hbl hbA hL 1 0 4 1 dL_law_262 dL_law_263 dL_law_265 dL_law_266 dL_law_267 nz_1 (by omega) rfl rfl rfl ?_
  refine ls_rd 274 C hX hbl hbA hL 2 0 4 2 dL_law_268 dL_law_269 dL_law_271 dL_law_272 dL_law_273 nz_2 (by omega) rfl rfl rfl ?_
  refine j_aload_n 275 C dL_law_274 3 rfl rfl ?_
  refine lk_Sw (np := 4) (w0 := rW g ρ) (wx := oW g qo) (σ := (σ, v)) (σ' := (σ', v)) (lay := lay) (As := [.ref (ga g 0), .int (xs (i + 1)), .int (xs (i + 2)), .ref qo]) (st := []) 278 C K (fun A1 => w_L_prepare_3 K.2.2.2 g A1 lay qo hF) mw_669 mw_97 hw_L_prepare ⟨by decide, by decide, by decide +kernel⟩ mw_668 dL_law_275 rfl rfl (Nat.le_of_ble_eq_true rfl) ⟨Nat.le_of_ble_eq_true rfl, Nat.le_of_ble_eq_true rfl⟩ hc rfl (fun lay => ?_)
  refine j_istore 280 C dL_law_278 (lo' := (5, .int 3) :: [(0, .ref b), (1, .ref (ga g 0)), (2, .ref (gm g 0)), (3, .ref qo), (4, .int (nI i))]) (by decide) rfl rfl ?_
  refine j_world (fun H h => LW_comm (lay' := ly) h) ?_
  refine j_aload_n 281 C dL_law_280 3 rfl rfl ?_
  refine ls_rd 287 C hX hbl hbA hL 1 1 5 1 dL_law_281 dL_law_282 dL_law_284 dL_law_285 dL_law_286 nz_1 (by omega) rfl rfl rfl ?_
  refine ls_rd 293 C hX hbl hbA hL 2 1 5 2 dL_law_287 dL_law_288 dL_law_290 dL_law_291 dL_law_292 nz_2 (by omega) rfl rfl rfl ?_
  refine lk_Vi (w0 := oW g qo lay (σ', v)) (wx := rX g) (σ := ρ) (lay := lay) (As := [.int (xs (i + 1)), .int (xs (i + 2))]) (st := []) 296 C K (fun A1 => c_X6_prepare K.2.2.2 g A1 lay hM) cp_X6_prepare (fun A1 => rv_M) mw_1085 dL_law_293 rfl rfl (Nat.le_of_ble_eq_true rfl) ⟨Nat.le_of_ble_eq_true rfl, Nat.le_of_ble_eq_true rfl⟩ hc rfl (fun lay1 => ?_)
  refine j_istore 298 C dL_law_296 (lo' := (6, .int r) :: (5, .int 3) :: [(0, .ref b), (1, .ref (ga g 0)), (2, .ref (gm g 0)), (3, .ref qo), (4, .int (nI i))]) (by decide) rfl rfl ?_
  refine j_aload_n 299 C dL_law_298 4 rfl rfl ?_
  refine lk_Vi (w0 := oW g qo lay (σ', v)) (wx := rX g) (σ := ρ') (lay := lay1) (As := []) (st := []) (r := 3) 302 C K (fun A1 => c_X6_thrown K.2.2.2 g A1 lay1 (by rw [thr_eq, h0])) cp_X6_thrown (fun A1 => rv_M) mw_1070 dL_law_299 rfl rfl (Nat.le_of_ble_eq_true rfl) ⟨Nat.le_of_ble_eq_true rfl, Nat.le_of_ble_eq_true rfl⟩ hc rfl (fun lay2 => ?_)
  refine j_iload 304 C dL_law_302 1 rfl rfl ?_
  refine j_icmp_eq 307 309 C dL_law_304 (by decide) rfl (fun _ => ?_) (fun h => absurd rfl h)
  refine j_iload 311 C dL_law_309 1 rfl rfl ?_
  refine j_if_ne 314 326 C dL_law_311 (by decide) rfl (fun _ => ?_) (fun h => absurd h (by decide))
  change JJ _ _ _ _ _ _ _ _ _ _ _ _ _ (LW g A ly (([outc g qo v] ++ cW g lay σ') ++ rW g ρ')) _ _ _ _ _
  refine j_goto 1531 C dL_law_326 (by decide) ?_
  refine j_world (fun H h => LW_comm (lay' := ly) h) ?_
  exact j_sub [2, 3, 4, 5, 6] rfl (KK lay)
set_option maxRecDepth 100000 in
theorem lq_accept {p : Program} {l : Launch} {e : Env} {s : State} {m : MethodId} {args : Array Value} {below : List Frame} {meth : Method} {c : Code} {Q : State → Prop} {A : Nat → Prop} {k n : Nat} {g : GG} {ly lay : Nat → Nat} {b L qo : Nat} {xs : Nat → Int32} {i : Nat} {σ σ' : CS} {ρ ρ' : RS} {v : Int64} {r : Int32} (C : KX p m c cL_law 9 s args RL) (K : KC l g A s) (hX : va_X b L xs s s.heap) (hbl : b < s.heap.size) (hbA : ¬ A b) (hi : i + 5 ≤ L) (hL : L ≤ 2560) (hF : F_X5_accept σ (xs (i + 1)) (xs (i + 2)) (xs (i + 3)) (xs (i + 4)) = some (σ', .inl r)) (hM : F_X6_accept ρ (xs (i + 1)) (xs (i + 2)) (xs (i + 3)) (xs (i + 4)) = some (ρ', r)) (h0 : ρ'.1 0 0 = 0) (hc : k + 24 ≤ 601024 ∧ n + 12288 ≤ 7293034)
    (KK : ∀ lay : Nat → Nat, JJ p l e room_1 s m args below meth c Q A 9 (LW g A ly (rW g ρ' ++ ([outc g qo r.toInt64] ++ cW g lay σ'))) (k + 24) (n + 12288) 1531 [(0, .ref b), (1, .ref (ga g 0)), (2, .ref (gm g 0)), (3, .ref qo), (4, .int (nI i))] []) : JJ p l e room_1 s m args below meth c Q A 9 (LW g A ly (rW g ρ ++ ([outc g qo v] ++ cW g lay σ))) k n 329 [(0, .ref b), (1, .ref (ga g 0)), (2, .ref (gm g 0)), (3, .ref qo), (4, .int (nI i))] [] := by
  refine j_aload_n 330 C dL_law_329 1 rfl rfl ?_
  refine ls_rd 336 C hX hbl hbA hL 1 0 4 1 dL_law_330 dL_law_331 dL_law_333 dL_law_334 dL_law_335 nz_1 (by omega) rfl rfl rfl ?_
  refine ls_rd 342 C hX hbl hbA hL 2 0 4 2 dL_law_336 dL_law_337 dL_law_339 dL_law_340 dL_law_341 nz_2 (by omega) rfl rfl rfl ?_
  refine ls_rd 348 C hX hbl hbA hL 3 0 4 3 dL_law_342 dL_law_343 dL_law_345 dL_law_346 dL_law_347 nz_3 (by omega) rfl rfl rfl ?_
  refine ls_rd 354 C hX hbl hbA hL 4 0 4 4 dL_law_348 dL_law_349 dL_law_351 dL_law_352 dL_law_353 nz_4 (by omega) rfl rfl rfl ?_
  refine j_aload_n 355 C dL_law_354 3 rfl rfl ?_
  refine lk_Sw (np := 6) (w0 := rW g ρ) (wx := oW g qo) (σ := (σ, v)) (σ' := (σ', r.toInt64)) (lay := lay) (As := [.ref (ga g 0), .int (xs (i + 1)), .int (xs (i + 2)), .int (xs (i + 3)), .int (xs (i + 4)), .ref qo]) (st := []) 358 C K (fun A1 => w_L_accept K.2.2.2 g A1 lay qo hF) mw_750 mw_97 hw_L_accept ⟨by decide, by decide, by decide +kernel⟩ mw_749 dL_law_355 rfl rfl (Nat.le_of_ble_eq_true rfl) ⟨Nat.le_of_ble_eq_true rfl, Nat.le_of_ble_eq_true rfl⟩ hc rfl (fun lay => ?_)
  refine j_istore 360 C dL_law_358 (lo' := (5, .int 0) :: [(0, .ref b), (1, .ref (ga g 0)), (2, .ref (gm g 0)), (3, .ref qo), (4, .int (nI i))]) (by decide) rfl rfl ?_
  refine j_world (fun H h => LW_comm (lay' := ly) h) ?_
  refine j_aload_n 361 C dL_law_360 3 rfl rfl ?_
  refine ls_rd 367 C hX hbl hbA hL 1 1 5 1 dL_law_361 dL_law_362 dL_law_364 dL_law_365 dL_law_366 nz_1 (by omega) rfl rfl rfl ?_
  refine ls_rd 373 C hX hbl hbA hL 2 1 5 2 dL_law_367 dL_law_368 dL_law_370 dL_law_371 dL_law_372 nz_2 (by omega) rfl rfl rfl ?_
  refine ls_rd 379 C hX hbl hbA hL 3 1 5 3 dL_law_373 dL_law_374 dL_law_376 dL_law_377 dL_law_378 nz_3 (by omega) rfl rfl rfl ?_
  refine ls_rd 385 C hX hbl hbA hL 4 1 5 4 dL_law_379 dL_law_380 dL_law_382 dL_law_383 dL_law_384 nz_4 (by omega) rfl rfl rfl ?_
  refine lk_Vi (w0 := oW g qo lay (σ', r.toInt64)) (wx := rX g) (σ := ρ) (lay := lay) (As := [.int (xs (i + 1)), .int (xs (i + 2)), .int (xs (i + 3)), .int (xs (i + 4))]) (st := []) 388 C K (fun A1 => c_X6_accept K.2.2.2 g A1 lay hM) cp_X6_accept (fun A1 => rv_M) mw_1133 dL_law_385 rfl rfl (Nat.le_of_ble_eq_true rfl) ⟨Nat.le_of_ble_eq_true rfl, Nat.le_of_ble_eq_true rfl⟩ hc rfl (fun lay1 => ?_)
  refine j_istore 390 C dL_law_388 (lo' := (6, .int r) :: (5, .int 0) :: [(0, .ref b), (1, .ref (ga g 0)), (2, .ref (gm g 0)), (3, .ref qo), (4, .int (nI i))]) (by decide) rfl rfl ?_
  refine j_aload_n 391 C dL_law_390 4 rfl rfl ?_
  refine lk_Vi (w0 := oW g qo lay (σ', r.toInt64)) (wx := rX g) (σ := ρ') (lay := lay1) (As := []) (st := []) (r := 0) 394 C K (fun A1 => c_X6_thrown K.2.2.2 g A1 lay1 (by rw [thr_eq, h0])) cp_X6_thrown (fun A1 => rv_M) mw_1070 dL_law_391 rfl rfl (Nat.le_of_ble_eq_true rfl) ⟨Nat.le_of_ble_eq_true rfl, Nat.le_of_ble_eq_true rfl⟩ hc rfl (fun lay2 => ?_)
  refine j_iload 396 C dL_law_394 1 rfl rfl ?_
  refine j_icmp_eq 399 401 C dL_law_396 (by decide) rfl (fun _ => ?_) (fun h => absurd rfl h)
  refine j_iload 403 C dL_law_401 1 rfl rfl ?_
  refine j_if_ne 406 418 C dL_law_403 (by decide) rfl (fun h => absurd rfl h) (fun _ => ?_)
  refine j_aload_n 407 C dL_law_406 5 rfl rfl ?_
  refine j_iconst 408 C dL_law_407 ic_0 rfl ?_
  change JJ _ _ _ _ _ _ _ _ _ _ _ _ _ (LW g A ly (([outc g qo r.toInt64] ++ cW g lay σ') ++ rW g ρ')) _ _ _ _ _
  refine j_world (fun H h => LW_assoc.mpr h) ?_
  refine lk_lald 409 C K dL_law_408 rfl ?_
  refine j_world (fun H h => LW_assoc.mp h) ?_
  refine j_iload 411 C dL_law_409 0 rfl rfl ?_
  refine j_i2l 412 C dL_law_411 rfl ?_
  refine j_lcmp 413 C dL_law_412 rfl ?_
  refine j_if_eq 416 418 C dL_law_413 (by decide) rfl (fun _ => ?_) (fun h => absurd (lg_cmp_self _) h)
  refine j_goto 1531 C dL_law_418 (by decide) ?_
  refine j_world (fun H h => LW_comm (lay' := ly) h) ?_
  exact j_sub [2, 3, 4, 5, 6] rfl (KK lay)
set_option maxRecDepth 100000 in
theorem lq_accept_1 {p : Program} {l : Launch} {e : Env} {s : State} {m : MethodId} {args : Array Value} {below : List Frame} {meth : Method} {c : Code} {Q : State → Prop} {A : Nat → Prop} {k n : Nat} {g : GG} {ly lay : Nat → Nat} {b L qo : Nat} {xs : Nat → Int32} {i : Nat} {σ σ' : CS} {ρ ρ' : RS} {v : Int64} {r : Int32} (C : KX p m c cL_law 9 s args RL) (K : KC l g A s) (hX : va_X b L xs s s.heap) (hbl : b < s.heap.size) (hbA : ¬ A b) (hi : i + 5 ≤ L) (hL : L ≤ 2560) (hF : F_X5_accept σ (xs (i + 1)) (xs (i + 2)) (xs (i + 3)) (xs (i + 4)) = some (σ', .inr 1)) (hM : F_X6_accept ρ (xs (i + 1)) (xs (i + 2)) (xs (i + 3)) (xs (i + 4)) = some (ρ', r)) (h0 : ρ'.1 0 0 = 1) (hc : k + 1 ≤ 601024 ∧ n + 6 ≤ 7293034)
    (KK : ∀ lay : Nat → Nat, JJ p l e room_1 s m args below meth c Q A 9 (LW g A ly (rW g ρ' ++ ([outc g qo v] ++ cW g lay σ'))) (k + 1) (n + 6) 1531 [(0, .ref b), (1, .ref (ga g 0)), (2, .ref (gm g 0)), (3, .ref qo), (4, .int (nI i))] []) : JJ p l e room_1 s m args below meth c Q A 9 (LW g A ly (rW g ρ ++ ([outc g qo v] ++ cW g lay σ))) k n 329 [(0, .ref b), (1, .ref (ga g 0)), (2, .ref (gm g 0)), (3, .ref qo), (4, .int (nI i))] [] := by
  refine j_aload_n 330 C dL_law_329 1 rfl rfl ?_
  refine ls_rd 336 C hX hbl hbA hL 1 0 4 1 dL_law_330 dL_law_331 dL_law_333 dL_law_334 dL_law_335 nz_1 (by omega) rfl rfl rfl ?_
  refine ls_rd 342 C hX hbl hbA hL 2 0 4 2 dL_law_336 dL_law_337 dL_law_339 dL_law_340 dL_law_341 nz_2 (by omega) rfl rfl rfl ?_
  refine ls_rd 348 C hX hbl hbA hL 3 0 4 3 dL_law_342 dL_law_343 dL_law_345 dL_law_346 dL_law_347 nz_3 (by omega) rfl rfl rfl ?_
  refine ls_rd 354 C hX hbl hbA hL 4 0 4 4 dL_law_348 dL_law_349 dL_law_351 dL_law_352 dL_law_353 nz_4 (by omega) rfl rfl rfl ?_
  refine j_aload_n 355 C dL_law_354 3 rfl rfl ?_
  refine lk_Sw (np := 6) (w0 := rW g ρ) (wx := oW g qo) (σ := (σ, v)) (σ' := (σ', v)) (lay := lay) (As := [.ref (ga g 0), .int (xs (i + 1)), .int (xs (i + 2)), .int (xs (i + 3)), .int (xs (i + 4)), .ref qo]) (st := []) 358 C K (fun A1 => w_L_accept_1 K.2.2.2 g A1 lay qo hF) mw_750 mw_97 hw_L_accept ⟨by decide, by decide, by decide +kernel⟩ mw_749 dL_law_355 rfl rfl (Nat.le_of_ble_eq_true rfl) ⟨Nat.le_of_ble_eq_true rfl, Nat.le_of_ble_eq_true rfl⟩ hc rfl (fun lay => ?_)
  refine j_istore 360 C dL_law_358 (lo' := (5, .int 1) :: [(0, .ref b), (1, .ref (ga g 0)), (2, .ref (gm g 0)), (3, .ref qo), (4, .int (nI i))]) (by decide) rfl rfl ?_
  refine j_world (fun H h => LW_comm (lay' := ly) h) ?_
  refine j_aload_n 361 C dL_law_360 3 rfl rfl ?_
  refine ls_rd 367 C hX hbl hbA hL 1 1 5 1 dL_law_361 dL_law_362 dL_law_364 dL_law_365 dL_law_366 nz_1 (by omega) rfl rfl rfl ?_
  refine ls_rd 373 C hX hbl hbA hL 2 1 5 2 dL_law_367 dL_law_368 dL_law_370 dL_law_371 dL_law_372 nz_2 (by omega) rfl rfl rfl ?_
  refine ls_rd 379 C hX hbl hbA hL 3 1 5 3 dL_law_373 dL_law_374 dL_law_376 dL_law_377 dL_law_378 nz_3 (by omega) rfl rfl rfl ?_
  refine ls_rd 385 C hX hbl hbA hL 4 1 5 4 dL_law_379 dL_law_380 dL_law_382 dL_law_383 dL_law_384 nz_4 (by omega) rfl rfl rfl ?_
  refine lk_Vi (w0 := oW g qo lay (σ', v)) (wx := rX g) (σ := ρ) (lay := lay) (As := [.int (xs (i + 1)), .int (xs (i + 2)), .int (xs (i + 3)), .int (xs (i + 4))]) (st := []) 388 C K (fun A1 => c_X6_accept K.2.2.2 g A1 lay hM) cp_X6_accept (fun A1 => rv_M) mw_1133 dL_law_385 rfl rfl (Nat.le_of_ble_eq_true rfl) ⟨Nat.le_of_ble_eq_true rfl, Nat.le_of_ble_eq_true rfl⟩ hc rfl (fun lay1 => ?_)
  refine j_istore 390 C dL_law_388 (lo' := (6, .int r) :: (5, .int 1) :: [(0, .ref b), (1, .ref (ga g 0)), (2, .ref (gm g 0)), (3, .ref qo), (4, .int (nI i))]) (by decide) rfl rfl ?_
  refine j_aload_n 391 C dL_law_390 4 rfl rfl ?_
  refine lk_Vi (w0 := oW g qo lay (σ', v)) (wx := rX g) (σ := ρ') (lay := lay1) (As := []) (st := []) (r := 1) 394 C K (fun A1 => c_X6_thrown K.2.2.2 g A1 lay1 (by rw [thr_eq, h0])) cp_X6_thrown (fun A1 => rv_M) mw_1070 dL_law_391 rfl rfl (Nat.le_of_ble_eq_true rfl) ⟨Nat.le_of_ble_eq_true rfl, Nat.le_of_ble_eq_true rfl⟩ hc rfl (fun lay2 => ?_)
  refine j_iload 396 C dL_law_394 1 rfl rfl ?_
  refine j_icmp_eq 399 401 C dL_law_396 (by decide) rfl (fun _ => ?_) (fun h => absurd rfl h)
  refine j_iload 403 C dL_law_401 1 rfl rfl ?_
  refine j_if_ne 406 418 C dL_law_403 (by decide) rfl (fun _ => ?_) (fun h => absurd h (by decide))
  change JJ _ _ _ _ _ _ _ _ _ _ _ _ _ (LW g A ly (([outc g qo v] ++ cW g lay σ') ++ rW g ρ')) _ _ _ _ _
  refine j_goto 1531 C dL_law_418 (by decide) ?_
  refine j_world (fun H h => LW_comm (lay' := ly) h) ?_
  exact j_sub [2, 3, 4, 5, 6] rfl (KK lay)
set_option maxRecDepth 100000 in
theorem lq_accept_2 {p : Program} {l : Launch} {e : Env} {s : State} {m : MethodId} {args : Array Value} {below : List Frame} {meth : Method} {c : Code} {Q : State → Prop} {A : Nat → Prop} {k n : Nat} {g : GG} {ly lay : Nat → Nat} {b L qo : Nat} {xs : Nat → Int32} {i : Nat} {σ σ' : CS} {ρ ρ' : RS} {v : Int64} {r : Int32} (C : KX p m c cL_law 9 s args RL) (K : KC l g A s) (hX : va_X b L xs s s.heap) (hbl : b < s.heap.size) (hbA : ¬ A b) (hi : i + 5 ≤ L) (hL : L ≤ 2560) (hF : F_X5_accept σ (xs (i + 1)) (xs (i + 2)) (xs (i + 3)) (xs (i + 4)) = some (σ', .inr 2)) (hM : F_X6_accept ρ (xs (i + 1)) (xs (i + 2)) (xs (i + 3)) (xs (i + 4)) = some (ρ', r)) (h0 : ρ'.1 0 0 = 2) (hc : k + 1 ≤ 601024 ∧ n + 6 ≤ 7293034)
    (KK : ∀ lay : Nat → Nat, JJ p l e room_1 s m args below meth c Q A 9 (LW g A ly (rW g ρ' ++ ([outc g qo v] ++ cW g lay σ'))) (k + 1) (n + 6) 1531 [(0, .ref b), (1, .ref (ga g 0)), (2, .ref (gm g 0)), (3, .ref qo), (4, .int (nI i))] []) : JJ p l e room_1 s m args below meth c Q A 9 (LW g A ly (rW g ρ ++ ([outc g qo v] ++ cW g lay σ))) k n 329 [(0, .ref b), (1, .ref (ga g 0)), (2, .ref (gm g 0)), (3, .ref qo), (4, .int (nI i))] [] := by
  refine j_aload_n 330 C dL_law_329 1 rfl rfl ?_
  refine ls_rd 336 C hX hbl hbA hL 1 0 4 1 dL_law_330 dL_law_331 dL_law_333 dL_law_334 dL_law_335 nz_1 (by omega) rfl rfl rfl ?_
  refine ls_rd 342 C hX hbl hbA hL 2 0 4 2 dL_law_336 dL_law_337 dL_law_339 dL_law_340 dL_law_341 nz_2 (by omega) rfl rfl rfl ?_
  refine ls_rd 348 C hX hbl hbA hL 3 0 4 3 dL_law_342 dL_law_343 dL_law_345 dL_law_346 dL_law_347 nz_3 (by omega) rfl rfl rfl ?_
  refine ls_rd 354 C hX hbl hbA hL 4 0 4 4 dL_law_348 dL_law_349 dL_law_351 dL_law_352 dL_law_353 nz_4 (by omega) rfl rfl rfl ?_
  refine j_aload_n 355 C dL_law_354 3 rfl rfl ?_
  refine lk_Sw (np := 6) (w0 := rW g ρ) (wx := oW g qo) (σ := (σ, v)) (σ' := (σ', v)) (lay := lay) (As := [.ref (ga g 0), .int (xs (i + 1)), .int (xs (i + 2)), .int (xs (i + 3)), .int (xs (i + 4)), .ref qo]) (st := []) 358 C K (fun A1 => w_L_accept_2 K.2.2.2 g A1 lay qo hF) mw_750 mw_97 hw_L_accept ⟨by decide, by decide, by decide +kernel⟩ mw_749 dL_law_355 rfl rfl (Nat.le_of_ble_eq_true rfl) ⟨Nat.le_of_ble_eq_true rfl, Nat.le_of_ble_eq_true rfl⟩ hc rfl (fun lay => ?_)
  refine j_istore 360 C dL_law_358 (lo' := (5, .int 2) :: [(0, .ref b), (1, .ref (ga g 0)), (2, .ref (gm g 0)), (3, .ref qo), (4, .int (nI i))]) (by decide) rfl rfl ?_
  refine j_world (fun H h => LW_comm (lay' := ly) h) ?_
  refine j_aload_n 361 C dL_law_360 3 rfl rfl ?_
  refine ls_rd 367 C hX hbl hbA hL 1 1 5 1 dL_law_361 dL_law_362 dL_law_364 dL_law_365 dL_law_366 nz_1 (by omega) rfl rfl rfl ?_
  refine ls_rd 373 C hX hbl hbA hL 2 1 5 2 dL_law_367 dL_law_368 dL_law_370 dL_law_371 dL_law_372 nz_2 (by omega) rfl rfl rfl ?_
  refine ls_rd 379 C hX hbl hbA hL 3 1 5 3 dL_law_373 dL_law_374 dL_law_376 dL_law_377 dL_law_378 nz_3 (by omega) rfl rfl rfl ?_
  refine ls_rd 385 C hX hbl hbA hL 4 1 5 4 dL_law_379 dL_law_380 dL_law_382 dL_law_383 dL_law_384 nz_4 (by omega) rfl rfl rfl ?_
  refine lk_Vi (w0 := oW g qo lay (σ', v)) (wx := rX g) (σ := ρ) (lay := lay) (As := [.int (xs (i + 1)), .int (xs (i + 2)), .int (xs (i + 3)), .int (xs (i + 4))]) (st := []) 388 C K (fun A1 => c_X6_accept K.2.2.2 g A1 lay hM) cp_X6_accept (fun A1 => rv_M) mw_1133 dL_law_385 rfl rfl (Nat.le_of_ble_eq_true rfl) ⟨Nat.le_of_ble_eq_true rfl, Nat.le_of_ble_eq_true rfl⟩ hc rfl (fun lay1 => ?_)
  refine j_istore 390 C dL_law_388 (lo' := (6, .int r) :: (5, .int 2) :: [(0, .ref b), (1, .ref (ga g 0)), (2, .ref (gm g 0)), (3, .ref qo), (4, .int (nI i))]) (by decide) rfl rfl ?_
  refine j_aload_n 391 C dL_law_390 4 rfl rfl ?_
  refine lk_Vi (w0 := oW g qo lay (σ', v)) (wx := rX g) (σ := ρ') (lay := lay1) (As := []) (st := []) (r := 2) 394 C K (fun A1 => c_X6_thrown K.2.2.2 g A1 lay1 (by rw [thr_eq, h0])) cp_X6_thrown (fun A1 => rv_M) mw_1070 dL_law_391 rfl rfl (Nat.le_of_ble_eq_true rfl) ⟨Nat.le_of_ble_eq_true rfl, Nat.le_of_ble_eq_true rfl⟩ hc rfl (fun lay2 => ?_)
  refine j_iload 396 C dL_law_394 1 rfl rfl ?_
  refine j_icmp_eq 399 401 C dL_law_396 (by decide) rfl (fun _ => ?_) (fun h => absurd rfl h)
  refine j_iload 403 C dL_law_401 1 rfl rfl ?_
  refine j_if_ne 406 418 C dL_law_403 (by decide) rfl (fun _ => ?_) (fun h => absurd h (by decide))
  change JJ _ _ _ _ _ _ _ _ _ _ _ _ _ (LW g A ly (([outc g qo v] ++ cW g lay σ') ++ rW g ρ')) _ _ _ _ _
  refine j_goto 1531 C dL_law_418 (by decide) ?_
  refine j_world (fun H h => LW_comm (lay' := ly) h) ?_
  exact j_sub [2, 3, 4, 5, 6] rfl (KK lay)
set_option maxRecDepth 100000 in
theorem lq_accept_3 {p : Program} {l : Launch} {e : Env} {s : State} {m : MethodId} {args : Array Value} {below : List Frame} {meth : Method} {c : Code} {Q : State → Prop} {A : Nat → Prop} {k n : Nat} {g : GG} {ly lay : Nat → Nat} {b L qo : Nat} {xs : Nat → Int32} {i : Nat} {σ σ' : CS} {ρ ρ' : RS} {v : Int64} {r : Int32} (C : KX p m c cL_law 9 s args RL) (K : KC l g A s) (hX : va_X b L xs s s.heap) (hbl : b < s.heap.size) (hbA : ¬ A b) (hi : i + 5 ≤ L) (hL : L ≤ 2560) (hF : F_X5_accept σ (xs (i + 1)) (xs (i + 2)) (xs (i + 3)) (xs (i + 4)) = some (σ', .inr 3)) (hM : F_X6_accept ρ (xs (i + 1)) (xs (i + 2)) (xs (i + 3)) (xs (i + 4)) = some (ρ', r)) (h0 : ρ'.1 0 0 = 3) (hc : k + 1 ≤ 601024 ∧ n + 6 ≤ 7293034)
    (KK : ∀ lay : Nat → Nat, JJ p l e room_1 s m args below meth c Q A 9 (LW g A ly (rW g ρ' ++ ([outc g qo v] ++ cW g lay σ'))) (k + 1) (n + 6) 1531 [(0, .ref b), (1, .ref (ga g 0)), (2, .ref (gm g 0)), (3, .ref qo), (4, .int (nI i))] []) : JJ p l e room_1 s m args below meth c Q A 9 (LW g A ly (rW g ρ ++ ([outc g qo v] ++ cW g lay σ))) k n 329 [(0, .ref b), (1, .ref (ga g 0)), (2, .ref (gm g 0)), (3, .ref qo), (4, .int (nI i))] [] := by
  refine j_aload_n 330 C dL_law_329 1 rfl rfl ?_
  refine ls_rd 336 C hX hbl hbA hL 1 0 4 1 dL_law_330 dL_law_331 dL_law_333 dL_law_334 dL_law_335 nz_1 (by omega) rfl rfl rfl ?_
  refine ls_rd 342 C hX hbl hbA hL 2 0 4 2 dL_law_336 dL_law_337 dL_law_339 dL_law_340 dL_law_341 nz_2 (by omega) rfl rfl rfl ?_
  refine ls_rd 348 C hX hbl hbA hL 3 0 4 3 dL_law_342 dL_law_343 dL_law_345 dL_law_346 dL_law_347 nz_3 (by omega) rfl rfl rfl ?_
  refine ls_rd 354 C hX hbl hbA hL 4 0 4 4 dL_law_348 dL_law_349 dL_law_351 dL_law_352 dL_law_353 nz_4 (by omega) rfl rfl rfl ?_
  refine j_aload_n 355 C dL_law_354 3 rfl rfl ?_
  refine lk_Sw (np := 6) (w0 := rW g ρ) (wx := oW g qo) (σ := (σ, v)) (σ' := (σ', v)) (lay := lay) (As := [.ref (ga g 0), .int (xs (i + 1)), .int (xs (i + 2)), .int (xs (i + 3)), .int (xs (i + 4)), .ref qo]) (st := []) 358 C K (fun A1 => w_L_accept_3 K.2.2.2 g A1 lay qo hF) mw_750 mw_97 hw_L_accept ⟨by decide, by decide, by decide +kernel⟩ mw_749 dL_law_355 rfl rfl (Nat.le_of_ble_eq_true rfl) ⟨Nat.le_of_ble_eq_true rfl, Nat.le_of_ble_eq_true rfl⟩ hc rfl (fun lay => ?_)
  refine j_istore 360 C dL_law_358 (lo' := (5, .int 3) :: [(0, .ref b), (1, .ref (ga g 0)), (2, .ref (gm g 0)), (3, .ref qo), (4, .int (nI i))]) (by decide) rfl rfl ?_
  refine j_world (fun H h => LW_comm (lay' := ly) h) ?_
  refine j_aload_n 361 C dL_law_360 3 rfl rfl ?_
  refine ls_rd 367 C hX hbl hbA hL 1 1 5 1 dL_law_361 dL_law_362 dL_law_364 dL_law_365 dL_law_366 nz_1 (by omega) rfl rfl rfl ?_
  refine ls_rd 373 C hX hbl hbA hL 2 1 5 2 dL_law_367 dL_law_368 dL_law_370 dL_law_371 dL_law_372 nz_2 (by omega) rfl rfl rfl ?_
  refine ls_rd 379 C hX hbl hbA hL 3 1 5 3 dL_law_373 dL_law_374 dL_law_376 dL_law_377 dL_law_378 nz_3 (by omega) rfl rfl rfl ?_
  refine ls_rd 385 C hX hbl hbA hL 4 1 5 4 dL_law_379 dL_law_380 dL_law_382 dL_law_383 dL_law_384 nz_4 (by omega) rfl rfl rfl ?_
  refine lk_Vi (w0 := oW g qo lay (σ', v)) (wx := rX g) (σ := ρ) (lay := lay) (As := [.int (xs (i + 1)), .int (xs (i + 2)), .int (xs (i + 3)), .int (xs (i + 4))]) (st := []) 388 C K (fun A1 => c_X6_accept K.2.2.2 g A1 lay hM) cp_X6_accept (fun A1 => rv_M) mw_1133 dL_law_385 rfl rfl (Nat.le_of_ble_eq_true rfl) ⟨Nat.le_of_ble_eq_true rfl, Nat.le_of_ble_eq_true rfl⟩ hc rfl (fun lay1 => ?_)
  refine j_istore 390 C dL_law_388 (lo' := (6, .int r) :: (5, .int 3) :: [(0, .ref b), (1, .ref (ga g 0)), (2, .ref (gm g 0)), (3, .ref qo), (4, .int (nI i))]) (by decide) rfl rfl ?_
  refine j_aload_n 391 C dL_law_390 4 rfl rfl ?_
  refine lk_Vi (w0 := oW g qo lay (σ', v)) (wx := rX g) (σ := ρ') (lay := lay1) (As := []) (st := []) (r := 3) 394 C K (fun A1 => c_X6_thrown K.2.2.2 g A1 lay1 (by rw [thr_eq, h0])) cp_X6_thrown (fun A1 => rv_M) mw_1070 dL_law_391 rfl rfl (Nat.le_of_ble_eq_true rfl) ⟨Nat.le_of_ble_eq_true rfl, Nat.le_of_ble_eq_true rfl⟩ hc rfl (fun lay2 => ?_)
  refine j_iload 396 C dL_law_394 1 rfl rfl ?_
  refine j_icmp_eq 399 401 C dL_law_396 (by decide) rfl (fun _ => ?_) (fun h => absurd rfl h)
  refine j_iload 403 C dL_law_401 1 rfl rfl ?_
  refine j_if_ne 406 418 C dL_law_403 (by decide) rfl (fun _ => ?_) (fun h => absurd h (by decide))
  change JJ _ _ _ _ _ _ _ _ _ _ _ _ _ (LW g A ly (([outc g qo v] ++ cW g lay σ') ++ rW g ρ')) _ _ _ _ _
  refine j_goto 1531 C dL_law_418 (by decide) ?_
  refine j_world (fun H h => LW_comm (lay' := ly) h) ?_
  exact j_sub [2, 3, 4, 5, 6] rfl (KK lay)
set_option maxRecDepth 100000 in
theorem lq_barrier {p : Program} {l : Launch} {e : Env} {s : State} {m : MethodId} {args : Array Value} {below : List Frame} {meth : Method} {c : Code} {Q : State → Prop} {A : Nat → Prop} {k n : Nat} {g : GG} {ly lay : Nat → Nat} {b L qo : Nat} {xs : Nat → Int32} {i : Nat} {σ σ' : CS} {ρ ρ' : RS} {v : Int64} {r : Int32} (C : KX p m c cL_law 9 s args RL) (K : KC l g A s) (hX : va_X b L xs s s.heap) (hbl : b < s.heap.size) (hbA : ¬ A b) (hi : i + 5 ≤ L) (hL : L ≤ 2560) (hF : F_X5_barrier σ (xs (i + 1)) = some (σ', .inl r)) (hM : F_X6_barrier ρ (xs (i + 1)) = some (ρ', r)) (h0 : ρ'.1 0 0 = 0) (hc : k + 0 ≤ 601024 ∧ n + 0 ≤ 7293034)
    (KK : ∀ lay : Nat → Nat, JJ p l e room_1 s m args below meth c Q A 9 (LW g A ly (rW g ρ' ++ ([outc g qo r.toInt64] ++ cW g lay σ'))) (k + 0) (n + 0) 1531 [(0, .ref b), (1, .ref (ga g 0)), (2, .ref (gm g 0)), (3, .ref qo), (4, .int (nI i))] []) : JJ p l e room_1 s m args below meth c Q A 9 (LW g A ly (rW g ρ ++ ([outc g qo v] ++ cW g lay σ))) k n 421 [(0, .ref b), (1, .ref (ga g 0)), (2, .ref (gm g 0)), (3, .ref qo), (4, .int (nI i))] [] := by
  refine j_aload_n 422 C dL_law_421 1 rfl rfl ?_
  refine ls_rd 428 C hX hbl hbA hL 1 0 4 1 dL_law_422 dL_law_423 dL_law_425 dL_law_426 dL_law_427 nz_1 (by omega) rfl rfl rfl ?_
  refine j_aload_n 429 C dL_law_428 3 rfl rfl ?_
  refine lk_Sw (np := 3) (w0 := rW g ρ) (wx := oW g qo) (σ := (σ, v)) (σ' := (σ', r.toInt64)) (lay := lay) (As := [.ref (ga g 0), .int (xs (i + 1)), .ref qo]) (st := []) 432 C K (fun A1 => w_L_barrier K.2.2.2 g A1 lay qo hF) mw_767 mw_97 hw_L_barrier ⟨by decide, by decide, by decide +kernel⟩ mw_766 dL_law_429 rfl rfl (Nat.le_of_ble_eq_true rfl) ⟨Nat.le_of_ble_eq_true rfl, Nat.le_of_ble_eq_true rfl⟩ hc rfl (fun lay => ?_)
  refine j_istore 434 C dL_law_432 (lo' := (5, .int 0) :: [(0, .ref b), (1, .ref (ga g 0)), (2, .ref (gm g 0)), (3, .ref qo), (4, .int (nI i))]) (by decide) rfl rfl ?_
  refine j_world (fun H h => LW_comm (lay' := ly) h) ?_
  refine j_aload_n 435 C dL_law_434 3 rfl rfl ?_
  refine ls_rd 441 C hX hbl hbA hL 1 1 5 1 dL_law_435 dL_law_436 dL_law_438 dL_law_439 dL_law_440 nz_1 (by omega) rfl rfl rfl ?_
  refine lk_Vi (w0 := oW g qo lay (σ', r.toInt64)) (wx := rX g) (σ := ρ) (lay := lay) (As := [.int (xs (i + 1))]) (st := []) 444 C K (fun A1 => c_X6_barrier K.2.2.2 g A1 lay hM) cp_X6_barrier (fun A1 => rv_M) mw_1153 dL_law_441 rfl rfl (Nat.le_of_ble_eq_true rfl) ⟨Nat.le_of_ble_eq_true rfl, Nat.le_of_ble_eq_true rfl⟩ hc rfl (fun lay1 => ?_)
  refine j_istore 446 C dL_law_444 (lo' := (6, .int r) :: (5, .int 0) :: [(0, .ref b), (1, .ref (ga g 0)), (2, .ref (gm g 0)), (3, .ref qo), (4, .int (nI i))]) (by decide) rfl rfl ?_
  refine j_aload_n 447 C dL_law_446 4 rfl rfl ?_
  refine lk_Vi (w0 := oW g qo lay (σ', r.toInt64)) (wx := rX g) (σ := ρ') (lay := lay1) (As := []) (st := []) (r := 0) 450 C K (fun A1 => c_X6_thrown K.2.2.2 g A1 lay1 (by rw [thr_eq, h0])) cp_X6_thrown (fun A1 => rv_M) mw_1070 dL_law_447 rfl rfl (Nat.le_of_ble_eq_true rfl) ⟨Nat.le_of_ble_eq_true rfl, Nat.le_of_ble_eq_true rfl⟩ hc rfl (fun lay2 => ?_)
  refine j_iload 452 C dL_law_450 1 rfl rfl ?_
  refine j_icmp_eq 455 457 C dL_law_452 (by decide) rfl (fun _ => ?_) (fun h => absurd rfl h)
  refine j_iload 459 C dL_law_457 1 rfl rfl ?_
  refine j_if_ne 462 474 C dL_law_459 (by decide) rfl (fun h => absurd rfl h) (fun _ => ?_)
  refine j_aload_n 463 C dL_law_462 5 rfl rfl ?_
  refine j_iconst 464 C dL_law_463 ic_0 rfl ?_
  change JJ _ _ _ _ _ _ _ _ _ _ _ _ _ (LW g A ly (([outc g qo r.toInt64] ++ cW g lay σ') ++ rW g ρ')) _ _ _ _ _
  refine j_world (fun H h => LW_assoc.mpr h) ?_
  refine lk_lald 465 C K dL_law_464 rfl ?_
  refine j_world (fun H h => LW_assoc.mp h) ?_
  refine j_iload 467 C dL_law_465 0 rfl rfl ?_
  refine j_i2l 468 C dL_law_467 rfl ?_
  refine j_lcmp 469 C dL_law_468 rfl ?_
  refine j_if_eq 472 474 C dL_law_469 (by decide) rfl (fun _ => ?_) (fun h => absurd (lg_cmp_self _) h)
  refine j_goto 1531 C dL_law_474 (by decide) ?_
  refine j_world (fun H h => LW_comm (lay' := ly) h) ?_
  exact j_sub [2, 3, 4, 5, 6] rfl (KK lay)
set_option maxRecDepth 100000 in
theorem lq_barrier_1 {p : Program} {l : Launch} {e : Env} {s : State} {m : MethodId} {args : Array Value} {below : List Frame} {meth : Method} {c : Code} {Q : State → Prop} {A : Nat → Prop} {k n : Nat} {g : GG} {ly lay : Nat → Nat} {b L qo : Nat} {xs : Nat → Int32} {i : Nat} {σ σ' : CS} {ρ ρ' : RS} {v : Int64} {r : Int32} (C : KX p m c cL_law 9 s args RL) (K : KC l g A s) (hX : va_X b L xs s s.heap) (hbl : b < s.heap.size) (hbA : ¬ A b) (hi : i + 5 ≤ L) (hL : L ≤ 2560) (hF : F_X5_barrier σ (xs (i + 1)) = some (σ', .inr 1)) (hM : F_X6_barrier ρ (xs (i + 1)) = some (ρ', r)) (h0 : ρ'.1 0 0 = 1) (hc : k + 1 ≤ 601024 ∧ n + 6 ≤ 7293034)
    (KK : ∀ lay : Nat → Nat, JJ p l e room_1 s m args below meth c Q A 9 (LW g A ly (rW g ρ' ++ ([outc g qo v] ++ cW g lay σ'))) (k + 1) (n + 6) 1531 [(0, .ref b), (1, .ref (ga g 0)), (2, .ref (gm g 0)), (3, .ref qo), (4, .int (nI i))] []) : JJ p l e room_1 s m args below meth c Q A 9 (LW g A ly (rW g ρ ++ ([outc g qo v] ++ cW g lay σ))) k n 421 [(0, .ref b), (1, .ref (ga g 0)), (2, .ref (gm g 0)), (3, .ref qo), (4, .int (nI i))] [] := by
  refine j_aload_n 422 C dL_law_421 1 rfl rfl ?_
  refine ls_rd 428 C hX hbl hbA hL 1 0 4 1 dL_law_422 dL_law_423 dL_law_425 dL_law_426 dL_law_427 nz_1 (by omega) rfl rfl rfl ?_
  refine j_aload_n 429 C dL_law_428 3 rfl rfl ?_
  refine lk_Sw (np := 3) (w0 := rW g ρ) (wx := oW g qo) (σ := (σ, v)) (σ' := (σ', v)) (lay := lay) (As := [.ref (ga g 0), .int (xs (i + 1)), .ref qo]) (st := []) 432 C K (fun A1 => w_L_barrier_1 K.2.2.2 g A1 lay qo hF) mw_767 mw_97 hw_L_barrier ⟨by decide, by decide, by decide +kernel⟩ mw_766 dL_law_429 rfl rfl (Nat.le_of_ble_eq_true rfl) ⟨Nat.le_of_ble_eq_true rfl, Nat.le_of_ble_eq_true rfl⟩ hc rfl (fun lay => ?_)
  refine j_istore 434 C dL_law_432 (lo' := (5, .int 1) :: [(0, .ref b), (1, .ref (ga g 0)), (2, .ref (gm g 0)), (3, .ref qo), (4, .int (nI i))]) (by decide) rfl rfl ?_
  refine j_world (fun H h => LW_comm (lay' := ly) h) ?_
  refine j_aload_n 435 C dL_law_434 3 rfl rfl ?_
  refine ls_rd 441 C hX hbl hbA hL 1 1 5 1 dL_law_435 dL_law_436 dL_law_438 dL_law_439 dL_law_440 nz_1 (by omega) rfl rfl rfl ?_
  refine lk_Vi (w0 := oW g qo lay (σ', v)) (wx := rX g) (σ := ρ) (lay := lay) (As := [.int (xs (i + 1))]) (st := []) 444 C K (fun A1 => c_X6_barrier K.2.2.2 g A1 lay hM) cp_X6_barrier (fun A1 => rv_M) mw_1153 dL_law_441 rfl rfl (Nat.le_of_ble_eq_true rfl) ⟨Nat.le_of_ble_eq_true rfl, Nat.le_of_ble_eq_true rfl⟩ hc rfl (fun lay1 => ?_)
  refine j_istore 446 C dL_law_444 (lo' := (6, .int r) :: (5, .int 1) :: [(0, .ref b), (1, .ref (ga g 0)), (2, .ref (gm g 0)), (3, .ref qo), (4, .int (nI i))]) (by decide) rfl rfl ?_
  refine j_aload_n 447 C dL_law_446 4 rfl rfl ?_
  refine lk_Vi (w0 := oW g qo lay (σ', v)) (wx := rX g) (σ := ρ') (lay := lay1) (As := []) (st := []) (r := 1) 450 C K (fun A1 => c_X6_thrown K.2.2.2 g A1 lay1 (by rw [thr_eq, h0])) cp_X6_thrown (fun A1 => rv_M) mw_1070 dL_law_447 rfl rfl (Nat.le_of_ble_eq_true rfl) ⟨Nat.le_of_ble_eq_true rfl, Nat.le_of_ble_eq_true rfl⟩ hc rfl (fun lay2 => ?_)
  refine j_iload 452 C dL_law_450 1 rfl rfl ?_
  refine j_icmp_eq 455 457 C dL_law_452 (by decide) rfl (fun _ => ?_) (fun h => absurd rfl h)
  refine j_iload 459 C dL_law_457 1 rfl rfl ?_
  refine j_if_ne 462 474 C dL_law_459 (by decide) rfl (fun _ => ?_) (fun h => absurd h (by decide))
  change JJ _ _ _ _ _ _ _ _ _ _ _ _ _ (LW g A ly (([outc g qo v] ++ cW g lay σ') ++ rW g ρ')) _ _ _ _ _
  refine j_goto 1531 C dL_law_474 (by decide) ?_
  refine j_world (fun H h => LW_comm (lay' := ly) h) ?_
  exact j_sub [2, 3, 4, 5, 6] rfl (KK lay)
set_option maxRecDepth 100000 in
theorem lq_barrier_3 {p : Program} {l : Launch} {e : Env} {s : State} {m : MethodId} {args : Array Value} {below : List Frame} {meth : Method} {c : Code} {Q : State → Prop} {A : Nat → Prop} {k n : Nat} {g : GG} {ly lay : Nat → Nat} {b L qo : Nat} {xs : Nat → Int32} {i : Nat} {σ σ' : CS} {ρ ρ' : RS} {v : Int64} {r : Int32} (C : KX p m c cL_law 9 s args RL) (K : KC l g A s) (hX : va_X b L xs s s.heap) (hbl : b < s.heap.size) (hbA : ¬ A b) (hi : i + 5 ≤ L) (hL : L ≤ 2560) (hF : F_X5_barrier σ (xs (i + 1)) = some (σ', .inr 3)) (hM : F_X6_barrier ρ (xs (i + 1)) = some (ρ', r)) (h0 : ρ'.1 0 0 = 2) (hc : k + 1 ≤ 601024 ∧ n + 6 ≤ 7293034)
    (KK : ∀ lay : Nat → Nat, JJ p l e room_1 s m args below meth c Q A 9 (LW g A ly (rW g ρ' ++ ([outc g qo v] ++ cW g lay σ'))) (k + 1) (n + 6) 1531 [(0, .ref b), (1, .ref (ga g 0)), (2, .ref (gm g 0)), (3, .ref qo), (4, .int (nI i))] []) : JJ p l e room_1 s m args below meth c Q A 9 (LW g A ly (rW g ρ ++ ([outc g qo v] ++ cW g lay σ))) k n 421 [(0, .ref b), (1, .ref (ga g 0)), (2, .ref (gm g 0)), (3, .ref qo), (4, .int (nI i))] [] := by
  refine j_aload_n 422 C dL_law_421 1 rfl rfl ?_
  refine ls_rd 428 C hX hbl hbA hL 1 0 4 1 dL_law_422 dL_law_423 dL_law_425 dL_law_426 dL_law_427 nz_1 (by omega) rfl rfl rfl ?_
  refine j_aload_n 429 C dL_law_428 3 rfl rfl ?_
  refine lk_Sw (np := 3) (w0 := rW g ρ) (wx := oW g qo) (σ := (σ, v)) (σ' := (σ', v)) (lay := lay) (As := [.ref (ga g 0), .int (xs (i + 1)), .ref qo]) (st := []) 432 C K (fun A1 => w_L_barrier_3 K.2.2.2 g A1 lay qo hF) mw_767 mw_97 hw_L_barrier ⟨by decide, by decide, by decide +kernel⟩ mw_766 dL_law_429 rfl rfl (Nat.le_of_ble_eq_true rfl) ⟨Nat.le_of_ble_eq_true rfl, Nat.le_of_ble_eq_true rfl⟩ hc rfl (fun lay => ?_)
  refine j_istore 434 C dL_law_432 (lo' := (5, .int 2) :: [(0, .ref b), (1, .ref (ga g 0)), (2, .ref (gm g 0)), (3, .ref qo), (4, .int (nI i))]) (by decide) rfl rfl ?_
  refine j_world (fun H h => LW_comm (lay' := ly) h) ?_
  refine j_aload_n 435 C dL_law_434 3 rfl rfl ?_
  refine ls_rd 441 C hX hbl hbA hL 1 1 5 1 dL_law_435 dL_law_436 dL_law_438 dL_law_439 dL_law_440 nz_1 (by omega) rfl rfl rfl ?_
  refine lk_Vi (w0 := oW g qo lay (σ', v)) (wx := rX g) (σ := ρ) (lay := lay) (As := [.int (xs (i + 1))]) (st := []) 444 C K (fun A1 => c_X6_barrier K.2.2.2 g A1 lay hM) cp_X6_barrier (fun A1 => rv_M) mw_1153 dL_law_441 rfl rfl (Nat.le_of_ble_eq_true rfl) ⟨Nat.le_of_ble_eq_true rfl, Nat.le_of_ble_eq_true rfl⟩ hc rfl (fun lay1 => ?_)
  refine j_istore 446 C dL_law_444 (lo' := (6, .int r) :: (5, .int 2) :: [(0, .ref b), (1, .ref (ga g 0)), (2, .ref (gm g 0)), (3, .ref qo), (4, .int (nI i))]) (by decide) rfl rfl ?_
  refine j_aload_n 447 C dL_law_446 4 rfl rfl ?_
  refine lk_Vi (w0 := oW g qo lay (σ', v)) (wx := rX g) (σ := ρ') (lay := lay1) (As := []) (st := []) (r := 2) 450 C K (fun A1 => c_X6_thrown K.2.2.2 g A1 lay1 (by rw [thr_eq, h0])) cp_X6_thrown (fun A1 => rv_M) mw_1070 dL_law_447 rfl rfl (Nat.le_of_ble_eq_true rfl) ⟨Nat.le_of_ble_eq_true rfl, Nat.le_of_ble_eq_true rfl⟩ hc rfl (fun lay2 => ?_)
  refine j_iload 452 C dL_law_450 1 rfl rfl ?_
  refine j_icmp_eq 455 457 C dL_law_452 (by decide) rfl (fun _ => ?_) (fun h => absurd rfl h)
  refine j_iload 459 C dL_law_457 1 rfl rfl ?_
  refine j_if_ne 462 474 C dL_law_459 (by decide) rfl (fun _ => ?_) (fun h => absurd h (by decide))
  change JJ _ _ _ _ _ _ _ _ _ _ _ _ _ (LW g A ly (([outc g qo v] ++ cW g lay σ') ++ rW g ρ')) _ _ _ _ _
  refine j_goto 1531 C dL_law_474 (by decide) ?_
  refine j_world (fun H h => LW_comm (lay' := ly) h) ?_
  exact j_sub [2, 3, 4, 5, 6] rfl (KK lay)
set_option maxRecDepth 100000 in
theorem lq_crash {p : Program} {l : Launch} {e : Env} {s : State} {m : MethodId} {args : Array Value} {below : List Frame} {meth : Method} {c : Code} {Q : State → Prop} {A : Nat → Prop} {k n : Nat} {g : GG} {ly lay : Nat → Nat} {b L qo : Nat} {xs : Nat → Int32} {i : Nat} {σ σ' : CS} {ρ ρ' : RS} {v : Int64} {r : Int32} (C : KX p m c cL_law 9 s args RL) (K : KC l g A s) (hX : va_X b L xs s s.heap) (hbl : b < s.heap.size) (hbA : ¬ A b) (hi : i + 5 ≤ L) (hL : L ≤ 2560) (hF : F_X5_crash σ (xs (i + 1)) (xs (i + 2)) = some (σ', .inl r)) (hM : F_X6_crash ρ (xs (i + 1)) (xs (i + 2)) = some (ρ', r)) (h0 : ρ'.1 0 0 = 0) (hc : k + 0 ≤ 601024 ∧ n + 0 ≤ 7293034)
    (KK : ∀ lay : Nat → Nat, JJ p l e room_1 s m args below meth c Q A 9 (LW g A ly (rW g ρ' ++ ([outc g qo r.toInt64] ++ cW g lay σ'))) (k + 0) (n + 0) 1531 [(0, .ref b), (1, .ref (ga g 0)), (2, .ref (gm g 0)), (3, .ref qo), (4, .int (nI i))] []) : JJ p l e room_1 s m args below meth c Q A 9 (LW g A ly (rW g ρ ++ ([outc g qo v] ++ cW g lay σ))) k n 477 [(0, .ref b), (1, .ref (ga g 0)), (2, .ref (gm g 0)), (3, .ref qo), (4, .int (nI i))] [] := by
  refine j_aload_n 478 C dL_law_477 1 rfl rfl ?_
  refine ls_rd 484 C hX hbl hbA hL 1 0 4 1 dL_law_478 dL_law_479 dL_law_481 dL_law_482 dL_law_483 nz_1 (by omega) rfl rfl rfl ?_
  refine ls_rd 490 C hX hbl hbA hL 2 0 4 2 dL_law_484 dL_law_485 dL_law_487 dL_law_488 dL_law_489 nz_2 (by omega) rfl rfl rfl ?_
  refine j_aload_n 491 C dL_law_490 3 rfl rfl ?_
  refine lk_Sw (np := 4) (w0 := rW g ρ) (wx := oW g qo) (σ := (σ, v)) (σ' := (σ', r.toInt64)) (lay := lay) (As := [.ref (ga g 0), .int (xs (i + 1)), .int (xs (i + 2)), .ref qo]) (st := []) 494 C K (fun A1 => w_L_crash K.2.2.2 g A1 lay qo hF) mw_779 mw_97 hw_L_crash ⟨by decide, by decide, by decide +kernel⟩ mw_778 dL_law_491 rfl rfl (Nat.le_of_ble_eq_true rfl) ⟨Nat.le_of_ble_eq_true rfl, Nat.le_of_ble_eq_true rfl⟩ hc rfl (fun lay => ?_)
  refine j_istore 496 C dL_law_494 (lo' := (5, .int 0) :: [(0, .ref b), (1, .ref (ga g 0)), (2, .ref (gm g 0)), (3, .ref qo), (4, .int (nI i))]) (by decide) rfl rfl ?_
  refine j_world (fun H h => LW_comm (lay' := ly) h) ?_
  refine j_aload_n 497 C dL_law_496 3 rfl rfl ?_
  refine ls_rd 503 C hX hbl hbA hL 1 1 5 1 dL_law_497 dL_law_498 dL_law_500 dL_law_501 dL_law_502 nz_1 (by omega) rfl rfl rfl ?_
  refine ls_rd 509 C hX hbl hbA hL 2 1 5 2 dL_law_503 dL_law_504 dL_law_506 dL_law_507 dL_law_508 nz_2 (by omega) rfl rfl rfl ?_
  refine lk_Vi (w0 := oW g qo lay (σ', r.toInt64)) (wx := rX g) (σ := ρ) (lay := lay) (As := [.int (xs (i + 1)), .int (xs (i + 2))]) (st := []) 512 C K (fun A1 => c_X6_crash K.2.2.2 g A1 lay hM) cp_X6_crash (fun A1 => rv_M) mw_1165 dL_law_509 rfl rfl (Nat.le_of_ble_eq_true rfl) ⟨Nat.le_of_ble_eq_true rfl, Nat.le_of_ble_eq_true rfl⟩ hc rfl (fun lay1 => ?_)
  refine j_istore 514 C dL_law_512 (lo' := (6, .int r) :: (5, .int 0) :: [(0, .ref b), (1, .ref (ga g 0)), (2, .ref (gm g 0)), (3, .ref qo), (4, .int (nI i))]) (by decide) rfl rfl ?_
  refine j_aload_n 515 C dL_law_514 4 rfl rfl ?_
  refine lk_Vi (w0 := oW g qo lay (σ', r.toInt64)) (wx := rX g) (σ := ρ') (lay := lay1) (As := []) (st := []) (r := 0) 518 C K (fun A1 => c_X6_thrown K.2.2.2 g A1 lay1 (by rw [thr_eq, h0])) cp_X6_thrown (fun A1 => rv_M) mw_1070 dL_law_515 rfl rfl (Nat.le_of_ble_eq_true rfl) ⟨Nat.le_of_ble_eq_true rfl, Nat.le_of_ble_eq_true rfl⟩ hc rfl (fun lay2 => ?_)
  refine j_iload 520 C dL_law_518 1 rfl rfl ?_
  refine j_icmp_eq 523 525 C dL_law_520 (by decide) rfl (fun _ => ?_) (fun h => absurd rfl h)
  refine j_iload 527 C dL_law_525 1 rfl rfl ?_
  refine j_if_ne 530 542 C dL_law_527 (by decide) rfl (fun h => absurd rfl h) (fun _ => ?_)
  refine j_aload_n 531 C dL_law_530 5 rfl rfl ?_
  refine j_iconst 532 C dL_law_531 ic_0 rfl ?_
  change JJ _ _ _ _ _ _ _ _ _ _ _ _ _ (LW g A ly (([outc g qo r.toInt64] ++ cW g lay σ') ++ rW g ρ')) _ _ _ _ _
  refine j_world (fun H h => LW_assoc.mpr h) ?_
  refine lk_lald 533 C K dL_law_532 rfl ?_
  refine j_world (fun H h => LW_assoc.mp h) ?_
  refine j_iload 535 C dL_law_533 0 rfl rfl ?_
  refine j_i2l 536 C dL_law_535 rfl ?_
  refine j_lcmp 537 C dL_law_536 rfl ?_
  refine j_if_eq 540 542 C dL_law_537 (by decide) rfl (fun _ => ?_) (fun h => absurd (lg_cmp_self _) h)
  refine j_goto 1531 C dL_law_542 (by decide) ?_
  refine j_world (fun H h => LW_comm (lay' := ly) h) ?_
  exact j_sub [2, 3, 4, 5, 6] rfl (KK lay)
set_option maxRecDepth 100000 in
theorem lq_crash_1 {p : Program} {l : Launch} {e : Env} {s : State} {m : MethodId} {args : Array Value} {below : List Frame} {meth : Method} {c : Code} {Q : State → Prop} {A : Nat → Prop} {k n : Nat} {g : GG} {ly lay : Nat → Nat} {b L qo : Nat} {xs : Nat → Int32} {i : Nat} {σ σ' : CS} {ρ ρ' : RS} {v : Int64} {r : Int32} (C : KX p m c cL_law 9 s args RL) (K : KC l g A s) (hX : va_X b L xs s s.heap) (hbl : b < s.heap.size) (hbA : ¬ A b) (hi : i + 5 ≤ L) (hL : L ≤ 2560) (hF : F_X5_crash σ (xs (i + 1)) (xs (i + 2)) = some (σ', .inr 1)) (hM : F_X6_crash ρ (xs (i + 1)) (xs (i + 2)) = some (ρ', r)) (h0 : ρ'.1 0 0 = 1) (hc : k + 1 ≤ 601024 ∧ n + 6 ≤ 7293034)
    (KK : ∀ lay : Nat → Nat, JJ p l e room_1 s m args below meth c Q A 9 (LW g A ly (rW g ρ' ++ ([outc g qo v] ++ cW g lay σ'))) (k + 1) (n + 6) 1531 [(0, .ref b), (1, .ref (ga g 0)), (2, .ref (gm g 0)), (3, .ref qo), (4, .int (nI i))] []) : JJ p l e room_1 s m args below meth c Q A 9 (LW g A ly (rW g ρ ++ ([outc g qo v] ++ cW g lay σ))) k n 477 [(0, .ref b), (1, .ref (ga g 0)), (2, .ref (gm g 0)), (3, .ref qo), (4, .int (nI i))] [] := by
  refine j_aload_n 478 C dL_law_477 1 rfl rfl ?_
  refine ls_rd 484 C hX hbl hbA hL 1 0 4 1 dL_law_478 dL_law_479 dL_law_481 dL_law_482 dL_law_483 nz_1 (by omega) rfl rfl rfl ?_
  refine ls_rd 490 C hX hbl hbA hL 2 0 4 2 dL_law_484 dL_law_485 dL_law_487 dL_law_488 dL_law_489 nz_2 (by omega) rfl rfl rfl ?_
  refine j_aload_n 491 C dL_law_490 3 rfl rfl ?_
  refine lk_Sw (np := 4) (w0 := rW g ρ) (wx := oW g qo) (σ := (σ, v)) (σ' := (σ', v)) (lay := lay) (As := [.ref (ga g 0), .int (xs (i + 1)), .int (xs (i + 2)), .ref qo]) (st := []) 494 C K (fun A1 => w_L_crash_1 K.2.2.2 g A1 lay qo hF) mw_779 mw_97 hw_L_crash ⟨by decide, by decide, by decide +kernel⟩ mw_778 dL_law_491 rfl rfl (Nat.le_of_ble_eq_true rfl) ⟨Nat.le_of_ble_eq_true rfl, Nat.le_of_ble_eq_true rfl⟩ hc rfl (fun lay => ?_)
  refine j_istore 496 C dL_law_494 (lo' := (5, .int 1) :: [(0, .ref b), (1, .ref (ga g 0)), (2, .ref (gm g 0)), (3, .ref qo), (4, .int (nI i))]) (by decide) rfl rfl ?_
  refine j_world (fun H h => LW_comm (lay' := ly) h) ?_
  refine j_aload_n 497 C dL_law_496 3 rfl rfl ?_
  refine ls_rd 503 C hX hbl hbA hL 1 1 5 1 dL_law_497 dL_law_498 dL_law_500 dL_law_501 dL_law_502 nz_1 (by omega) rfl rfl rfl ?_
  refine ls_rd 509 C hX hbl hbA hL 2 1 5 2 dL_law_503 dL_law_504 dL_law_506 dL_law_507 dL_law_508 nz_2 (by omega) rfl rfl rfl ?_
  refine lk_Vi (w0 := oW g qo lay (σ', v)) (wx := rX g) (σ := ρ) (lay := lay) (As := [.int (xs (i + 1)), .int (xs (i + 2))]) (st := []) 512 C K (fun A1 => c_X6_crash K.2.2.2 g A1 lay hM) cp_X6_crash (fun A1 => rv_M) mw_1165 dL_law_509 rfl rfl (Nat.le_of_ble_eq_true rfl) ⟨Nat.le_of_ble_eq_true rfl, Nat.le_of_ble_eq_true rfl⟩ hc rfl (fun lay1 => ?_)
  refine j_istore 514 C dL_law_512 (lo' := (6, .int r) :: (5, .int 1) :: [(0, .ref b), (1, .ref (ga g 0)), (2, .ref (gm g 0)), (3, .ref qo), (4, .int (nI i))]) (by decide) rfl rfl ?_
  refine j_aload_n 515 C dL_law_514 4 rfl rfl ?_
  refine lk_Vi (w0 := oW g qo lay (σ', v)) (wx := rX g) (σ := ρ') (lay := lay1) (As := []) (st := []) (r := 1) 518 C K (fun A1 => c_X6_thrown K.2.2.2 g A1 lay1 (by rw [thr_eq, h0])) cp_X6_thrown (fun A1 => rv_M) mw_1070 dL_law_515 rfl rfl (Nat.le_of_ble_eq_true rfl) ⟨Nat.le_of_ble_eq_true rfl, Nat.le_of_ble_eq_true rfl⟩ hc rfl (fun lay2 => ?_)
  refine j_iload 520 C dL_law_518 1 rfl rfl ?_
  refine j_icmp_eq 523 525 C dL_law_520 (by decide) rfl (fun _ => ?_) (fun h => absurd rfl h)
  refine j_iload 527 C dL_law_525 1 rfl rfl ?_
  refine j_if_ne 530 542 C dL_law_527 (by decide) rfl (fun _ => ?_) (fun h => absurd h (by decide))
  change JJ _ _ _ _ _ _ _ _ _ _ _ _ _ (LW g A ly (([outc g qo v] ++ cW g lay σ') ++ rW g ρ')) _ _ _ _ _
  refine j_goto 1531 C dL_law_542 (by decide) ?_
  refine j_world (fun H h => LW_comm (lay' := ly) h) ?_
  exact j_sub [2, 3, 4, 5, 6] rfl (KK lay)
set_option maxRecDepth 100000 in
theorem lq_crash_2 {p : Program} {l : Launch} {e : Env} {s : State} {m : MethodId} {args : Array Value} {below : List Frame} {meth : Method} {c : Code} {Q : State → Prop} {A : Nat → Prop} {k n : Nat} {g : GG} {ly lay : Nat → Nat} {b L qo : Nat} {xs : Nat → Int32} {i : Nat} {σ σ' : CS} {ρ ρ' : RS} {v : Int64} {r : Int32} (C : KX p m c cL_law 9 s args RL) (K : KC l g A s) (hX : va_X b L xs s s.heap) (hbl : b < s.heap.size) (hbA : ¬ A b) (hi : i + 5 ≤ L) (hL : L ≤ 2560) (hF : F_X5_crash σ (xs (i + 1)) (xs (i + 2)) = some (σ', .inr 2)) (hM : F_X6_crash ρ (xs (i + 1)) (xs (i + 2)) = some (ρ', r)) (h0 : ρ'.1 0 0 = 2) (hc : k + 1 ≤ 601024 ∧ n + 6 ≤ 7293034)
    (KK : ∀ lay : Nat → Nat, JJ p l e room_1 s m args below meth c Q A 9 (LW g A ly (rW g ρ' ++ ([outc g qo v] ++ cW g lay σ'))) (k + 1) (n + 6) 1531 [(0, .ref b), (1, .ref (ga g 0)), (2, .ref (gm g 0)), (3, .ref qo), (4, .int (nI i))] []) : JJ p l e room_1 s m args below meth c Q A 9 (LW g A ly (rW g ρ ++ ([outc g qo v] ++ cW g lay σ))) k n 477 [(0, .ref b), (1, .ref (ga g 0)), (2, .ref (gm g 0)), (3, .ref qo), (4, .int (nI i))] [] := by
  refine j_aload_n 478 C dL_law_477 1 rfl rfl ?_
  refine ls_rd 484 C hX hbl hbA hL 1 0 4 1 dL_law_478 dL_law_479 dL_law_481 dL_law_482 dL_law_483 nz_1 (by omega) rfl rfl rfl ?_
  refine ls_rd 490 C hX hbl hbA hL 2 0 4 2 dL_law_484 dL_law_485 dL_law_487 dL_law_488 dL_law_489 nz_2 (by omega) rfl rfl rfl ?_
  refine j_aload_n 491 C dL_law_490 3 rfl rfl ?_
  refine lk_Sw (np := 4) (w0 := rW g ρ) (wx := oW g qo) (σ := (σ, v)) (σ' := (σ', v)) (lay := lay) (As := [.ref (ga g 0), .int (xs (i + 1)), .int (xs (i + 2)), .ref qo]) (st := []) 494 C K (fun A1 => w_L_crash_2 K.2.2.2 g A1 lay qo hF) mw_779 mw_97 hw_L_crash ⟨by decide, by decide, by decide +kernel⟩ mw_778 dL_law_491 rfl rfl (Nat.le_of_ble_eq_true rfl) ⟨Nat.le_of_ble_eq_true rfl, Nat.le_of_ble_eq_true rfl⟩ hc rfl (fun lay => ?_)
  refine j_istore 496 C dL_law_494 (lo' := (5, .int 2) :: [(0, .ref b), (1, .ref (ga g 0)), (2, .ref (gm g 0)), (3, .ref qo), (4, .int (nI i))]) (by decide) rfl rfl ?_
  refine j_world (fun H h => LW_comm (lay' := ly) h) ?_
  refine j_aload_n 497 C dL_law_496 3 rfl rfl ?_
  refine ls_rd 503 C hX hbl hbA hL 1 1 5 1 dL_law_497 dL_law_498 dL_law_500 dL_law_501 dL_law_502 nz_1 (by omega) rfl rfl rfl ?_
  refine ls_rd 509 C hX hbl hbA hL 2 1 5 2 dL_law_503 dL_law_504 dL_law_506 dL_law_507 dL_law_508 nz_2 (by omega) rfl rfl rfl ?_
  refine lk_Vi (w0 := oW g qo lay (σ', v)) (wx := rX g) (σ := ρ) (lay := lay) (As := [.int (xs (i + 1)), .int (xs (i + 2))]) (st := []) 512 C K (fun A1 => c_X6_crash K.2.2.2 g A1 lay hM) cp_X6_crash (fun A1 => rv_M) mw_1165 dL_law_509 rfl rfl (Nat.le_of_ble_eq_true rfl) ⟨Nat.le_of_ble_eq_true rfl, Nat.le_of_ble_eq_true rfl⟩ hc rfl (fun lay1 => ?_)
  refine j_istore 514 C dL_law_512 (lo' := (6, .int r) :: (5, .int 2) :: [(0, .ref b), (1, .ref (ga g 0)), (2, .ref (gm g 0)), (3, .ref qo), (4, .int (nI i))]) (by decide) rfl rfl ?_
  refine j_aload_n 515 C dL_law_514 4 rfl rfl ?_
  refine lk_Vi (w0 := oW g qo lay (σ', v)) (wx := rX g) (σ := ρ') (lay := lay1) (As := []) (st := []) (r := 2) 518 C K (fun A1 => c_X6_thrown K.2.2.2 g A1 lay1 (by rw [thr_eq, h0])) cp_X6_thrown (fun A1 => rv_M) mw_1070 dL_law_515 rfl rfl (Nat.le_of_ble_eq_true rfl) ⟨Nat.le_of_ble_eq_true rfl, Nat.le_of_ble_eq_true rfl⟩ hc rfl (fun lay2 => ?_)
  refine j_iload 520 C dL_law_518 1 rfl rfl ?_
  refine j_icmp_eq 523 525 C dL_law_520 (by decide) rfl (fun _ => ?_) (fun h => absurd rfl h)
  refine j_iload 527 C dL_law_525 1 rfl rfl ?_
  refine j_if_ne 530 542 C dL_law_527 (by decide) rfl (fun _ => ?_) (fun h => absurd h (by decide))
  change JJ _ _ _ _ _ _ _ _ _ _ _ _ _ (LW g A ly (([outc g qo v] ++ cW g lay σ') ++ rW g ρ')) _ _ _ _ _
  refine j_goto 1531 C dL_law_542 (by decide) ?_
  refine j_world (fun H h => LW_comm (lay' := ly) h) ?_
  exact j_sub [2, 3, 4, 5, 6] rfl (KK lay)
set_option maxRecDepth 100000 in
theorem lq_crash_3 {p : Program} {l : Launch} {e : Env} {s : State} {m : MethodId} {args : Array Value} {below : List Frame} {meth : Method} {c : Code} {Q : State → Prop} {A : Nat → Prop} {k n : Nat} {g : GG} {ly lay : Nat → Nat} {b L qo : Nat} {xs : Nat → Int32} {i : Nat} {σ σ' : CS} {ρ ρ' : RS} {v : Int64} {r : Int32} (C : KX p m c cL_law 9 s args RL) (K : KC l g A s) (hX : va_X b L xs s s.heap) (hbl : b < s.heap.size) (hbA : ¬ A b) (hi : i + 5 ≤ L) (hL : L ≤ 2560) (hF : F_X5_crash σ (xs (i + 1)) (xs (i + 2)) = some (σ', .inr 3)) (hM : F_X6_crash ρ (xs (i + 1)) (xs (i + 2)) = some (ρ', r)) (h0 : ρ'.1 0 0 = 3) (hc : k + 1 ≤ 601024 ∧ n + 6 ≤ 7293034)
    (KK : ∀ lay : Nat → Nat, JJ p l e room_1 s m args below meth c Q A 9 (LW g A ly (rW g ρ' ++ ([outc g qo v] ++ cW g lay σ'))) (k + 1) (n + 6) 1531 [(0, .ref b), (1, .ref (ga g 0)), (2, .ref (gm g 0)), (3, .ref qo), (4, .int (nI i))] []) : JJ p l e room_1 s m args below meth c Q A 9 (LW g A ly (rW g ρ ++ ([outc g qo v] ++ cW g lay σ))) k n 477 [(0, .ref b), (1, .ref (ga g 0)), (2, .ref (gm g 0)), (3, .ref qo), (4, .int (nI i))] [] := by
  refine j_aload_n 478 C dL_law_477 1 rfl rfl ?_
  refine ls_rd 484 C hX hbl hbA hL 1 0 4 1 dL_law_478 dL_law_479 dL_law_481 dL_law_482 dL_law_483 nz_1 (by omega) rfl rfl rfl ?_
  refine ls_rd 490 C hX hbl hbA hL 2 0 4 2 dL_law_484 dL_law_485 dL_law_487 dL_law_488 dL_law_489 nz_2 (by omega) rfl rfl rfl ?_
  refine j_aload_n 491 C dL_law_490 3 rfl rfl ?_
  refine lk_Sw (np := 4) (w0 := rW g ρ) (wx := oW g qo) (σ := (σ, v)) (σ' := (σ', v)) (lay := lay) (As := [.ref (ga g 0), .int (xs (i + 1)), .int (xs (i + 2)), .ref qo]) (st := []) 494 C K (fun A1 => w_L_crash_3 K.2.2.2 g A1 lay qo hF) mw_779 mw_97 hw_L_crash ⟨by decide, by decide, by decide +kernel⟩ mw_778 dL_law_491 rfl rfl (Nat.le_of_ble_eq_true rfl) ⟨Nat.le_of_ble_eq_true rfl, Nat.le_of_ble_eq_true rfl⟩ hc rfl (fun lay => ?_)
  refine j_istore 496 C dL_law_494 (lo' := (5, .int 3) :: [(0, .ref b), (1, .ref (ga g 0)), (2, .ref (gm g 0)), (3, .ref qo), (4, .int (nI i))]) (by decide) rfl rfl ?_
  refine j_world (fun H h => LW_comm (lay' := ly) h) ?_
  refine j_aload_n 497 C dL_law_496 3 rfl rfl ?_
  refine ls_rd 503 C hX hbl hbA hL 1 1 5 1 dL_law_497 dL_law_498 dL_law_500 dL_law_501 dL_law_502 nz_1 (by omega) rfl rfl rfl ?_
  refine ls_rd 509 C hX hbl hbA hL 2 1 5 2 dL_law_503 dL_law_504 dL_law_506 dL_law_507 dL_law_508 nz_2 (by omega) rfl rfl rfl ?_
  refine lk_Vi (w0 := oW g qo lay (σ', v)) (wx := rX g) (σ := ρ) (lay := lay) (As := [.int (xs (i + 1)), .int (xs (i + 2))]) (st := []) 512 C K (fun A1 => c_X6_crash K.2.2.2 g A1 lay hM) cp_X6_crash (fun A1 => rv_M) mw_1165 dL_law_509 rfl rfl (Nat.le_of_ble_eq_true rfl) ⟨Nat.le_of_ble_eq_true rfl, Nat.le_of_ble_eq_true rfl⟩ hc rfl (fun lay1 => ?_)
  refine j_istore 514 C dL_law_512 (lo' := (6, .int r) :: (5, .int 3) :: [(0, .ref b), (1, .ref (ga g 0)), (2, .ref (gm g 0)), (3, .ref qo), (4, .int (nI i))]) (by decide) rfl rfl ?_
  refine j_aload_n 515 C dL_law_514 4 rfl rfl ?_
  refine lk_Vi (w0 := oW g qo lay (σ', v)) (wx := rX g) (σ := ρ') (lay := lay1) (As := []) (st := []) (r := 3) 518 C K (fun A1 => c_X6_thrown K.2.2.2 g A1 lay1 (by rw [thr_eq, h0])) cp_X6_thrown (fun A1 => rv_M) mw_1070 dL_law_515 rfl rfl (Nat.le_of_ble_eq_true rfl) ⟨Nat.le_of_ble_eq_true rfl, Nat.le_of_ble_eq_true rfl⟩ hc rfl (fun lay2 => ?_)
  refine j_iload 520 C dL_law_518 1 rfl rfl ?_
  refine j_icmp_eq 523 525 C dL_law_520 (by decide) rfl (fun _ => ?_) (fun h => absurd rfl h)
  refine j_iload 527 C dL_law_525 1 rfl rfl ?_
  refine j_if_ne 530 542 C dL_law_527 (by decide) rfl (fun _ => ?_) (fun h => absurd h (by decide))
  change JJ _ _ _ _ _ _ _ _ _ _ _ _ _ (LW g A ly (([outc g qo v] ++ cW g lay σ') ++ rW g ρ')) _ _ _ _ _
  refine j_goto 1531 C dL_law_542 (by decide) ?_
  refine j_world (fun H h => LW_comm (lay' := ly) h) ?_
  exact j_sub [2, 3, 4, 5, 6] rfl (KK lay)
set_option maxRecDepth 100000 in
theorem lq_wipe {p : Program} {l : Launch} {e : Env} {s : State} {m : MethodId} {args : Array Value} {below : List Frame} {meth : Method} {c : Code} {Q : State → Prop} {A : Nat → Prop} {k n : Nat} {g : GG} {ly lay : Nat → Nat} {b L qo : Nat} {xs : Nat → Int32} {i : Nat} {σ σ' : CS} {ρ ρ' : RS} {v : Int64} {r : Int32} (C : KX p m c cL_law 9 s args RL) (K : KC l g A s) (hX : va_X b L xs s s.heap) (hbl : b < s.heap.size) (hbA : ¬ A b) (hi : i + 5 ≤ L) (hL : L ≤ 2560) (hF : F_X5_wipe σ (xs (i + 1)) = some (σ', .inl r)) (hM : F_X6_wipe ρ (xs (i + 1)) = some (ρ', r)) (h0 : ρ'.1 0 0 = 0) (hc : k + 0 ≤ 601024 ∧ n + 0 ≤ 7293034)
    (KK : ∀ lay : Nat → Nat, JJ p l e room_1 s m args below meth c Q A 9 (LW g A ly (rW g ρ' ++ ([outc g qo r.toInt64] ++ cW g lay σ'))) (k + 0) (n + 0) 1531 [(0, .ref b), (1, .ref (ga g 0)), (2, .ref (gm g 0)), (3, .ref qo), (4, .int (nI i))] []) : JJ p l e room_1 s m args below meth c Q A 9 (LW g A ly (rW g ρ ++ ([outc g qo v] ++ cW g lay σ))) k n 545 [(0, .ref b), (1, .ref (ga g 0)), (2, .ref (gm g 0)), (3, .ref qo), (4, .int (nI i))] [] := by
  refine j_aload_n 546 C dL_law_545 1 rfl rfl ?_
  refine ls_rd 552 C hX hbl hbA hL 1 0 4 1 dL_law_546 dL_law_547 dL_law_549 dL_law_550 dL_law_551 nz_1 (by omega) rfl rfl rfl ?_
  refine j_aload_n 553 C dL_law_552 3 rfl rfl ?_
  refine lk_Sw (np := 3) (w0 := rW g ρ) (wx := oW g qo) (σ := (σ, v)) (σ' := (σ', r.toInt64)) (lay := lay) (As := [.ref (ga g 0), .int (xs (i + 1)), .ref qo]) (st := []) 556 C K (fun A1 => w_L_wipe K.2.2.2 g A1 lay qo hF) mw_804 mw_97 hw_L_wipe ⟨by decide, by decide, by decide +kernel⟩ mw_803 dL_law_553 rfl rfl (Nat.le_of_ble_eq_true rfl) ⟨Nat.le_of_ble_eq_true rfl, Nat.le_of_ble_eq_true rfl⟩ hc rfl (fun lay => ?_)
  refine j_istore 558 C dL_law_556 (lo' := (5, .int 0) :: [(0, .ref b), (1, .ref (ga g 0)), (2, .ref (gm g 0)), (3, .ref qo), (4, .int (nI i))]) (by decide) rfl rfl ?_
  refine j_world (fun H h => LW_comm (lay' := ly) h) ?_
  refine j_aload_n 559 C dL_law_558 3 rfl rfl ?_
  refine ls_rd 565 C hX hbl hbA hL 1 1 5 1 dL_law_559 dL_law_560 dL_law_562 dL_law_563 dL_law_564 nz_1 (by omega) rfl rfl rfl ?_
  refine lk_Vi (w0 := oW g qo lay (σ', r.toInt64)) (wx := rX g) (σ := ρ) (lay := lay) (As := [.int (xs (i + 1))]) (st := []) 568 C K (fun A1 => c_X6_wipe K.2.2.2 g A1 lay hM) cp_X6_wipe (fun A1 => rv_M) mw_1173 dL_law_565 rfl rfl (Nat.le_of_ble_eq_true rfl) ⟨Nat.le_of_ble_eq_true rfl, Nat.le_of_ble_eq_true rfl⟩ hc rfl (fun lay1 => ?_)
  refine j_istore 570 C dL_law_568 (lo' := (6, .int r) :: (5, .int 0) :: [(0, .ref b), (1, .ref (ga g 0)), (2, .ref (gm g 0)), (3, .ref qo), (4, .int (nI i))]) (by decide) rfl rfl ?_
  refine j_aload_n 571 C dL_law_570 4 rfl rfl ?_
  refine lk_Vi (w0 := oW g qo lay (σ', r.toInt64)) (wx := rX g) (σ := ρ') (lay := lay1) (As := []) (st := []) (r := 0) 574 C K (fun A1 => c_X6_thrown K.2.2.2 g A1 lay1 (by rw [thr_eq, h0])) cp_X6_thrown (fun A1 => rv_M) mw_1070 dL_law_571 rfl rfl (Nat.le_of_ble_eq_true rfl) ⟨Nat.le_of_ble_eq_true rfl, Nat.le_of_ble_eq_true rfl⟩ hc rfl (fun lay2 => ?_)
  refine j_iload 576 C dL_law_574 1 rfl rfl ?_
  refine j_icmp_eq 579 581 C dL_law_576 (by decide) rfl (fun _ => ?_) (fun h => absurd rfl h)
  refine j_iload 583 C dL_law_581 1 rfl rfl ?_
  refine j_if_ne 586 598 C dL_law_583 (by decide) rfl (fun h => absurd rfl h) (fun _ => ?_)
  refine j_aload_n 587 C dL_law_586 5 rfl rfl ?_
  refine j_iconst 588 C dL_law_587 ic_0 rfl ?_
  change JJ _ _ _ _ _ _ _ _ _ _ _ _ _ (LW g A ly (([outc g qo r.toInt64] ++ cW g lay σ') ++ rW g ρ')) _ _ _ _ _
  refine j_world (fun H h => LW_assoc.mpr h) ?_
  refine lk_lald 589 C K dL_law_588 rfl ?_
  refine j_world (fun H h => LW_assoc.mp h) ?_
  refine j_iload 591 C dL_law_589 0 rfl rfl ?_
  refine j_i2l 592 C dL_law_591 rfl ?_
  refine j_lcmp 593 C dL_law_592 rfl ?_
  refine j_if_eq 596 598 C dL_law_593 (by decide) rfl (fun _ => ?_) (fun h => absurd (lg_cmp_self _) h)
  refine j_goto 1531 C dL_law_598 (by decide) ?_
  refine j_world (fun H h => LW_comm (lay' := ly) h) ?_
  exact j_sub [2, 3, 4, 5, 6] rfl (KK lay)
set_option maxRecDepth 100000 in
theorem lq_wipe_1 {p : Program} {l : Launch} {e : Env} {s : State} {m : MethodId} {args : Array Value} {below : List Frame} {meth : Method} {c : Code} {Q : State → Prop} {A : Nat → Prop} {k n : Nat} {g : GG} {ly lay : Nat → Nat} {b L qo : Nat} {xs : Nat → Int32} {i : Nat} {σ σ' : CS} {ρ ρ' : RS} {v : Int64} {r : Int32} (C : KX p m c cL_law 9 s args RL) (K : KC l g A s) (hX : va_X b L xs s s.heap) (hbl : b < s.heap.size) (hbA : ¬ A b) (hi : i + 5 ≤ L) (hL : L ≤ 2560) (hF : F_X5_wipe σ (xs (i + 1)) = some (σ', .inr 1)) (hM : F_X6_wipe ρ (xs (i + 1)) = some (ρ', r)) (h0 : ρ'.1 0 0 = 1) (hc : k + 1 ≤ 601024 ∧ n + 6 ≤ 7293034)
    (KK : ∀ lay : Nat → Nat, JJ p l e room_1 s m args below meth c Q A 9 (LW g A ly (rW g ρ' ++ ([outc g qo v] ++ cW g lay σ'))) (k + 1) (n + 6) 1531 [(0, .ref b), (1, .ref (ga g 0)), (2, .ref (gm g 0)), (3, .ref qo), (4, .int (nI i))] []) : JJ p l e room_1 s m args below meth c Q A 9 (LW g A ly (rW g ρ ++ ([outc g qo v] ++ cW g lay σ))) k n 545 [(0, .ref b), (1, .ref (ga g 0)), (2, .ref (gm g 0)), (3, .ref qo), (4, .int (nI i))] [] := by
  refine j_aload_n 546 C dL_law_545 1 rfl rfl ?_
  refine ls_rd 552 C hX hbl hbA hL 1 0 4 1 dL_law_546 dL_law_547 dL_law_549 dL_law_550 dL_law_551 nz_1 (by omega) rfl rfl rfl ?_
  refine j_aload_n 553 C dL_law_552 3 rfl rfl ?_
  refine lk_Sw (np := 3) (w0 := rW g ρ) (wx := oW g qo) (σ := (σ, v)) (σ' := (σ', v)) (lay := lay) (As := [.ref (ga g 0), .int (xs (i + 1)), .ref qo]) (st := []) 556 C K (fun A1 => w_L_wipe_1 K.2.2.2 g A1 lay qo hF) mw_804 mw_97 hw_L_wipe ⟨by decide, by decide, by decide +kernel⟩ mw_803 dL_law_553 rfl rfl (Nat.le_of_ble_eq_true rfl) ⟨Nat.le_of_ble_eq_true rfl, Nat.le_of_ble_eq_true rfl⟩ hc rfl (fun lay => ?_)
  refine j_istore 558 C dL_law_556 (lo' := (5, .int 1) :: [(0, .ref b), (1, .ref (ga g 0)), (2, .ref (gm g 0)), (3, .ref qo), (4, .int (nI i))]) (by decide) rfl rfl ?_
  refine j_world (fun H h => LW_comm (lay' := ly) h) ?_
  refine j_aload_n 559 C dL_law_558 3 rfl rfl ?_
  refine ls_rd 565 C hX hbl hbA hL 1 1 5 1 dL_law_559 dL_law_560 dL_law_562 dL_law_563 dL_law_564 nz_1 (by omega) rfl rfl rfl ?_
  refine lk_Vi (w0 := oW g qo lay (σ', v)) (wx := rX g) (σ := ρ) (lay := lay) (As := [.int (xs (i + 1))]) (st := []) 568 C K (fun A1 => c_X6_wipe K.2.2.2 g A1 lay hM) cp_X6_wipe (fun A1 => rv_M) mw_1173 dL_law_565 rfl rfl (Nat.le_of_ble_eq_true rfl) ⟨Nat.le_of_ble_eq_true rfl, Nat.le_of_ble_eq_true rfl⟩ hc rfl (fun lay1 => ?_)
  refine j_istore 570 C dL_law_568 (lo' := (6, .int r) :: (5, .int 1) :: [(0, .ref b), (1, .ref (ga g 0)), (2, .ref (gm g 0)), (3, .ref qo), (4, .int (nI i))]) (by decide) rfl rfl ?_
  refine j_aload_n 571 C dL_law_570 4 rfl rfl ?_
  refine lk_Vi (w0 := oW g qo lay (σ', v)) (wx := rX g) (σ := ρ') (lay := lay1) (As := []) (st := []) (r := 1) 574 C K (fun A1 => c_X6_thrown K.2.2.2 g A1 lay1 (by rw [thr_eq, h0])) cp_X6_thrown (fun A1 => rv_M) mw_1070 dL_law_571 rfl rfl (Nat.le_of_ble_eq_true rfl) ⟨Nat.le_of_ble_eq_true rfl, Nat.le_of_ble_eq_true rfl⟩ hc rfl (fun lay2 => ?_)
  refine j_iload 576 C dL_law_574 1 rfl rfl ?_
  refine j_icmp_eq 579 581 C dL_law_576 (by decide) rfl (fun _ => ?_) (fun h => absurd rfl h)
  refine j_iload 583 C dL_law_581 1 rfl rfl ?_
  refine j_if_ne 586 598 C dL_law_583 (by decide) rfl (fun _ => ?_) (fun h => absurd h (by decide))
  change JJ _ _ _ _ _ _ _ _ _ _ _ _ _ (LW g A ly (([outc g qo v] ++ cW g lay σ') ++ rW g ρ')) _ _ _ _ _
  refine j_goto 1531 C dL_law_598 (by decide) ?_
  refine j_world (fun H h => LW_comm (lay' := ly) h) ?_
  exact j_sub [2, 3, 4, 5, 6] rfl (KK lay)
set_option maxRecDepth 100000 in
theorem lq_wipe_3 {p : Program} {l : Launch} {e : Env} {s : State} {m : MethodId} {args : Array Value} {below : List Frame} {meth : Method} {c : Code} {Q : State → Prop} {A : Nat → Prop} {k n : Nat} {g : GG} {ly lay : Nat → Nat} {b L qo : Nat} {xs : Nat → Int32} {i : Nat} {σ σ' : CS} {ρ ρ' : RS} {v : Int64} {r : Int32} (C : KX p m c cL_law 9 s args RL) (K : KC l g A s) (hX : va_X b L xs s s.heap) (hbl : b < s.heap.size) (hbA : ¬ A b) (hi : i + 5 ≤ L) (hL : L ≤ 2560) (hF : F_X5_wipe σ (xs (i + 1)) = some (σ', .inr 3)) (hM : F_X6_wipe ρ (xs (i + 1)) = some (ρ', r)) (h0 : ρ'.1 0 0 = 2) (hc : k + 1 ≤ 601024 ∧ n + 6 ≤ 7293034)
    (KK : ∀ lay : Nat → Nat, JJ p l e room_1 s m args below meth c Q A 9 (LW g A ly (rW g ρ' ++ ([outc g qo v] ++ cW g lay σ'))) (k + 1) (n + 6) 1531 [(0, .ref b), (1, .ref (ga g 0)), (2, .ref (gm g 0)), (3, .ref qo), (4, .int (nI i))] []) : JJ p l e room_1 s m args below meth c Q A 9 (LW g A ly (rW g ρ ++ ([outc g qo v] ++ cW g lay σ))) k n 545 [(0, .ref b), (1, .ref (ga g 0)), (2, .ref (gm g 0)), (3, .ref qo), (4, .int (nI i))] [] := by
  refine j_aload_n 546 C dL_law_545 1 rfl rfl ?_
  refine ls_rd 552 C hX hbl hbA hL 1 0 4 1 dL_law_546 dL_law_547 dL_law_549 dL_law_550 dL_law_551 nz_1 (by omega) rfl rfl rfl ?_
  refine j_aload_n 553 C dL_law_552 3 rfl rfl ?_
  refine lk_Sw (np := 3) (w0 := rW g ρ) (wx := oW g qo) (σ := (σ, v)) (σ' := (σ', v)) (lay := lay) (As := [.ref (ga g 0), .int (xs (i + 1)), .ref qo]) (st := []) 556 C K (fun A1 => w_L_wipe_3 K.2.2.2 g A1 lay qo hF) mw_804 mw_97 hw_L_wipe ⟨by decide, by decide, by decide +kernel⟩ mw_803 dL_law_553 rfl rfl (Nat.le_of_ble_eq_true rfl) ⟨Nat.le_of_ble_eq_true rfl, Nat.le_of_ble_eq_true rfl⟩ hc rfl (fun lay => ?_)
  refine j_istore 558 C dL_law_556 (lo' := (5, .int 2) :: [(0, .ref b), (1, .ref (ga g 0)), (2, .ref (gm g 0)), (3, .ref qo), (4, .int (nI i))]) (by decide) rfl rfl ?_
  refine j_world (fun H h => LW_comm (lay' := ly) h) ?_
  refine j_aload_n 559 C dL_law_558 3 rfl rfl ?_
  refine ls_rd 565 C hX hbl hbA hL 1 1 5 1 dL_law_559 dL_law_560 dL_law_562 dL_law_563 dL_law_564 nz_1 (by omega) rfl rfl rfl ?_
  refine lk_Vi (w0 := oW g qo lay (σ', v)) (wx := rX g) (σ := ρ) (lay := lay) (As := [.int (xs (i + 1))]) (st := []) 568 C K (fun A1 => c_X6_wipe K.2.2.2 g A1 lay hM) cp_X6_wipe (fun A1 => rv_M) mw_1173 dL_law_565 rfl rfl (Nat.le_of_ble_eq_true rfl) ⟨Nat.le_of_ble_eq_true rfl, Nat.le_of_ble_eq_true rfl⟩ hc rfl (fun lay1 => ?_)
  refine j_istore 570 C dL_law_568 (lo' := (6, .int r) :: (5, .int 2) :: [(0, .ref b), (1, .ref (ga g 0)), (2, .ref (gm g 0)), (3, .ref qo), (4, .int (nI i))]) (by decide) rfl rfl ?_
  refine j_aload_n 571 C dL_law_570 4 rfl rfl ?_
  refine lk_Vi (w0 := oW g qo lay (σ', v)) (wx := rX g) (σ := ρ') (lay := lay1) (As := []) (st := []) (r := 2) 574 C K (fun A1 => c_X6_thrown K.2.2.2 g A1 lay1 (by rw [thr_eq, h0])) cp_X6_thrown (fun A1 => rv_M) mw_1070 dL_law_571 rfl rfl (Nat.le_of_ble_eq_true rfl) ⟨Nat.le_of_ble_eq_true rfl, Nat.le_of_ble_eq_true rfl⟩ hc rfl (fun lay2 => ?_)
  refine j_iload 576 C dL_law_574 1 rfl rfl ?_
  refine j_icmp_eq 579 581 C dL_law_576 (by decide) rfl (fun _ => ?_) (fun h => absurd rfl h)
  refine j_iload 583 C dL_law_581 1 rfl rfl ?_
  refine j_if_ne 586 598 C dL_law_583 (by decide) rfl (fun _ => ?_) (fun h => absurd h (by decide))
  change JJ _ _ _ _ _ _ _ _ _ _ _ _ _ (LW g A ly (([outc g qo v] ++ cW g lay σ') ++ rW g ρ')) _ _ _ _ _
  refine j_goto 1531 C dL_law_598 (by decide) ?_
  refine j_world (fun H h => LW_comm (lay' := ly) h) ?_
  exact j_sub [2, 3, 4, 5, 6] rfl (KK lay)
set_option maxRecDepth 100000 in
theorem lq_restart {p : Program} {l : Launch} {e : Env} {s : State} {m : MethodId} {args : Array Value} {below : List Frame} {meth : Method} {c : Code} {Q : State → Prop} {A : Nat → Prop} {k n : Nat} {g : GG} {ly lay : Nat → Nat} {b L qo : Nat} {xs : Nat → Int32} {i : Nat} {σ σ' : CS} {ρ ρ' : RS} {v : Int64} {r : Int32} (C : KX p m c cL_law 9 s args RL) (K : KC l g A s) (hX : va_X b L xs s s.heap) (hbl : b < s.heap.size) (hbA : ¬ A b) (hi : i + 5 ≤ L) (hL : L ≤ 2560) (hF : F_X5_restart σ (xs (i + 1)) = some (σ', .inl r)) (hM : F_X6_restart ρ (xs (i + 1)) = some (ρ', r)) (h0 : ρ'.1 0 0 = 0) (hc : k + 0 ≤ 601024 ∧ n + 0 ≤ 7293034)
    (KK : ∀ lay : Nat → Nat, JJ p l e room_1 s m args below meth c Q A 9 (LW g A ly (rW g ρ' ++ ([outc g qo r.toInt64] ++ cW g lay σ'))) (k + 0) (n + 0) 1531 [(0, .ref b), (1, .ref (ga g 0)), (2, .ref (gm g 0)), (3, .ref qo), (4, .int (nI i))] []) : JJ p l e room_1 s m args below meth c Q A 9 (LW g A ly (rW g ρ ++ ([outc g qo v] ++ cW g lay σ))) k n 601 [(0, .ref b), (1, .ref (ga g 0)), (2, .ref (gm g 0)), (3, .ref qo), (4, .int (nI i))] [] := by
  refine j_aload_n 602 C dL_law_601 1 rfl rfl ?_
  refine ls_rd 608 C hX hbl hbA hL 1 0 4 1 dL_law_602 dL_law_603 dL_law_605 dL_law_606 dL_law_607 nz_1 (by omega) rfl rfl rfl ?_
  refine j_aload_n 609 C dL_law_608 3 rfl rfl ?_
  refine lk_Sw (np := 3) (w0 := rW g ρ) (wx := oW g qo) (σ := (σ, v)) (σ' := (σ', r.toInt64)) (lay := lay) (As := [.ref (ga g 0), .int (xs (i + 1)), .ref qo]) (st := []) 612 C K (fun A1 => w_L_restart K.2.2.2 g A1 lay qo hF) mw_825 mw_97 hw_L_restart ⟨by decide, by decide, by decide +kernel⟩ mw_824 dL_law_609 rfl rfl (Nat.le_of_ble_eq_true rfl) ⟨Nat.le_of_ble_eq_true rfl, Nat.le_of_ble_eq_true rfl⟩ hc rfl (fun lay => ?_)
  refine j_istore 614 C dL_law_612 (lo' := (5, .int 0) :: [(0, .ref b), (1, .ref (ga g 0)), (2, .ref (gm g 0)), (3, .ref qo), (4, .int (nI i))]) (by decide) rfl rfl ?_
  refine j_world (fun H h => LW_comm (lay' := ly) h) ?_
  refine j_aload_n 615 C dL_law_614 3 rfl rfl ?_
  refine ls_rd 621 C hX hbl hbA hL 1 1 5 1 dL_law_615 dL_law_616 dL_law_618 dL_law_619 dL_law_620 nz_1 (by omega) rfl rfl rfl ?_
  refine lk_Vi (w0 := oW g qo lay (σ', r.toInt64)) (wx := rX g) (σ := ρ) (lay := lay) (As := [.int (xs (i + 1))]) (st := []) 624 C K (fun A1 => c_X6_restart K.2.2.2 g A1 lay hM) cp_X6_restart (fun A1 => rv_M) mw_1181 dL_law_621 rfl rfl (Nat.le_of_ble_eq_true rfl) ⟨Nat.le_of_ble_eq_true rfl, Nat.le_of_ble_eq_true rfl⟩ hc rfl (fun lay1 => ?_)
  refine j_istore 626 C dL_law_624 (lo' := (6, .int r) :: (5, .int 0) :: [(0, .ref b), (1, .ref (ga g 0)), (2, .ref (gm g 0)), (3, .ref qo), (4, .int (nI i))]) (by decide) rfl rfl ?_
  refine j_aload_n 627 C dL_law_626 4 rfl rfl ?_
  refine lk_Vi (w0 := oW g qo lay (σ', r.toInt64)) (wx := rX g) (σ := ρ') (lay := lay1) (As := []) (st := []) (r := 0) 630 C K (fun A1 => c_X6_thrown K.2.2.2 g A1 lay1 (by rw [thr_eq, h0])) cp_X6_thrown (fun A1 => rv_M) mw_1070 dL_law_627 rfl rfl (Nat.le_of_ble_eq_true rfl) ⟨Nat.le_of_ble_eq_true rfl, Nat.le_of_ble_eq_true rfl⟩ hc rfl (fun lay2 => ?_)
  refine j_iload 632 C dL_law_630 1 rfl rfl ?_
  refine j_icmp_eq 635 637 C dL_law_632 (by decide) rfl (fun _ => ?_) (fun h => absurd rfl h)
  refine j_iload 639 C dL_law_637 1 rfl rfl ?_
  refine j_if_ne 642 654 C dL_law_639 (by decide) rfl (fun h => absurd rfl h) (fun _ => ?_)
  refine j_aload_n 643 C dL_law_642 5 rfl rfl ?_
  refine j_iconst 644 C dL_law_643 ic_0 rfl ?_
  change JJ _ _ _ _ _ _ _ _ _ _ _ _ _ (LW g A ly (([outc g qo r.toInt64] ++ cW g lay σ') ++ rW g ρ')) _ _ _ _ _
  refine j_world (fun H h => LW_assoc.mpr h) ?_
  refine lk_lald 645 C K dL_law_644 rfl ?_
  refine j_world (fun H h => LW_assoc.mp h) ?_
  refine j_iload 647 C dL_law_645 0 rfl rfl ?_
  refine j_i2l 648 C dL_law_647 rfl ?_
  refine j_lcmp 649 C dL_law_648 rfl ?_
  refine j_if_eq 652 654 C dL_law_649 (by decide) rfl (fun _ => ?_) (fun h => absurd (lg_cmp_self _) h)
  refine j_goto 1531 C dL_law_654 (by decide) ?_
  refine j_world (fun H h => LW_comm (lay' := ly) h) ?_
  exact j_sub [2, 3, 4, 5, 6] rfl (KK lay)
set_option maxRecDepth 100000 in
theorem lq_restart_1 {p : Program} {l : Launch} {e : Env} {s : State} {m : MethodId} {args : Array Value} {below : List Frame} {meth : Method} {c : Code} {Q : State → Prop} {A : Nat → Prop} {k n : Nat} {g : GG} {ly lay : Nat → Nat} {b L qo : Nat} {xs : Nat → Int32} {i : Nat} {σ σ' : CS} {ρ ρ' : RS} {v : Int64} {r : Int32} (C : KX p m c cL_law 9 s args RL) (K : KC l g A s) (hX : va_X b L xs s s.heap) (hbl : b < s.heap.size) (hbA : ¬ A b) (hi : i + 5 ≤ L) (hL : L ≤ 2560) (hF : F_X5_restart σ (xs (i + 1)) = some (σ', .inr 1)) (hM : F_X6_restart ρ (xs (i + 1)) = some (ρ', r)) (h0 : ρ'.1 0 0 = 1) (hc : k + 1 ≤ 601024 ∧ n + 6 ≤ 7293034)
    (KK : ∀ lay : Nat → Nat, JJ p l e room_1 s m args below meth c Q A 9 (LW g A ly (rW g ρ' ++ ([outc g qo v] ++ cW g lay σ'))) (k + 1) (n + 6) 1531 [(0, .ref b), (1, .ref (ga g 0)), (2, .ref (gm g 0)), (3, .ref qo), (4, .int (nI i))] []) : JJ p l e room_1 s m args below meth c Q A 9 (LW g A ly (rW g ρ ++ ([outc g qo v] ++ cW g lay σ))) k n 601 [(0, .ref b), (1, .ref (ga g 0)), (2, .ref (gm g 0)), (3, .ref qo), (4, .int (nI i))] [] := by
  refine j_aload_n 602 C dL_law_601 1 rfl rfl ?_
  refine ls_rd 608 C hX hbl hbA hL 1 0 4 1 dL_law_602 dL_law_603 dL_law_605 dL_law_606 dL_law_607 nz_1 (by omega) rfl rfl rfl ?_
  refine j_aload_n 609 C dL_law_608 3 rfl rfl ?_
  refine lk_Sw (np := 3) (w0 := rW g ρ) (wx := oW g qo) (σ := (σ, v)) (σ' := (σ', v)) (lay := lay) (As := [.ref (ga g 0), .int (xs (i + 1)), .ref qo]) (st := []) 612 C K (fun A1 => w_L_restart_1 K.2.2.2 g A1 lay qo hF) mw_825 mw_97 hw_L_restart ⟨by decide, by decide, by decide +kernel⟩ mw_824 dL_law_609 rfl rfl (Nat.le_of_ble_eq_true rfl) ⟨Nat.le_of_ble_eq_true rfl, Nat.le_of_ble_eq_true rfl⟩ hc rfl (fun lay => ?_)
  refine j_istore 614 C dL_law_612 (lo' := (5, .int 1) :: [(0, .ref b), (1, .ref (ga g 0)), (2, .ref (gm g 0)), (3, .ref qo), (4, .int (nI i))]) (by decide) rfl rfl ?_
  refine j_world (fun H h => LW_comm (lay' := ly) h) ?_
  refine j_aload_n 615 C dL_law_614 3 rfl rfl ?_
  refine ls_rd 621 C hX hbl hbA hL 1 1 5 1 dL_law_615 dL_law_616 dL_law_618 dL_law_619 dL_law_620 nz_1 (by omega) rfl rfl rfl ?_
  refine lk_Vi (w0 := oW g qo lay (σ', v)) (wx := rX g) (σ := ρ) (lay := lay) (As := [.int (xs (i + 1))]) (st := []) 624 C K (fun A1 => c_X6_restart K.2.2.2 g A1 lay hM) cp_X6_restart (fun A1 => rv_M) mw_1181 dL_law_621 rfl rfl (Nat.le_of_ble_eq_true rfl) ⟨Nat.le_of_ble_eq_true rfl, Nat.le_of_ble_eq_true rfl⟩ hc rfl (fun lay1 => ?_)
  refine j_istore 626 C dL_law_624 (lo' := (6, .int r) :: (5, .int 1) :: [(0, .ref b), (1, .ref (ga g 0)), (2, .ref (gm g 0)), (3, .ref qo), (4, .int (nI i))]) (by decide) rfl rfl ?_
  refine j_aload_n 627 C dL_law_626 4 rfl rfl ?_
  refine lk_Vi (w0 := oW g qo lay (σ', v)) (wx := rX g) (σ := ρ') (lay := lay1) (As := []) (st := []) (r := 1) 630 C K (fun A1 => c_X6_thrown K.2.2.2 g A1 lay1 (by rw [thr_eq, h0])) cp_X6_thrown (fun A1 => rv_M) mw_1070 dL_law_627 rfl rfl (Nat.le_of_ble_eq_true rfl) ⟨Nat.le_of_ble_eq_true rfl, Nat.le_of_ble_eq_true rfl⟩ hc rfl (fun lay2 => ?_)
  refine j_iload 632 C dL_law_630 1 rfl rfl ?_
  refine j_icmp_eq 635 637 C dL_law_632 (by decide) rfl (fun _ => ?_) (fun h => absurd rfl h)
  refine j_iload 639 C dL_law_637 1 rfl rfl ?_
  refine j_if_ne 642 654 C dL_law_639 (by decide) rfl (fun _ => ?_) (fun h => absurd h (by decide))
  change JJ _ _ _ _ _ _ _ _ _ _ _ _ _ (LW g A ly (([outc g qo v] ++ cW g lay σ') ++ rW g ρ')) _ _ _ _ _
  refine j_goto 1531 C dL_law_654 (by decide) ?_
  refine j_world (fun H h => LW_comm (lay' := ly) h) ?_
  exact j_sub [2, 3, 4, 5, 6] rfl (KK lay)
set_option maxRecDepth 100000 in
theorem lq_restart_3 {p : Program} {l : Launch} {e : Env} {s : State} {m : MethodId} {args : Array Value} {below : List Frame} {meth : Method} {c : Code} {Q : State → Prop} {A : Nat → Prop} {k n : Nat} {g : GG} {ly lay : Nat → Nat} {b L qo : Nat} {xs : Nat → Int32} {i : Nat} {σ σ' : CS} {ρ ρ' : RS} {v : Int64} {r : Int32} (C : KX p m c cL_law 9 s args RL) (K : KC l g A s) (hX : va_X b L xs s s.heap) (hbl : b < s.heap.size) (hbA : ¬ A b) (hi : i + 5 ≤ L) (hL : L ≤ 2560) (hF : F_X5_restart σ (xs (i + 1)) = some (σ', .inr 3)) (hM : F_X6_restart ρ (xs (i + 1)) = some (ρ', r)) (h0 : ρ'.1 0 0 = 2) (hc : k + 1 ≤ 601024 ∧ n + 6 ≤ 7293034)
    (KK : ∀ lay : Nat → Nat, JJ p l e room_1 s m args below meth c Q A 9 (LW g A ly (rW g ρ' ++ ([outc g qo v] ++ cW g lay σ'))) (k + 1) (n + 6) 1531 [(0, .ref b), (1, .ref (ga g 0)), (2, .ref (gm g 0)), (3, .ref qo), (4, .int (nI i))] []) : JJ p l e room_1 s m args below meth c Q A 9 (LW g A ly (rW g ρ ++ ([outc g qo v] ++ cW g lay σ))) k n 601 [(0, .ref b), (1, .ref (ga g 0)), (2, .ref (gm g 0)), (3, .ref qo), (4, .int (nI i))] [] := by
  refine j_aload_n 602 C dL_law_601 1 rfl rfl ?_
  refine ls_rd 608 C hX hbl hbA hL 1 0 4 1 dL_law_602 dL_law_603 dL_law_605 dL_law_606 dL_law_607 nz_1 (by omega) rfl rfl rfl ?_
  refine j_aload_n 609 C dL_law_608 3 rfl rfl ?_
  refine lk_Sw (np := 3) (w0 := rW g ρ) (wx := oW g qo) (σ := (σ, v)) (σ' := (σ', v)) (lay := lay) (As := [.ref (ga g 0), .int (xs (i + 1)), .ref qo]) (st := []) 612 C K (fun A1 => w_L_restart_3 K.2.2.2 g A1 lay qo hF) mw_825 mw_97 hw_L_restart ⟨by decide, by decide, by decide +kernel⟩ mw_824 dL_law_609 rfl rfl (Nat.le_of_ble_eq_true rfl) ⟨Nat.le_of_ble_eq_true rfl, Nat.le_of_ble_eq_true rfl⟩ hc rfl (fun lay => ?_)
  refine j_istore 614 C dL_law_612 (lo' := (5, .int 2) :: [(0, .ref b), (1, .ref (ga g 0)), (2, .ref (gm g 0)), (3, .ref qo), (4, .int (nI i))]) (by decide) rfl rfl ?_
  refine j_world (fun H h => LW_comm (lay' := ly) h) ?_
  refine j_aload_n 615 C dL_law_614 3 rfl rfl ?_
  refine ls_rd 621 C hX hbl hbA hL 1 1 5 1 dL_law_615 dL_law_616 dL_law_618 dL_law_619 dL_law_620 nz_1 (by omega) rfl rfl rfl ?_
  refine lk_Vi (w0 := oW g qo lay (σ', v)) (wx := rX g) (σ := ρ) (lay := lay) (As := [.int (xs (i + 1))]) (st := []) 624 C K (fun A1 => c_X6_restart K.2.2.2 g A1 lay hM) cp_X6_restart (fun A1 => rv_M) mw_1181 dL_law_621 rfl rfl (Nat.le_of_ble_eq_true rfl) ⟨Nat.le_of_ble_eq_true rfl, Nat.le_of_ble_eq_true rfl⟩ hc rfl (fun lay1 => ?_)
  refine j_istore 626 C dL_law_624 (lo' := (6, .int r) :: (5, .int 2) :: [(0, .ref b), (1, .ref (ga g 0)), (2, .ref (gm g 0)), (3, .ref qo), (4, .int (nI i))]) (by decide) rfl rfl ?_
  refine j_aload_n 627 C dL_law_626 4 rfl rfl ?_
  refine lk_Vi (w0 := oW g qo lay (σ', v)) (wx := rX g) (σ := ρ') (lay := lay1) (As := []) (st := []) (r := 2) 630 C K (fun A1 => c_X6_thrown K.2.2.2 g A1 lay1 (by rw [thr_eq, h0])) cp_X6_thrown (fun A1 => rv_M) mw_1070 dL_law_627 rfl rfl (Nat.le_of_ble_eq_true rfl) ⟨Nat.le_of_ble_eq_true rfl, Nat.le_of_ble_eq_true rfl⟩ hc rfl (fun lay2 => ?_)
  refine j_iload 632 C dL_law_630 1 rfl rfl ?_
  refine j_icmp_eq 635 637 C dL_law_632 (by decide) rfl (fun _ => ?_) (fun h => absurd rfl h)
  refine j_iload 639 C dL_law_637 1 rfl rfl ?_
  refine j_if_ne 642 654 C dL_law_639 (by decide) rfl (fun _ => ?_) (fun h => absurd h (by decide))
  change JJ _ _ _ _ _ _ _ _ _ _ _ _ _ (LW g A ly (([outc g qo v] ++ cW g lay σ') ++ rW g ρ')) _ _ _ _ _
  refine j_goto 1531 C dL_law_654 (by decide) ?_
  refine j_world (fun H h => LW_comm (lay' := ly) h) ?_
  exact j_sub [2, 3, 4, 5, 6] rfl (KK lay)
set_option maxRecDepth 100000 in
theorem lq_rejoin {p : Program} {l : Launch} {e : Env} {s : State} {m : MethodId} {args : Array Value} {below : List Frame} {meth : Method} {c : Code} {Q : State → Prop} {A : Nat → Prop} {k n : Nat} {g : GG} {ly lay : Nat → Nat} {b L qo : Nat} {xs : Nat → Int32} {i : Nat} {σ σ' : CS} {ρ ρ' : RS} {v : Int64} {r : Int32} (C : KX p m c cL_law 9 s args RL) (K : KC l g A s) (hX : va_X b L xs s s.heap) (hbl : b < s.heap.size) (hbA : ¬ A b) (hi : i + 5 ≤ L) (hL : L ≤ 2560) (hF : F_X5_rejoin σ (xs (i + 1)) (xs (i + 2)) = some (σ', .inl r)) (hM : F_X6_rejoin ρ (xs (i + 1)) (xs (i + 2)) = some (ρ', r)) (h0 : ρ'.1 0 0 = 0) (hc : k + 0 ≤ 601024 ∧ n + 0 ≤ 7293034)
    (KK : ∀ lay : Nat → Nat, JJ p l e room_1 s m args below meth c Q A 9 (LW g A ly (rW g ρ' ++ ([outc g qo r.toInt64] ++ cW g lay σ'))) (k + 0) (n + 0) 1531 [(0, .ref b), (1, .ref (ga g 0)), (2, .ref (gm g 0)), (3, .ref qo), (4, .int (nI i))] []) : JJ p l e room_1 s m args below meth c Q A 9 (LW g A ly (rW g ρ ++ ([outc g qo v] ++ cW g lay σ))) k n 657 [(0, .ref b), (1, .ref (ga g 0)), (2, .ref (gm g 0)), (3, .ref qo), (4, .int (nI i))] [] := by
  refine j_aload_n 658 C dL_law_657 1 rfl rfl ?_
  refine ls_rd 664 C hX hbl hbA hL 1 0 4 1 dL_law_658 dL_law_659 dL_law_661 dL_law_662 dL_law_663 nz_1 (by omega) rfl rfl rfl ?_
  refine ls_rd 670 C hX hbl hbA hL 2 0 4 2 dL_law_664 dL_law_665 dL_law_667 dL_law_668 dL_law_669 nz_2 (by omega) rfl rfl rfl ?_
  refine j_aload_n 671 C dL_law_670 3 rfl rfl ?_
  refine lk_Sw (np := 4) (w0 := rW g ρ) (wx := oW g qo) (σ := (σ, v)) (σ' := (σ', r.toInt64)) (lay := lay) (As := [.ref (ga g 0), .int (xs (i + 1)), .int (xs (i + 2)), .ref qo]) (st := []) 674 C K (fun A1 => w_L_rejoin K.2.2.2 g A1 lay qo hF) mw_836 mw_97 hw_L_rejoin ⟨by decide, by decide, by decide +kernel⟩ mw_835 dL_law_671 rfl rfl (Nat.le_of_ble_eq_true rfl) ⟨Nat.le_of_ble_eq_true rfl, Nat.le_of_ble_eq_true rfl⟩ hc rfl (fun lay => ?_)
  refine j_istore 676 C dL_law_674 (lo' := (5, .int 0) :: [(0, .ref b), (1, .ref (ga g 0)), (2, .ref (gm g 0)), (3, .ref qo), (4, .int (nI i))]) (by decide) rfl rfl ?_
  refine j_world (fun H h => LW_comm (lay' := ly) h) ?_
  refine j_aload_n 677 C dL_law_676 3 rfl rfl ?_
  refine ls_rd 683 C hX hbl hbA hL 1 1 5 1 dL_law_677 dL_law_678 dL_law_680 dL_law_681 dL_law_682 nz_1 (by omega) rfl rfl rfl ?_
  refine ls_rd 689 C hX hbl hbA hL 2 1 5 2 dL_law_683 dL_law_684 dL_law_686 dL_law_687 dL_law_688 nz_2 (by omega) rfl rfl rfl ?_
  refine lk_Vi (w0 := oW g qo lay (σ', r.toInt64)) (wx := rX g) (σ := ρ) (lay := lay) (As := [.int (xs (i + 1)), .int (xs (i + 2))]) (st := []) 692 C K (fun A1 => c_X6_rejoin K.2.2.2 g A1 lay hM) cp_X6_rejoin (fun A1 => rv_M) mw_1189 dL_law_689 rfl rfl (Nat.le_of_ble_eq_true rfl) ⟨Nat.le_of_ble_eq_true rfl, Nat.le_of_ble_eq_true rfl⟩ hc rfl (fun lay1 => ?_)
  refine j_istore 694 C dL_law_692 (lo' := (6, .int r) :: (5, .int 0) :: [(0, .ref b), (1, .ref (ga g 0)), (2, .ref (gm g 0)), (3, .ref qo), (4, .int (nI i))]) (by decide) rfl rfl ?_
  refine j_aload_n 695 C dL_law_694 4 rfl rfl ?_
  refine lk_Vi (w0 := oW g qo lay (σ', r.toInt64)) (wx := rX g) (σ := ρ') (lay := lay1) (As := []) (st := []) (r := 0) 698 C K (fun A1 => c_X6_thrown K.2.2.2 g A1 lay1 (by rw [thr_eq, h0])) cp_X6_thrown (fun A1 => rv_M) mw_1070 dL_law_695 rfl rfl (Nat.le_of_ble_eq_true rfl) ⟨Nat.le_of_ble_eq_true rfl, Nat.le_of_ble_eq_true rfl⟩ hc rfl (fun lay2 => ?_)
  refine j_iload 700 C dL_law_698 1 rfl rfl ?_
  refine j_icmp_eq 703 705 C dL_law_700 (by decide) rfl (fun _ => ?_) (fun h => absurd rfl h)
  refine j_iload 707 C dL_law_705 1 rfl rfl ?_
  refine j_if_ne 710 722 C dL_law_707 (by decide) rfl (fun h => absurd rfl h) (fun _ => ?_)
  refine j_aload_n 711 C dL_law_710 5 rfl rfl ?_
  refine j_iconst 712 C dL_law_711 ic_0 rfl ?_
  change JJ _ _ _ _ _ _ _ _ _ _ _ _ _ (LW g A ly (([outc g qo r.toInt64] ++ cW g lay σ') ++ rW g ρ')) _ _ _ _ _
  refine j_world (fun H h => LW_assoc.mpr h) ?_
  refine lk_lald 713 C K dL_law_712 rfl ?_
  refine j_world (fun H h => LW_assoc.mp h) ?_
  refine j_iload 715 C dL_law_713 0 rfl rfl ?_
  refine j_i2l 716 C dL_law_715 rfl ?_
  refine j_lcmp 717 C dL_law_716 rfl ?_
  refine j_if_eq 720 722 C dL_law_717 (by decide) rfl (fun _ => ?_) (fun h => absurd (lg_cmp_self _) h)
  refine j_goto 1531 C dL_law_722 (by decide) ?_
  refine j_world (fun H h => LW_comm (lay' := ly) h) ?_
  exact j_sub [2, 3, 4, 5, 6] rfl (KK lay)
set_option maxRecDepth 100000 in
theorem lq_rejoin_1 {p : Program} {l : Launch} {e : Env} {s : State} {m : MethodId} {args : Array Value} {below : List Frame} {meth : Method} {c : Code} {Q : State → Prop} {A : Nat → Prop} {k n : Nat} {g : GG} {ly lay : Nat → Nat} {b L qo : Nat} {xs : Nat → Int32} {i : Nat} {σ σ' : CS} {ρ ρ' : RS} {v : Int64} {r : Int32} (C : KX p m c cL_law 9 s args RL) (K : KC l g A s) (hX : va_X b L xs s s.heap) (hbl : b < s.heap.size) (hbA : ¬ A b) (hi : i + 5 ≤ L) (hL : L ≤ 2560) (hF : F_X5_rejoin σ (xs (i + 1)) (xs (i + 2)) = some (σ', .inr 1)) (hM : F_X6_rejoin ρ (xs (i + 1)) (xs (i + 2)) = some (ρ', r)) (h0 : ρ'.1 0 0 = 1) (hc : k + 1 ≤ 601024 ∧ n + 6 ≤ 7293034)
    (KK : ∀ lay : Nat → Nat, JJ p l e room_1 s m args below meth c Q A 9 (LW g A ly (rW g ρ' ++ ([outc g qo v] ++ cW g lay σ'))) (k + 1) (n + 6) 1531 [(0, .ref b), (1, .ref (ga g 0)), (2, .ref (gm g 0)), (3, .ref qo), (4, .int (nI i))] []) : JJ p l e room_1 s m args below meth c Q A 9 (LW g A ly (rW g ρ ++ ([outc g qo v] ++ cW g lay σ))) k n 657 [(0, .ref b), (1, .ref (ga g 0)), (2, .ref (gm g 0)), (3, .ref qo), (4, .int (nI i))] [] := by
  refine j_aload_n 658 C dL_law_657 1 rfl rfl ?_
  refine ls_rd 664 C hX hbl hbA hL 1 0 4 1 dL_law_658 dL_law_659 dL_law_661 dL_law_662 dL_law_663 nz_1 (by omega) rfl rfl rfl ?_
  refine ls_rd 670 C hX hbl hbA hL 2 0 4 2 dL_law_664 dL_law_665 dL_law_667 dL_law_668 dL_law_669 nz_2 (by omega) rfl rfl rfl ?_
  refine j_aload_n 671 C dL_law_670 3 rfl rfl ?_
  refine lk_Sw (np := 4) (w0 := rW g ρ) (wx := oW g qo) (σ := (σ, v)) (σ' := (σ', v)) (lay := lay) (As := [.ref (ga g 0), .int (xs (i + 1)), .int (xs (i + 2)), .ref qo]) (st := []) 674 C K (fun A1 => w_L_rejoin_1 K.2.2.2 g A1 lay qo hF) mw_836 mw_97 hw_L_rejoin ⟨by decide, by decide, by decide +kernel⟩ mw_835 dL_law_671 rfl rfl (Nat.le_of_ble_eq_true rfl) ⟨Nat.le_of_ble_eq_true rfl, Nat.le_of_ble_eq_true rfl⟩ hc rfl (fun lay => ?_)
  refine j_istore 676 C dL_law_674 (lo' := (5, .int 1) :: [(0, .ref b), (1, .ref (ga g 0)), (2, .ref (gm g 0)), (3, .ref qo), (4, .int (nI i))]) (by decide) rfl rfl ?_
  refine j_world (fun H h => LW_comm (lay' := ly) h) ?_
  refine j_aload_n 677 C dL_law_676 3 rfl rfl ?_
  refine ls_rd 683 C hX hbl hbA hL 1 1 5 1 dL_law_677 dL_law_678 dL_law_680 dL_law_681 dL_law_682 nz_1 (by omega) rfl rfl rfl ?_
  refine ls_rd 689 C hX hbl hbA hL 2 1 5 2 dL_law_683 dL_law_684 dL_law_686 dL_law_687 dL_law_688 nz_2 (by omega) rfl rfl rfl ?_
  refine lk_Vi (w0 := oW g qo lay (σ', v)) (wx := rX g) (σ := ρ) (lay := lay) (As := [.int (xs (i + 1)), .int (xs (i + 2))]) (st := []) 692 C K (fun A1 => c_X6_rejoin K.2.2.2 g A1 lay hM) cp_X6_rejoin (fun A1 => rv_M) mw_1189 dL_law_689 rfl rfl (Nat.le_of_ble_eq_true rfl) ⟨Nat.le_of_ble_eq_true rfl, Nat.le_of_ble_eq_true rfl⟩ hc rfl (fun lay1 => ?_)
  refine j_istore 694 C dL_law_692 (lo' := (6, .int r) :: (5, .int 1) :: [(0, .ref b), (1, .ref (ga g 0)), (2, .ref (gm g 0)), (3, .ref qo), (4, .int (nI i))]) (by decide) rfl rfl ?_
  refine j_aload_n 695 C dL_law_694 4 rfl rfl ?_
  refine lk_Vi (w0 := oW g qo lay (σ', v)) (wx := rX g) (σ := ρ') (lay := lay1) (As := []) (st := []) (r := 1) 698 C K (fun A1 => c_X6_thrown K.2.2.2 g A1 lay1 (by rw [thr_eq, h0])) cp_X6_thrown (fun A1 => rv_M) mw_1070 dL_law_695 rfl rfl (Nat.le_of_ble_eq_true rfl) ⟨Nat.le_of_ble_eq_true rfl, Nat.le_of_ble_eq_true rfl⟩ hc rfl (fun lay2 => ?_)
  refine j_iload 700 C dL_law_698 1 rfl rfl ?_
  refine j_icmp_eq 703 705 C dL_law_700 (by decide) rfl (fun _ => ?_) (fun h => absurd rfl h)
  refine j_iload 707 C dL_law_705 1 rfl rfl ?_
  refine j_if_ne 710 722 C dL_law_707 (by decide) rfl (fun _ => ?_) (fun h => absurd h (by decide))
  change JJ _ _ _ _ _ _ _ _ _ _ _ _ _ (LW g A ly (([outc g qo v] ++ cW g lay σ') ++ rW g ρ')) _ _ _ _ _
  refine j_goto 1531 C dL_law_722 (by decide) ?_
  refine j_world (fun H h => LW_comm (lay' := ly) h) ?_
  exact j_sub [2, 3, 4, 5, 6] rfl (KK lay)
set_option maxRecDepth 100000 in
theorem lq_rejoin_2 {p : Program} {l : Launch} {e : Env} {s : State} {m : MethodId} {args : Array Value} {below : List Frame} {meth : Method} {c : Code} {Q : State → Prop} {A : Nat → Prop} {k n : Nat} {g : GG} {ly lay : Nat → Nat} {b L qo : Nat} {xs : Nat → Int32} {i : Nat} {σ σ' : CS} {ρ ρ' : RS} {v : Int64} {r : Int32} (C : KX p m c cL_law 9 s args RL) (K : KC l g A s) (hX : va_X b L xs s s.heap) (hbl : b < s.heap.size) (hbA : ¬ A b) (hi : i + 5 ≤ L) (hL : L ≤ 2560) (hF : F_X5_rejoin σ (xs (i + 1)) (xs (i + 2)) = some (σ', .inr 2)) (hM : F_X6_rejoin ρ (xs (i + 1)) (xs (i + 2)) = some (ρ', r)) (h0 : ρ'.1 0 0 = 2) (hc : k + 1 ≤ 601024 ∧ n + 6 ≤ 7293034)
    (KK : ∀ lay : Nat → Nat, JJ p l e room_1 s m args below meth c Q A 9 (LW g A ly (rW g ρ' ++ ([outc g qo v] ++ cW g lay σ'))) (k + 1) (n + 6) 1531 [(0, .ref b), (1, .ref (ga g 0)), (2, .ref (gm g 0)), (3, .ref qo), (4, .int (nI i))] []) : JJ p l e room_1 s m args below meth c Q A 9 (LW g A ly (rW g ρ ++ ([outc g qo v] ++ cW g lay σ))) k n 657 [(0, .ref b), (1, .ref (ga g 0)), (2, .ref (gm g 0)), (3, .ref qo), (4, .int (nI i))] [] := by
  refine j_aload_n 658 C dL_law_657 1 rfl rfl ?_
  refine ls_rd 664 C hX hbl hbA hL 1 0 4 1 dL_law_658 dL_law_659 dL_law_661 dL_law_662 dL_law_663 nz_1 (by omega) rfl rfl rfl ?_
  refine ls_rd 670 C hX hbl hbA hL 2 0 4 2 dL_law_664 dL_law_665 dL_law_667 dL_law_668 dL_law_669 nz_2 (by omega) rfl rfl rfl ?_
  refine j_aload_n 671 C dL_law_670 3 rfl rfl ?_
  refine lk_Sw (np := 4) (w0 := rW g ρ) (wx := oW g qo) (σ := (σ, v)) (σ' := (σ', v)) (lay := lay) (As := [.ref (ga g 0), .int (xs (i + 1)), .int (xs (i + 2)), .ref qo]) (st := []) 674 C K (fun A1 => w_L_rejoin_2 K.2.2.2 g A1 lay qo hF) mw_836 mw_97 hw_L_rejoin ⟨by decide, by decide, by decide +kernel⟩ mw_835 dL_law_671 rfl rfl (Nat.le_of_ble_eq_true rfl) ⟨Nat.le_of_ble_eq_true rfl, Nat.le_of_ble_eq_true rfl⟩ hc rfl (fun lay => ?_)
  refine j_istore 676 C dL_law_674 (lo' := (5, .int 2) :: [(0, .ref b), (1, .ref (ga g 0)), (2, .ref (gm g 0)), (3, .ref qo), (4, .int (nI i))]) (by decide) rfl rfl ?_
  refine j_world (fun H h => LW_comm (lay' := ly) h) ?_
  refine j_aload_n 677 C dL_law_676 3 rfl rfl ?_
  refine ls_rd 683 C hX hbl hbA hL 1 1 5 1 dL_law_677 dL_law_678 dL_law_680 dL_law_681 dL_law_682 nz_1 (by omega) rfl rfl rfl ?_
  refine ls_rd 689 C hX hbl hbA hL 2 1 5 2 dL_law_683 dL_law_684 dL_law_686 dL_law_687 dL_law_688 nz_2 (by omega) rfl rfl rfl ?_
  refine lk_Vi (w0 := oW g qo lay (σ', v)) (wx := rX g) (σ := ρ) (lay := lay) (As := [.int (xs (i + 1)), .int (xs (i + 2))]) (st := []) 692 C K (fun A1 => c_X6_rejoin K.2.2.2 g A1 lay hM) cp_X6_rejoin (fun A1 => rv_M) mw_1189 dL_law_689 rfl rfl (Nat.le_of_ble_eq_true rfl) ⟨Nat.le_of_ble_eq_true rfl, Nat.le_of_ble_eq_true rfl⟩ hc rfl (fun lay1 => ?_)
  refine j_istore 694 C dL_law_692 (lo' := (6, .int r) :: (5, .int 2) :: [(0, .ref b), (1, .ref (ga g 0)), (2, .ref (gm g 0)), (3, .ref qo), (4, .int (nI i))]) (by decide) rfl rfl ?_
  refine j_aload_n 695 C dL_law_694 4 rfl rfl ?_
  refine lk_Vi (w0 := oW g qo lay (σ', v)) (wx := rX g) (σ := ρ') (lay := lay1) (As := []) (st := []) (r := 2) 698 C K (fun A1 => c_X6_thrown K.2.2.2 g A1 lay1 (by rw [thr_eq, h0])) cp_X6_thrown (fun A1 => rv_M) mw_1070 dL_law_695 rfl rfl (Nat.le_of_ble_eq_true rfl) ⟨Nat.le_of_ble_eq_true rfl, Nat.le_of_ble_eq_true rfl⟩ hc rfl (fun lay2 => ?_)
  refine j_iload 700 C dL_law_698 1 rfl rfl ?_
  refine j_icmp_eq 703 705 C dL_law_700 (by decide) rfl (fun _ => ?_) (fun h => absurd rfl h)
  refine j_iload 707 C dL_law_705 1 rfl rfl ?_
  refine j_if_ne 710 722 C dL_law_707 (by decide) rfl (fun _ => ?_) (fun h => absurd h (by decide))
  change JJ _ _ _ _ _ _ _ _ _ _ _ _ _ (LW g A ly (([outc g qo v] ++ cW g lay σ') ++ rW g ρ')) _ _ _ _ _
  refine j_goto 1531 C dL_law_722 (by decide) ?_
  refine j_world (fun H h => LW_comm (lay' := ly) h) ?_
  exact j_sub [2, 3, 4, 5, 6] rfl (KK lay)
set_option maxRecDepth 100000 in
theorem lq_rejoin_3 {p : Program} {l : Launch} {e : Env} {s : State} {m : MethodId} {args : Array Value} {below : List Frame} {meth : Method} {c : Code} {Q : State → Prop} {A : Nat → Prop} {k n : Nat} {g : GG} {ly lay : Nat → Nat} {b L qo : Nat} {xs : Nat → Int32} {i : Nat} {σ σ' : CS} {ρ ρ' : RS} {v : Int64} {r : Int32} (C : KX p m c cL_law 9 s args RL) (K : KC l g A s) (hX : va_X b L xs s s.heap) (hbl : b < s.heap.size) (hbA : ¬ A b) (hi : i + 5 ≤ L) (hL : L ≤ 2560) (hF : F_X5_rejoin σ (xs (i + 1)) (xs (i + 2)) = some (σ', .inr 3)) (hM : F_X6_rejoin ρ (xs (i + 1)) (xs (i + 2)) = some (ρ', r)) (h0 : ρ'.1 0 0 = 3) (hc : k + 1 ≤ 601024 ∧ n + 6 ≤ 7293034)
    (KK : ∀ lay : Nat → Nat, JJ p l e room_1 s m args below meth c Q A 9 (LW g A ly (rW g ρ' ++ ([outc g qo v] ++ cW g lay σ'))) (k + 1) (n + 6) 1531 [(0, .ref b), (1, .ref (ga g 0)), (2, .ref (gm g 0)), (3, .ref qo), (4, .int (nI i))] []) : JJ p l e room_1 s m args below meth c Q A 9 (LW g A ly (rW g ρ ++ ([outc g qo v] ++ cW g lay σ))) k n 657 [(0, .ref b), (1, .ref (ga g 0)), (2, .ref (gm g 0)), (3, .ref qo), (4, .int (nI i))] [] := by
  refine j_aload_n 658 C dL_law_657 1 rfl rfl ?_
  refine ls_rd 664 C hX hbl hbA hL 1 0 4 1 dL_law_658 dL_law_659 dL_law_661 dL_law_662 dL_law_663 nz_1 (by omega) rfl rfl rfl ?_
  refine ls_rd 670 C hX hbl hbA hL 2 0 4 2 dL_law_664 dL_law_665 dL_law_667 dL_law_668 dL_law_669 nz_2 (by omega) rfl rfl rfl ?_
  refine j_aload_n 671 C dL_law_670 3 rfl rfl ?_
  refine lk_Sw (np := 4) (w0 := rW g ρ) (wx := oW g qo) (σ := (σ, v)) (σ' := (σ', v)) (lay := lay) (As := [.ref (ga g 0), .int (xs (i + 1)), .int (xs (i + 2)), .ref qo]) (st := []) 674 C K (fun A1 => w_L_rejoin_3 K.2.2.2 g A1 lay qo hF) mw_836 mw_97 hw_L_rejoin ⟨by decide, by decide, by decide +kernel⟩ mw_835 dL_law_671 rfl rfl (Nat.le_of_ble_eq_true rfl) ⟨Nat.le_of_ble_eq_true rfl, Nat.le_of_ble_eq_true rfl⟩ hc rfl (fun lay => ?_)
  refine j_istore 676 C dL_law_674 (lo' := (5, .int 3) :: [(0, .ref b), (1, .ref (ga g 0)), (2, .ref (gm g 0)), (3, .ref qo), (4, .int (nI i))]) (by decide) rfl rfl ?_
  refine j_world (fun H h => LW_comm (lay' := ly) h) ?_
  refine j_aload_n 677 C dL_law_676 3 rfl rfl ?_
  refine ls_rd 683 C hX hbl hbA hL 1 1 5 1 dL_law_677 dL_law_678 dL_law_680 dL_law_681 dL_law_682 nz_1 (by omega) rfl rfl rfl ?_
  refine ls_rd 689 C hX hbl hbA hL 2 1 5 2 dL_law_683 dL_law_684 dL_law_686 dL_law_687 dL_law_688 nz_2 (by omega) rfl rfl rfl ?_
  refine lk_Vi (w0 := oW g qo lay (σ', v)) (wx := rX g) (σ := ρ) (lay := lay) (As := [.int (xs (i + 1)), .int (xs (i + 2))]) (st := []) 692 C K (fun A1 => c_X6_rejoin K.2.2.2 g A1 lay hM) cp_X6_rejoin (fun A1 => rv_M) mw_1189 dL_law_689 rfl rfl (Nat.le_of_ble_eq_true rfl) ⟨Nat.le_of_ble_eq_true rfl, Nat.le_of_ble_eq_true rfl⟩ hc rfl (fun lay1 => ?_)
  refine j_istore 694 C dL_law_692 (lo' := (6, .int r) :: (5, .int 3) :: [(0, .ref b), (1, .ref (ga g 0)), (2, .ref (gm g 0)), (3, .ref qo), (4, .int (nI i))]) (by decide) rfl rfl ?_
  refine j_aload_n 695 C dL_law_694 4 rfl rfl ?_
  refine lk_Vi (w0 := oW g qo lay (σ', v)) (wx := rX g) (σ := ρ') (lay := lay1) (As := []) (st := []) (r := 3) 698 C K (fun A1 => c_X6_thrown K.2.2.2 g A1 lay1 (by rw [thr_eq, h0])) cp_X6_thrown (fun A1 => rv_M) mw_1070 dL_law_695 rfl rfl (Nat.le_of_ble_eq_true rfl) ⟨Nat.le_of_ble_eq_true rfl, Nat.le_of_ble_eq_true rfl⟩ hc rfl (fun lay2 => ?_)
  refine j_iload 700 C dL_law_698 1 rfl rfl ?_
  refine j_icmp_eq 703 705 C dL_law_700 (by decide) rfl (fun _ => ?_) (fun h => absurd rfl h)
  refine j_iload 707 C dL_law_705 1 rfl rfl ?_
  refine j_if_ne 710 722 C dL_law_707 (by decide) rfl (fun _ => ?_) (fun h => absurd h (by decide))
  change JJ _ _ _ _ _ _ _ _ _ _ _ _ _ (LW g A ly (([outc g qo v] ++ cW g lay σ') ++ rW g ρ')) _ _ _ _ _
  refine j_goto 1531 C dL_law_722 (by decide) ?_
  refine j_world (fun H h => LW_comm (lay' := ly) h) ?_
  exact j_sub [2, 3, 4, 5, 6] rfl (KK lay)
set_option maxRecDepth 100000 in
theorem lq_append {p : Program} {l : Launch} {e : Env} {s : State} {m : MethodId} {args : Array Value} {below : List Frame} {meth : Method} {c : Code} {Q : State → Prop} {A : Nat → Prop} {k n : Nat} {g : GG} {ly lay : Nat → Nat} {b L qo : Nat} {xs : Nat → Int32} {i : Nat} {σ σ' : CS} {ρ ρ' : RS} {v : Int64} {r : Int32} (C : KX p m c cL_law 9 s args RL) (K : KC l g A s) (hX : va_X b L xs s s.heap) (hbl : b < s.heap.size) (hbA : ¬ A b) (hi : i + 5 ≤ L) (hL : L ≤ 2560) (hF : F_X5_append σ (xs (i + 1)) = some (σ', .inl r)) (hM : F_X6_append ρ (xs (i + 1)) = some (ρ', r)) (h0 : ρ'.1 0 0 = 0) (hc : k + 0 ≤ 601024 ∧ n + 0 ≤ 7293034)
    (KK : ∀ lay : Nat → Nat, JJ p l e room_1 s m args below meth c Q A 9 (LW g A ly (rW g ρ' ++ ([outc g qo r.toInt64] ++ cW g lay σ'))) (k + 0) (n + 0) 1531 [(0, .ref b), (1, .ref (ga g 0)), (2, .ref (gm g 0)), (3, .ref qo), (4, .int (nI i))] []) : JJ p l e room_1 s m args below meth c Q A 9 (LW g A ly (rW g ρ ++ ([outc g qo v] ++ cW g lay σ))) k n 725 [(0, .ref b), (1, .ref (ga g 0)), (2, .ref (gm g 0)), (3, .ref qo), (4, .int (nI i))] [] := by
  refine j_aload_n 726 C dL_law_725 1 rfl rfl ?_
  refine ls_rd 732 C hX hbl hbA hL 1 0 4 1 dL_law_726 dL_law_727 dL_law_729 dL_law_730 dL_law_731 nz_1 (by omega) rfl rfl rfl ?_
  refine j_aload_n 733 C dL_law_732 3 rfl rfl ?_
  refine lk_Sw (np := 3) (w0 := rW g ρ) (wx := oW g qo) (σ := (σ, v)) (σ' := (σ', r.toInt64)) (lay := lay) (As := [.ref (ga g 0), .int (xs (i + 1)), .ref qo]) (st := []) 736 C K (fun A1 => w_L_append K.2.2.2 g A1 lay qo hF) mw_858 mw_97 hw_L_append ⟨by decide, by decide, by decide +kernel⟩ mw_857 dL_law_733 rfl rfl (Nat.le_of_ble_eq_true rfl) ⟨Nat.le_of_ble_eq_true rfl, Nat.le_of_ble_eq_true rfl⟩ hc rfl (fun lay => ?_)
  refine j_istore 738 C dL_law_736 (lo' := (5, .int 0) :: [(0, .ref b), (1, .ref (ga g 0)), (2, .ref (gm g 0)), (3, .ref qo), (4, .int (nI i))]) (by decide) rfl rfl ?_
  refine j_world (fun H h => LW_comm (lay' := ly) h) ?_
  refine j_aload_n 739 C dL_law_738 3 rfl rfl ?_
  refine ls_rd 745 C hX hbl hbA hL 1 1 5 1 dL_law_739 dL_law_740 dL_law_742 dL_law_743 dL_law_744 nz_1 (by omega) rfl rfl rfl ?_
  refine lk_Vi (w0 := oW g qo lay (σ', r.toInt64)) (wx := rX g) (σ := ρ) (lay := lay) (As := [.int (xs (i + 1))]) (st := []) 748 C K (fun A1 => c_X6_append K.2.2.2 g A1 lay hM) cp_X6_append (fun A1 => rv_M) mw_1205 dL_law_745 rfl rfl (Nat.le_of_ble_eq_true rfl) ⟨Nat.le_of_ble_eq_true rfl, Nat.le_of_ble_eq_true rfl⟩ hc rfl (fun lay1 => ?_)
  refine j_istore 750 C dL_law_748 (lo' := (6, .int r) :: (5, .int 0) :: [(0, .ref b), (1, .ref (ga g 0)), (2, .ref (gm g 0)), (3, .ref qo), (4, .int (nI i))]) (by decide) rfl rfl ?_
  refine j_aload_n 751 C dL_law_750 4 rfl rfl ?_
  refine lk_Vi (w0 := oW g qo lay (σ', r.toInt64)) (wx := rX g) (σ := ρ') (lay := lay1) (As := []) (st := []) (r := 0) 754 C K (fun A1 => c_X6_thrown K.2.2.2 g A1 lay1 (by rw [thr_eq, h0])) cp_X6_thrown (fun A1 => rv_M) mw_1070 dL_law_751 rfl rfl (Nat.le_of_ble_eq_true rfl) ⟨Nat.le_of_ble_eq_true rfl, Nat.le_of_ble_eq_true rfl⟩ hc rfl (fun lay2 => ?_)
  refine j_iload 756 C dL_law_754 1 rfl rfl ?_
  refine j_icmp_eq 759 761 C dL_law_756 (by decide) rfl (fun _ => ?_) (fun h => absurd rfl h)
  refine j_iload 763 C dL_law_761 1 rfl rfl ?_
  refine j_if_ne 766 778 C dL_law_763 (by decide) rfl (fun h => absurd rfl h) (fun _ => ?_)
  refine j_aload_n 767 C dL_law_766 5 rfl rfl ?_
  refine j_iconst 768 C dL_law_767 ic_0 rfl ?_
  change JJ _ _ _ _ _ _ _ _ _ _ _ _ _ (LW g A ly (([outc g qo r.toInt64] ++ cW g lay σ') ++ rW g ρ')) _ _ _ _ _
  refine j_world (fun H h => LW_assoc.mpr h) ?_
  refine lk_lald 769 C K dL_law_768 rfl ?_
  refine j_world (fun H h => LW_assoc.mp h) ?_
  refine j_iload 771 C dL_law_769 0 rfl rfl ?_
  refine j_i2l 772 C dL_law_771 rfl ?_
  refine j_lcmp 773 C dL_law_772 rfl ?_
  refine j_if_eq 776 778 C dL_law_773 (by decide) rfl (fun _ => ?_) (fun h => absurd (lg_cmp_self _) h)
  refine j_goto 1531 C dL_law_778 (by decide) ?_
  refine j_world (fun H h => LW_comm (lay' := ly) h) ?_
  exact j_sub [2, 3, 4, 5, 6] rfl (KK lay)
set_option maxRecDepth 100000 in
theorem lq_append_2 {p : Program} {l : Launch} {e : Env} {s : State} {m : MethodId} {args : Array Value} {below : List Frame} {meth : Method} {c : Code} {Q : State → Prop} {A : Nat → Prop} {k n : Nat} {g : GG} {ly lay : Nat → Nat} {b L qo : Nat} {xs : Nat → Int32} {i : Nat} {σ σ' : CS} {ρ ρ' : RS} {v : Int64} {r : Int32} (C : KX p m c cL_law 9 s args RL) (K : KC l g A s) (hX : va_X b L xs s s.heap) (hbl : b < s.heap.size) (hbA : ¬ A b) (hi : i + 5 ≤ L) (hL : L ≤ 2560) (hF : F_X5_append σ (xs (i + 1)) = some (σ', .inr 2)) (hM : F_X6_append ρ (xs (i + 1)) = some (ρ', r)) (h0 : ρ'.1 0 0 = 1) (hc : k + 1 ≤ 601024 ∧ n + 6 ≤ 7293034)
    (KK : ∀ lay : Nat → Nat, JJ p l e room_1 s m args below meth c Q A 9 (LW g A ly (rW g ρ' ++ ([outc g qo v] ++ cW g lay σ'))) (k + 1) (n + 6) 1531 [(0, .ref b), (1, .ref (ga g 0)), (2, .ref (gm g 0)), (3, .ref qo), (4, .int (nI i))] []) : JJ p l e room_1 s m args below meth c Q A 9 (LW g A ly (rW g ρ ++ ([outc g qo v] ++ cW g lay σ))) k n 725 [(0, .ref b), (1, .ref (ga g 0)), (2, .ref (gm g 0)), (3, .ref qo), (4, .int (nI i))] [] := by
  refine j_aload_n 726 C dL_law_725 1 rfl rfl ?_
  refine ls_rd 732 C hX hbl hbA hL 1 0 4 1 dL_law_726 dL_law_727 dL_law_729 dL_law_730 dL_law_731 nz_1 (by omega) rfl rfl rfl ?_
  refine j_aload_n 733 C dL_law_732 3 rfl rfl ?_
  refine lk_Sw (np := 3) (w0 := rW g ρ) (wx := oW g qo) (σ := (σ, v)) (σ' := (σ', v)) (lay := lay) (As := [.ref (ga g 0), .int (xs (i + 1)), .ref qo]) (st := []) 736 C K (fun A1 => w_L_append_2 K.2.2.2 g A1 lay qo hF) mw_858 mw_97 hw_L_append ⟨by decide, by decide, by decide +kernel⟩ mw_857 dL_law_733 rfl rfl (Nat.le_of_ble_eq_true rfl) ⟨Nat.le_of_ble_eq_true rfl, Nat.le_of_ble_eq_true rfl⟩ hc rfl (fun lay => ?_)
  refine j_istore 738 C dL_law_736 (lo' := (5, .int 1) :: [(0, .ref b), (1, .ref (ga g 0)), (2, .ref (gm g 0)), (3, .ref qo), (4, .int (nI i))]) (by decide) rfl rfl ?_
  refine j_world (fun H h => LW_comm (lay' := ly) h) ?_
  refine j_aload_n 739 C dL_law_738 3 rfl rfl ?_
  refine ls_rd 745 C hX hbl hbA hL 1 1 5 1 dL_law_739 dL_law_740 dL_law_742 dL_law_743 dL_law_744 nz_1 (by omega) rfl rfl rfl ?_
  refine lk_Vi (w0 := oW g qo lay (σ', v)) (wx := rX g) (σ := ρ) (lay := lay) (As := [.int (xs (i + 1))]) (st := []) 748 C K (fun A1 => c_X6_append K.2.2.2 g A1 lay hM) cp_X6_append (fun A1 => rv_M) mw_1205 dL_law_745 rfl rfl (Nat.le_of_ble_eq_true rfl) ⟨Nat.le_of_ble_eq_true rfl, Nat.le_of_ble_eq_true rfl⟩ hc rfl (fun lay1 => ?_)
  refine j_istore 750 C dL_law_748 (lo' := (6, .int r) :: (5, .int 1) :: [(0, .ref b), (1, .ref (ga g 0)), (2, .ref (gm g 0)), (3, .ref qo), (4, .int (nI i))]) (by decide) rfl rfl ?_
  refine j_aload_n 751 C dL_law_750 4 rfl rfl ?_
  refine lk_Vi (w0 := oW g qo lay (σ', v)) (wx := rX g) (σ := ρ') (lay := lay1) (As := []) (st := []) (r := 1) 754 C K (fun A1 => c_X6_thrown K.2.2.2 g A1 lay1 (by rw [thr_eq, h0])) cp_X6_thrown (fun A1 => rv_M) mw_1070 dL_law_751 rfl rfl (Nat.le_of_ble_eq_true rfl) ⟨Nat.le_of_ble_eq_true rfl, Nat.le_of_ble_eq_true rfl⟩ hc rfl (fun lay2 => ?_)
  refine j_iload 756 C dL_law_754 1 rfl rfl ?_
  refine j_icmp_eq 759 761 C dL_law_756 (by decide) rfl (fun _ => ?_) (fun h => absurd rfl h)
  refine j_iload 763 C dL_law_761 1 rfl rfl ?_
  refine j_if_ne 766 778 C dL_law_763 (by decide) rfl (fun _ => ?_) (fun h => absurd h (by decide))
  change JJ _ _ _ _ _ _ _ _ _ _ _ _ _ (LW g A ly (([outc g qo v] ++ cW g lay σ') ++ rW g ρ')) _ _ _ _ _
  refine j_goto 1531 C dL_law_778 (by decide) ?_
  refine j_world (fun H h => LW_comm (lay' := ly) h) ?_
  exact j_sub [2, 3, 4, 5, 6] rfl (KK lay)
set_option maxRecDepth 100000 in
theorem lq_append_3 {p : Program} {l : Launch} {e : Env} {s : State} {m : MethodId} {args : Array Value} {below : List Frame} {meth : Method} {c : Code} {Q : State → Prop} {A : Nat → Prop} {k n : Nat} {g : GG} {ly lay : Nat → Nat} {b L qo : Nat} {xs : Nat → Int32} {i : Nat} {σ σ' : CS} {ρ ρ' : RS} {v : Int64} {r : Int32} (C : KX p m c cL_law 9 s args RL) (K : KC l g A s) (hX : va_X b L xs s s.heap) (hbl : b < s.heap.size) (hbA : ¬ A b) (hi : i + 5 ≤ L) (hL : L ≤ 2560) (hF : F_X5_append σ (xs (i + 1)) = some (σ', .inr 3)) (hM : F_X6_append ρ (xs (i + 1)) = some (ρ', r)) (h0 : ρ'.1 0 0 = 2) (hc : k + 1 ≤ 601024 ∧ n + 6 ≤ 7293034)
    (KK : ∀ lay : Nat → Nat, JJ p l e room_1 s m args below meth c Q A 9 (LW g A ly (rW g ρ' ++ ([outc g qo v] ++ cW g lay σ'))) (k + 1) (n + 6) 1531 [(0, .ref b), (1, .ref (ga g 0)), (2, .ref (gm g 0)), (3, .ref qo), (4, .int (nI i))] []) : JJ p l e room_1 s m args below meth c Q A 9 (LW g A ly (rW g ρ ++ ([outc g qo v] ++ cW g lay σ))) k n 725 [(0, .ref b), (1, .ref (ga g 0)), (2, .ref (gm g 0)), (3, .ref qo), (4, .int (nI i))] [] := by
  refine j_aload_n 726 C dL_law_725 1 rfl rfl ?_
  refine ls_rd 732 C hX hbl hbA hL 1 0 4 1 dL_law_726 dL_law_727 dL_law_729 dL_law_730 dL_law_731 nz_1 (by omega) rfl rfl rfl ?_
  refine j_aload_n 733 C dL_law_732 3 rfl rfl ?_
  refine lk_Sw (np := 3) (w0 := rW g ρ) (wx := oW g qo) (σ := (σ, v)) (σ' := (σ', v)) (lay := lay) (As := [.ref (ga g 0), .int (xs (i + 1)), .ref qo]) (st := []) 736 C K (fun A1 => w_L_append_3 K.2.2.2 g A1 lay qo hF) mw_858 mw_97 hw_L_append ⟨by decide, by decide, by decide +kernel⟩ mw_857 dL_law_733 rfl rfl (Nat.le_of_ble_eq_true rfl) ⟨Nat.le_of_ble_eq_true rfl, Nat.le_of_ble_eq_true rfl⟩ hc rfl (fun lay => ?_)
  refine j_istore 738 C dL_law_736 (lo' := (5, .int 2) :: [(0, .ref b), (1, .ref (ga g 0)), (2, .ref (gm g 0)), (3, .ref qo), (4, .int (nI i))]) (by decide) rfl rfl ?_
  refine j_world (fun H h => LW_comm (lay' := ly) h) ?_
  refine j_aload_n 739 C dL_law_738 3 rfl rfl ?_
  refine ls_rd 745 C hX hbl hbA hL 1 1 5 1 dL_law_739 dL_law_740 dL_law_742 dL_law_743 dL_law_744 nz_1 (by omega) rfl rfl rfl ?_
  refine lk_Vi (w0 := oW g qo lay (σ', v)) (wx := rX g) (σ := ρ) (lay := lay) (As := [.int (xs (i + 1))]) (st := []) 748 C K (fun A1 => c_X6_append K.2.2.2 g A1 lay hM) cp_X6_append (fun A1 => rv_M) mw_1205 dL_law_745 rfl rfl (Nat.le_of_ble_eq_true rfl) ⟨Nat.le_of_ble_eq_true rfl, Nat.le_of_ble_eq_true rfl⟩ hc rfl (fun lay1 => ?_)
  refine j_istore 750 C dL_law_748 (lo' := (6, .int r) :: (5, .int 2) :: [(0, .ref b), (1, .ref (ga g 0)), (2, .ref (gm g 0)), (3, .ref qo), (4, .int (nI i))]) (by decide) rfl rfl ?_
  refine j_aload_n 751 C dL_law_750 4 rfl rfl ?_
  refine lk_Vi (w0 := oW g qo lay (σ', v)) (wx := rX g) (σ := ρ') (lay := lay1) (As := []) (st := []) (r := 2) 754 C K (fun A1 => c_X6_thrown K.2.2.2 g A1 lay1 (by rw [thr_eq, h0])) cp_X6_thrown (fun A1 => rv_M) mw_1070 dL_law_751 rfl rfl (Nat.le_of_ble_eq_true rfl) ⟨Nat.le_of_ble_eq_true rfl, Nat.le_of_ble_eq_true rfl⟩ hc rfl (fun lay2 => ?_)
  refine j_iload 756 C dL_law_754 1 rfl rfl ?_
  refine j_icmp_eq 759 761 C dL_law_756 (by decide) rfl (fun _ => ?_) (fun h => absurd rfl h)
  refine j_iload 763 C dL_law_761 1 rfl rfl ?_
  refine j_if_ne 766 778 C dL_law_763 (by decide) rfl (fun _ => ?_) (fun h => absurd h (by decide))
  change JJ _ _ _ _ _ _ _ _ _ _ _ _ _ (LW g A ly (([outc g qo v] ++ cW g lay σ') ++ rW g ρ')) _ _ _ _ _
  refine j_goto 1531 C dL_law_778 (by decide) ?_
  refine j_world (fun H h => LW_comm (lay' := ly) h) ?_
  exact j_sub [2, 3, 4, 5, 6] rfl (KK lay)
set_option maxRecDepth 100000 in
theorem lq_clearInput {p : Program} {l : Launch} {e : Env} {s : State} {m : MethodId} {args : Array Value} {below : List Frame} {meth : Method} {c : Code} {Q : State → Prop} {A : Nat → Prop} {k n : Nat} {g : GG} {ly lay : Nat → Nat} {b L qo : Nat} {xs : Nat → Int32} {i : Nat} {σ σ' : CS} {ρ ρ' : RS} {v : Int64} {r : Int32} (C : KX p m c cL_law 9 s args RL) (K : KC l g A s) (hX : va_X b L xs s s.heap) (hbl : b < s.heap.size) (hbA : ¬ A b) (hi : i + 5 ≤ L) (hL : L ≤ 2560) (hF : F_X5_clearInput σ = some (σ', r)) (hM : F_X6_clearInput ρ = some (ρ', r)) (hc : k ≤ 601024 ∧ n ≤ 7293034)
    (KK : ∀ lay : Nat → Nat, JJ p l e room_1 s m args below meth c Q A 9 (LW g A ly (rW g ρ' ++ ([outc g qo v] ++ cW g lay σ'))) k n 1531 [(0, .ref b), (1, .ref (ga g 0)), (2, .ref (gm g 0)), (3, .ref qo), (4, .int (nI i))] []) : JJ p l e room_1 s m args below meth c Q A 9 (LW g A ly (rW g ρ ++ ([outc g qo v] ++ cW g lay σ))) k n 781 [(0, .ref b), (1, .ref (ga g 0)), (2, .ref (gm g 0)), (3, .ref qo), (4, .int (nI i))] [] := by
  refine j_aload_n 782 C dL_law_781 1 rfl rfl ?_
  refine j_world (fun H h => LW_assoc.mp h) ?_
  refine lk_Vi (w0 := rW g ρ ++ [outc g qo v]) (wx := cW g) (σ := σ) (lay := lay) (As := []) (st := []) 785 C K (fun A1 => c_X5_clearInput K.2.2.2 g A1 lay hF) cp_X5_clearInput (fun A1 => rv_F) mw_324 dL_law_782 rfl rfl (Nat.le_of_ble_eq_true rfl) ⟨Nat.le_of_ble_eq_true rfl, Nat.le_of_ble_eq_true rfl⟩ hc rfl (fun lay => ?_)
  refine j_world (fun H h => LW_comm (lay' := ly) (LW_assoc.mpr h)) ?_
  refine j_aload_n 786 C dL_law_785 2 rfl rfl ?_
  refine lk_Vi (w0 := [outc g qo v] ++ cW g lay σ') (wx := rX g) (σ := ρ) (lay := lay) (As := []) (st := [.int r]) 789 C K (fun A1 => c_X6_clearInput K.2.2.2 g A1 lay hM) cp_X6_clearInput (fun A1 => rv_M) mw_1209 dL_law_786 rfl rfl (Nat.le_of_ble_eq_true rfl) ⟨Nat.le_of_ble_eq_true rfl, Nat.le_of_ble_eq_true rfl⟩ hc rfl (fun lay1 => ?_)
  refine j_world (fun H h => LW_comm (lay' := ly) h) ?_
  change JJ _ _ _ _ _ _ _ _ _ _ _ _ _ (LW g A ly (rW g ρ' ++ ([outc g qo v] ++ cW g lay σ'))) _ _ _ _ _
  refine j_icmp_eq 792 1531 C dL_law_789 (by decide) rfl (fun _ => ?_) (fun h => absurd rfl h)
  exact KK lay
set_option maxRecDepth 100000 in
theorem lq_firstError {p : Program} {l : Launch} {e : Env} {s : State} {m : MethodId} {args : Array Value} {below : List Frame} {meth : Method} {c : Code} {Q : State → Prop} {A : Nat → Prop} {k n : Nat} {g : GG} {ly lay : Nat → Nat} {b L qo : Nat} {xs : Nat → Int32} {i : Nat} {σ σ' : CS} {ρ ρ' : RS} {v : Int64} {r : Int32} (C : KX p m c cL_law 9 s args RL) (K : KC l g A s) (hX : va_X b L xs s s.heap) (hbl : b < s.heap.size) (hbA : ¬ A b) (hi : i + 5 ≤ L) (hL : L ≤ 2560) (hF : F_X5_firstError σ = some (σ', r)) (hM : F_X6_firstError ρ = some (ρ', r)) (hc : k ≤ 601024 ∧ n ≤ 7293034)
    (KK : ∀ lay : Nat → Nat, JJ p l e room_1 s m args below meth c Q A 9 (LW g A ly (rW g ρ' ++ ([outc g qo v] ++ cW g lay σ'))) k n 1531 [(0, .ref b), (1, .ref (ga g 0)), (2, .ref (gm g 0)), (3, .ref qo), (4, .int (nI i))] []) : JJ p l e room_1 s m args below meth c Q A 9 (LW g A ly (rW g ρ ++ ([outc g qo v] ++ cW g lay σ))) k n 794 [(0, .ref b), (1, .ref (ga g 0)), (2, .ref (gm g 0)), (3, .ref qo), (4, .int (nI i))] [] := by
  refine j_aload_n 795 C dL_law_794 1 rfl rfl ?_
  refine j_world (fun H h => LW_assoc.mp h) ?_
  refine lk_Vi (w0 := rW g ρ ++ [outc g qo v]) (wx := cW g) (σ := σ) (lay := lay) (As := []) (st := []) 798 C K (fun A1 => c_X5_firstError K.2.2.2 g A1 lay hF) cp_X5_firstError (fun A1 => rv_F) mw_328 dL_law_795 rfl rfl (Nat.le_of_ble_eq_true rfl) ⟨Nat.le_of_ble_eq_true rfl, Nat.le_of_ble_eq_true rfl⟩ hc rfl (fun lay => ?_)
  refine j_world (fun H h => LW_comm (lay' := ly) (LW_assoc.mpr h)) ?_
  refine j_aload_n 799 C dL_law_798 2 rfl rfl ?_
  refine lk_Vi (w0 := [outc g qo v] ++ cW g lay σ') (wx := rX g) (σ := ρ) (lay := lay) (As := []) (st := [.int r]) 802 C K (fun A1 => c_X6_firstError K.2.2.2 g A1 lay hM) cp_X6_firstError (fun A1 => rv_M) mw_1213 dL_law_799 rfl rfl (Nat.le_of_ble_eq_true rfl) ⟨Nat.le_of_ble_eq_true rfl, Nat.le_of_ble_eq_true rfl⟩ hc rfl (fun lay1 => ?_)
  refine j_world (fun H h => LW_comm (lay' := ly) h) ?_
  change JJ _ _ _ _ _ _ _ _ _ _ _ _ _ (LW g A ly (rW g ρ' ++ ([outc g qo v] ++ cW g lay σ'))) _ _ _ _ _
  refine j_icmp_eq 805 1531 C dL_law_802 (by decide) rfl (fun _ => ?_) (fun h => absurd rfl h)
  exact KK lay
set_option maxRecDepth 100000 in
theorem lq_load {p : Program} {l : Launch} {e : Env} {s : State} {m : MethodId} {args : Array Value} {below : List Frame} {meth : Method} {c : Code} {Q : State → Prop} {A : Nat → Prop} {k n : Nat} {g : GG} {ly lay : Nat → Nat} {b L qo : Nat} {xs : Nat → Int32} {i : Nat} {σ σ' : CS} {ρ ρ' : RS} {v : Int64} {r : Int32} {N0 : Nat} (C : KX p m c cL_law 9 s args RL) (K : KC l g A s) (hX : va_X b L xs s s.heap) (hbl : b < s.heap.size) (hbA : ¬ A b) (hi : i + 5 ≤ L) (hL : L ≤ 2560) (hF : F_X5_load σ N0 = some (σ', .inl r)) (hM : F_X6_load ρ = some (ρ', r)) (h0 : ρ'.1 0 0 = 0) (hc : k + 24 * N0 ≤ 601024 ∧ n + 12288 * N0 ≤ 7293034)
    (KK : ∀ lay : Nat → Nat, JJ p l e room_1 s m args below meth c Q A 9 (LW g A ly (rW g ρ' ++ ([outc g qo r.toInt64] ++ cW g lay σ'))) (k + 24 * N0) (n + 12288 * N0) 1531 [(0, .ref b), (1, .ref (ga g 0)), (2, .ref (gm g 0)), (3, .ref qo), (4, .int (nI i))] []) : JJ p l e room_1 s m args below meth c Q A 9 (LW g A ly (rW g ρ ++ ([outc g qo v] ++ cW g lay σ))) k n 807 [(0, .ref b), (1, .ref (ga g 0)), (2, .ref (gm g 0)), (3, .ref qo), (4, .int (nI i))] [] := by
  refine j_aload_n 808 C dL_law_807 1 rfl rfl ?_
  refine j_aload_n 809 C dL_law_808 3 rfl rfl ?_
  refine lk_Sw (np := 2) (w0 := rW g ρ) (wx := oW g qo) (σ := (σ, v)) (σ' := (σ', r.toInt64)) (lay := lay) (As := [.ref (ga g 0), .ref qo]) (st := []) 812 C K (fun A1 => w_L_load K.2.2.2 g A1 lay qo hF) mw_867 mw_97 hw_L_load ⟨by decide, by decide, by decide +kernel⟩ mw_866 dL_law_809 rfl rfl (Nat.le_of_ble_eq_true rfl) ⟨Nat.le_of_ble_eq_true rfl, Nat.le_of_ble_eq_true rfl⟩ hc rfl (fun lay => ?_)
  refine j_istore 814 C dL_law_812 (lo' := (5, .int 0) :: [(0, .ref b), (1, .ref (ga g 0)), (2, .ref (gm g 0)), (3, .ref qo), (4, .int (nI i))]) (by decide) rfl rfl ?_
  refine j_world (fun H h => LW_comm (lay' := ly) h) ?_
  refine j_aload_n 815 C dL_law_814 3 rfl rfl ?_
  refine lk_Vi (w0 := oW g qo lay (σ', r.toInt64)) (wx := rX g) (σ := ρ) (lay := lay) (As := []) (st := []) 818 C K (fun A1 => c_X6_load K.2.2.2 g A1 lay hM) cp_X6_load (fun A1 => rv_M) mw_1257 dL_law_815 rfl rfl (Nat.le_of_ble_eq_true rfl) ⟨Nat.le_of_ble_eq_true rfl, Nat.le_of_ble_eq_true rfl⟩ hc rfl (fun lay1 => ?_)
  refine j_istore 820 C dL_law_818 (lo' := (6, .int r) :: (5, .int 0) :: [(0, .ref b), (1, .ref (ga g 0)), (2, .ref (gm g 0)), (3, .ref qo), (4, .int (nI i))]) (by decide) rfl rfl ?_
  refine j_aload_n 821 C dL_law_820 4 rfl rfl ?_
  refine lk_Vi (w0 := oW g qo lay (σ', r.toInt64)) (wx := rX g) (σ := ρ') (lay := lay1) (As := []) (st := []) (r := 0) 824 C K (fun A1 => c_X6_thrown K.2.2.2 g A1 lay1 (by rw [thr_eq, h0])) cp_X6_thrown (fun A1 => rv_M) mw_1070 dL_law_821 rfl rfl (Nat.le_of_ble_eq_true rfl) ⟨Nat.le_of_ble_eq_true rfl, Nat.le_of_ble_eq_true rfl⟩ hc rfl (fun lay2 => ?_)
  refine j_iload 826 C dL_law_824 1 rfl rfl ?_
  refine j_icmp_eq 829 831 C dL_law_826 (by decide) rfl (fun _ => ?_) (fun h => absurd rfl h)
  refine j_iload 833 C dL_law_831 1 rfl rfl ?_
  refine j_if_ne 836 848 C dL_law_833 (by decide) rfl (fun h => absurd rfl h) (fun _ => ?_)
  refine j_aload_n 837 C dL_law_836 5 rfl rfl ?_
  refine j_iconst 838 C dL_law_837 ic_0 rfl ?_
  change JJ _ _ _ _ _ _ _ _ _ _ _ _ _ (LW g A ly (([outc g qo r.toInt64] ++ cW g lay σ') ++ rW g ρ')) _ _ _ _ _
  refine j_world (fun H h => LW_assoc.mpr h) ?_
  refine lk_lald 839 C K dL_law_838 rfl ?_
  refine j_world (fun H h => LW_assoc.mp h) ?_
  refine j_iload 841 C dL_law_839 0 rfl rfl ?_
  refine j_i2l 842 C dL_law_841 rfl ?_
  refine j_lcmp 843 C dL_law_842 rfl ?_
  refine j_if_eq 846 848 C dL_law_843 (by decide) rfl (fun _ => ?_) (fun h => absurd (lg_cmp_self _) h)
  refine j_goto 1531 C dL_law_848 (by decide) ?_
  refine j_world (fun H h => LW_comm (lay' := ly) h) ?_
  exact j_sub [2, 3, 4, 5, 6] rfl (KK lay)
set_option maxRecDepth 100000 in
theorem lq_load_2 {p : Program} {l : Launch} {e : Env} {s : State} {m : MethodId} {args : Array Value} {below : List Frame} {meth : Method} {c : Code} {Q : State → Prop} {A : Nat → Prop} {k n : Nat} {g : GG} {ly lay : Nat → Nat} {b L qo : Nat} {xs : Nat → Int32} {i : Nat} {σ σ' : CS} {ρ ρ' : RS} {v : Int64} {r : Int32} {N0 : Nat} (C : KX p m c cL_law 9 s args RL) (K : KC l g A s) (hX : va_X b L xs s s.heap) (hbl : b < s.heap.size) (hbA : ¬ A b) (hi : i + 5 ≤ L) (hL : L ≤ 2560) (hF : F_X5_load σ N0 = some (σ', .inr 2)) (hM : F_X6_load ρ = some (ρ', r)) (h0 : ρ'.1 0 0 = 1) (hc : k + 1 ≤ 601024 ∧ n + 6 ≤ 7293034)
    (KK : ∀ lay : Nat → Nat, JJ p l e room_1 s m args below meth c Q A 9 (LW g A ly (rW g ρ' ++ ([outc g qo v] ++ cW g lay σ'))) (k + 1) (n + 6) 1531 [(0, .ref b), (1, .ref (ga g 0)), (2, .ref (gm g 0)), (3, .ref qo), (4, .int (nI i))] []) : JJ p l e room_1 s m args below meth c Q A 9 (LW g A ly (rW g ρ ++ ([outc g qo v] ++ cW g lay σ))) k n 807 [(0, .ref b), (1, .ref (ga g 0)), (2, .ref (gm g 0)), (3, .ref qo), (4, .int (nI i))] [] := by
  refine j_aload_n 808 C dL_law_807 1 rfl rfl ?_
  refine j_aload_n 809 C dL_law_808 3 rfl rfl ?_
  refine lk_Sw (np := 2) (w0 := rW g ρ) (wx := oW g qo) (σ := (σ, v)) (σ' := (σ', v)) (lay := lay) (As := [.ref (ga g 0), .ref qo]) (st := []) 812 C K (fun A1 => w_L_load_2 K.2.2.2 g A1 lay qo hF) mw_867 mw_97 hw_L_load ⟨by decide, by decide, by decide +kernel⟩ mw_866 dL_law_809 rfl rfl (Nat.le_of_ble_eq_true rfl) ⟨Nat.le_of_ble_eq_true rfl, Nat.le_of_ble_eq_true rfl⟩ hc rfl (fun lay => ?_)
  refine j_istore 814 C dL_law_812 (lo' := (5, .int 1) :: [(0, .ref b), (1, .ref (ga g 0)), (2, .ref (gm g 0)), (3, .ref qo), (4, .int (nI i))]) (by decide) rfl rfl ?_
  refine j_world (fun H h => LW_comm (lay' := ly) h) ?_
  refine j_aload_n 815 C dL_law_814 3 rfl rfl ?_
  refine lk_Vi (w0 := oW g qo lay (σ', v)) (wx := rX g) (σ := ρ) (lay := lay) (As := []) (st := []) 818 C K (fun A1 => c_X6_load K.2.2.2 g A1 lay hM) cp_X6_load (fun A1 => rv_M) mw_1257 dL_law_815 rfl rfl (Nat.le_of_ble_eq_true rfl) ⟨Nat.le_of_ble_eq_true rfl, Nat.le_of_ble_eq_true rfl⟩ hc rfl (fun lay1 => ?_)
  refine j_istore 820 C dL_law_818 (lo' := (6, .int r) :: (5, .int 1) :: [(0, .ref b), (1, .ref (ga g 0)), (2, .ref (gm g 0)), (3, .ref qo), (4, .int (nI i))]) (by decide) rfl rfl ?_
  refine j_aload_n 821 C dL_law_820 4 rfl rfl ?_
  refine lk_Vi (w0 := oW g qo lay (σ', v)) (wx := rX g) (σ := ρ') (lay := lay1) (As := []) (st := []) (r := 1) 824 C K (fun A1 => c_X6_thrown K.2.2.2 g A1 lay1 (by rw [thr_eq, h0])) cp_X6_thrown (fun A1 => rv_M) mw_1070 dL_law_821 rfl rfl (Nat.le_of_ble_eq_true rfl) ⟨Nat.le_of_ble_eq_true rfl, Nat.le_of_ble_eq_true rfl⟩ hc rfl (fun lay2 => ?_)
  refine j_iload 826 C dL_law_824 1 rfl rfl ?_
  refine j_icmp_eq 829 831 C dL_law_826 (by decide) rfl (fun _ => ?_) (fun h => absurd rfl h)
  refine j_iload 833 C dL_law_831 1 rfl rfl ?_
  refine j_if_ne 836 848 C dL_law_833 (by decide) rfl (fun _ => ?_) (fun h => absurd h (by decide))
  change JJ _ _ _ _ _ _ _ _ _ _ _ _ _ (LW g A ly (([outc g qo v] ++ cW g lay σ') ++ rW g ρ')) _ _ _ _ _
  refine j_goto 1531 C dL_law_848 (by decide) ?_
  refine j_world (fun H h => LW_comm (lay' := ly) h) ?_
  exact j_sub [2, 3, 4, 5, 6] rfl (KK lay)
set_option maxRecDepth 100000 in
theorem lq_count {p : Program} {l : Launch} {e : Env} {s : State} {m : MethodId} {args : Array Value} {below : List Frame} {meth : Method} {c : Code} {Q : State → Prop} {A : Nat → Prop} {k n : Nat} {g : GG} {ly lay : Nat → Nat} {b L qo : Nat} {xs : Nat → Int32} {i : Nat} {σ σ' : CS} {ρ ρ' : RS} {v : Int64} {r : Int32} (C : KX p m c cL_law 9 s args RL) (K : KC l g A s) (hX : va_X b L xs s s.heap) (hbl : b < s.heap.size) (hbA : ¬ A b) (hi : i + 5 ≤ L) (hL : L ≤ 2560) (hF : F_X5_count σ (xs (i + 1)) = some (σ', .inl r)) (hM : F_X6_count ρ (xs (i + 1)) = some (ρ', r)) (h0 : ρ'.1 0 0 = 0) (hc : k + 0 ≤ 601024 ∧ n + 0 ≤ 7293034)
    (KK : ∀ lay : Nat → Nat, JJ p l e room_1 s m args below meth c Q A 9 (LW g A ly (rW g ρ' ++ ([outc g qo r.toInt64] ++ cW g lay σ'))) (k + 0) (n + 0) 1531 [(0, .ref b), (1, .ref (ga g 0)), (2, .ref (gm g 0)), (3, .ref qo), (4, .int (nI i))] []) : JJ p l e room_1 s m args below meth c Q A 9 (LW g A ly (rW g ρ ++ ([outc g qo v] ++ cW g lay σ))) k n 851 [(0, .ref b), (1, .ref (ga g 0)), (2, .ref (gm g 0)), (3, .ref qo), (4, .int (nI i))] [] := by
  refine j_aload_n 852 C dL_law_851 1 rfl rfl ?_
  refine ls_rd 858 C hX hbl hbA hL 1 0 4 1 dL_law_852 dL_law_853 dL_law_855 dL_law_856 dL_law_857 nz_1 (by omega) rfl rfl rfl ?_
  refine j_aload_n 859 C dL_law_858 3 rfl rfl ?_
  refine lk_Sw (np := 3) (w0 := rW g ρ) (wx := oW g qo) (σ := (σ, v)) (σ' := (σ', r.toInt64)) (lay := lay) (As := [.ref (ga g 0), .int (xs (i + 1)), .ref qo]) (st := []) 862 C K (fun A1 => w_L_count K.2.2.2 g A1 lay qo hF) mw_887 mw_97 hw_L_count ⟨by decide, by decide, by decide +kernel⟩ mw_886 dL_law_859 rfl rfl (Nat.le_of_ble_eq_true rfl) ⟨Nat.le_of_ble_eq_true rfl, Nat.le_of_ble_eq_true rfl⟩ hc rfl (fun lay => ?_)
  refine j_istore 864 C dL_law_862 (lo' := (5, .int 0) :: [(0, .ref b), (1, .ref (ga g 0)), (2, .ref (gm g 0)), (3, .ref qo), (4, .int (nI i))]) (by decide) rfl rfl ?_
  refine j_world (fun H h => LW_comm (lay' := ly) h) ?_
  refine j_aload_n 865 C dL_law_864 3 rfl rfl ?_
  refine ls_rd 871 C hX hbl hbA hL 1 1 5 1 dL_law_865 dL_law_866 dL_law_868 dL_law_869 dL_law_870 nz_1 (by omega) rfl rfl rfl ?_
  refine lk_Vi (w0 := oW g qo lay (σ', r.toInt64)) (wx := rX g) (σ := ρ) (lay := lay) (As := [.int (xs (i + 1))]) (st := []) 874 C K (fun A1 => c_X6_count K.2.2.2 g A1 lay hM) cp_X6_count (fun A1 => rv_M) mw_1265 dL_law_871 rfl rfl (Nat.le_of_ble_eq_true rfl) ⟨Nat.le_of_ble_eq_true rfl, Nat.le_of_ble_eq_true rfl⟩ hc rfl (fun lay1 => ?_)
  refine j_istore 876 C dL_law_874 (lo' := (6, .int r) :: (5, .int 0) :: [(0, .ref b), (1, .ref (ga g 0)), (2, .ref (gm g 0)), (3, .ref qo), (4, .int (nI i))]) (by decide) rfl rfl ?_
  refine j_aload_n 877 C dL_law_876 4 rfl rfl ?_
  refine lk_Vi (w0 := oW g qo lay (σ', r.toInt64)) (wx := rX g) (σ := ρ') (lay := lay1) (As := []) (st := []) (r := 0) 880 C K (fun A1 => c_X6_thrown K.2.2.2 g A1 lay1 (by rw [thr_eq, h0])) cp_X6_thrown (fun A1 => rv_M) mw_1070 dL_law_877 rfl rfl (Nat.le_of_ble_eq_true rfl) ⟨Nat.le_of_ble_eq_true rfl, Nat.le_of_ble_eq_true rfl⟩ hc rfl (fun lay2 => ?_)
  refine j_iload 882 C dL_law_880 1 rfl rfl ?_
  refine j_icmp_eq 885 887 C dL_law_882 (by decide) rfl (fun _ => ?_) (fun h => absurd rfl h)
  refine j_iload 889 C dL_law_887 1 rfl rfl ?_
  refine j_if_ne 892 904 C dL_law_889 (by decide) rfl (fun h => absurd rfl h) (fun _ => ?_)
  refine j_aload_n 893 C dL_law_892 5 rfl rfl ?_
  refine j_iconst 894 C dL_law_893 ic_0 rfl ?_
  change JJ _ _ _ _ _ _ _ _ _ _ _ _ _ (LW g A ly (([outc g qo r.toInt64] ++ cW g lay σ') ++ rW g ρ')) _ _ _ _ _
  refine j_world (fun H h => LW_assoc.mpr h) ?_
  refine lk_lald 895 C K dL_law_894 rfl ?_
  refine j_world (fun H h => LW_assoc.mp h) ?_
  refine j_iload 897 C dL_law_895 0 rfl rfl ?_
  refine j_i2l 898 C dL_law_897 rfl ?_
  refine j_lcmp 899 C dL_law_898 rfl ?_
  refine j_if_eq 902 904 C dL_law_899 (by decide) rfl (fun _ => ?_) (fun h => absurd (lg_cmp_self _) h)
  refine j_goto 1531 C dL_law_904 (by decide) ?_
  refine j_world (fun H h => LW_comm (lay' := ly) h) ?_
  exact j_sub [2, 3, 4, 5, 6] rfl (KK lay)
set_option maxRecDepth 100000 in
theorem lq_count_2 {p : Program} {l : Launch} {e : Env} {s : State} {m : MethodId} {args : Array Value} {below : List Frame} {meth : Method} {c : Code} {Q : State → Prop} {A : Nat → Prop} {k n : Nat} {g : GG} {ly lay : Nat → Nat} {b L qo : Nat} {xs : Nat → Int32} {i : Nat} {σ σ' : CS} {ρ ρ' : RS} {v : Int64} {r : Int32} (C : KX p m c cL_law 9 s args RL) (K : KC l g A s) (hX : va_X b L xs s s.heap) (hbl : b < s.heap.size) (hbA : ¬ A b) (hi : i + 5 ≤ L) (hL : L ≤ 2560) (hF : F_X5_count σ (xs (i + 1)) = some (σ', .inr 2)) (hM : F_X6_count ρ (xs (i + 1)) = some (ρ', r)) (h0 : ρ'.1 0 0 = 1) (hc : k + 1 ≤ 601024 ∧ n + 6 ≤ 7293034)
    (KK : ∀ lay : Nat → Nat, JJ p l e room_1 s m args below meth c Q A 9 (LW g A ly (rW g ρ' ++ ([outc g qo v] ++ cW g lay σ'))) (k + 1) (n + 6) 1531 [(0, .ref b), (1, .ref (ga g 0)), (2, .ref (gm g 0)), (3, .ref qo), (4, .int (nI i))] []) : JJ p l e room_1 s m args below meth c Q A 9 (LW g A ly (rW g ρ ++ ([outc g qo v] ++ cW g lay σ))) k n 851 [(0, .ref b), (1, .ref (ga g 0)), (2, .ref (gm g 0)), (3, .ref qo), (4, .int (nI i))] [] := by
  refine j_aload_n 852 C dL_law_851 1 rfl rfl ?_
  refine ls_rd 858 C hX hbl hbA hL 1 0 4 1 dL_law_852 dL_law_853 dL_law_855 dL_law_856 dL_law_857 nz_1 (by omega) rfl rfl rfl ?_
  refine j_aload_n 859 C dL_law_858 3 rfl rfl ?_
  refine lk_Sw (np := 3) (w0 := rW g ρ) (wx := oW g qo) (σ := (σ, v)) (σ' := (σ', v)) (lay := lay) (As := [.ref (ga g 0), .int (xs (i + 1)), .ref qo]) (st := []) 862 C K (fun A1 => w_L_count_2 K.2.2.2 g A1 lay qo hF) mw_887 mw_97 hw_L_count ⟨by decide, by decide, by decide +kernel⟩ mw_886 dL_law_859 rfl rfl (Nat.le_of_ble_eq_true rfl) ⟨Nat.le_of_ble_eq_true rfl, Nat.le_of_ble_eq_true rfl⟩ hc rfl (fun lay => ?_)
  refine j_istore 864 C dL_law_862 (lo' := (5, .int 1) :: [(0, .ref b), (1, .ref (ga g 0)), (2, .ref (gm g 0)), (3, .ref qo), (4, .int (nI i))]) (by decide) rfl rfl ?_
  refine j_world (fun H h => LW_comm (lay' := ly) h) ?_
  refine j_aload_n 865 C dL_law_864 3 rfl rfl ?_
  refine ls_rd 871 C hX hbl hbA hL 1 1 5 1 dL_law_865 dL_law_866 dL_law_868 dL_law_869 dL_law_870 nz_1 (by omega) rfl rfl rfl ?_
  refine lk_Vi (w0 := oW g qo lay (σ', v)) (wx := rX g) (σ := ρ) (lay := lay) (As := [.int (xs (i + 1))]) (st := []) 874 C K (fun A1 => c_X6_count K.2.2.2 g A1 lay hM) cp_X6_count (fun A1 => rv_M) mw_1265 dL_law_871 rfl rfl (Nat.le_of_ble_eq_true rfl) ⟨Nat.le_of_ble_eq_true rfl, Nat.le_of_ble_eq_true rfl⟩ hc rfl (fun lay1 => ?_)
  refine j_istore 876 C dL_law_874 (lo' := (6, .int r) :: (5, .int 1) :: [(0, .ref b), (1, .ref (ga g 0)), (2, .ref (gm g 0)), (3, .ref qo), (4, .int (nI i))]) (by decide) rfl rfl ?_
  refine j_aload_n 877 C dL_law_876 4 rfl rfl ?_
  refine lk_Vi (w0 := oW g qo lay (σ', v)) (wx := rX g) (σ := ρ') (lay := lay1) (As := []) (st := []) (r := 1) 880 C K (fun A1 => c_X6_thrown K.2.2.2 g A1 lay1 (by rw [thr_eq, h0])) cp_X6_thrown (fun A1 => rv_M) mw_1070 dL_law_877 rfl rfl (Nat.le_of_ble_eq_true rfl) ⟨Nat.le_of_ble_eq_true rfl, Nat.le_of_ble_eq_true rfl⟩ hc rfl (fun lay2 => ?_)
  refine j_iload 882 C dL_law_880 1 rfl rfl ?_
  refine j_icmp_eq 885 887 C dL_law_882 (by decide) rfl (fun _ => ?_) (fun h => absurd rfl h)
  refine j_iload 889 C dL_law_887 1 rfl rfl ?_
  refine j_if_ne 892 904 C dL_law_889 (by decide) rfl (fun _ => ?_) (fun h => absurd h (by decide))
  change JJ _ _ _ _ _ _ _ _ _ _ _ _ _ (LW g A ly (([outc g qo v] ++ cW g lay σ') ++ rW g ρ')) _ _ _ _ _
  refine j_goto 1531 C dL_law_904 (by decide) ?_
  refine j_world (fun H h => LW_comm (lay' := ly) h) ?_
  exact j_sub [2, 3, 4, 5, 6] rfl (KK lay)
set_option maxRecDepth 100000 in
theorem lq_node {p : Program} {l : Launch} {e : Env} {s : State} {m : MethodId} {args : Array Value} {below : List Frame} {meth : Method} {c : Code} {Q : State → Prop} {A : Nat → Prop} {k n : Nat} {g : GG} {ly lay : Nat → Nat} {b L qo : Nat} {xs : Nat → Int32} {i : Nat} {σ σ' : CS} {ρ ρ' : RS} {v : Int64} {r : Int32} (C : KX p m c cL_law 9 s args RL) (K : KC l g A s) (hX : va_X b L xs s s.heap) (hbl : b < s.heap.size) (hbA : ¬ A b) (hi : i + 5 ≤ L) (hL : L ≤ 2560) (hF : F_X5_node σ (xs (i + 1)) (xs (i + 2)) = some (σ', .inl r)) (hM : F_X6_node ρ (xs (i + 1)) (xs (i + 2)) = some (ρ', r)) (h0 : ρ'.1 0 0 = 0) (hc : k + 0 ≤ 601024 ∧ n + 0 ≤ 7293034)
    (KK : ∀ lay : Nat → Nat, JJ p l e room_1 s m args below meth c Q A 9 (LW g A ly (rW g ρ' ++ ([outc g qo r.toInt64] ++ cW g lay σ'))) (k + 0) (n + 0) 1531 [(0, .ref b), (1, .ref (ga g 0)), (2, .ref (gm g 0)), (3, .ref qo), (4, .int (nI i))] []) : JJ p l e room_1 s m args below meth c Q A 9 (LW g A ly (rW g ρ ++ ([outc g qo v] ++ cW g lay σ))) k n 907 [(0, .ref b), (1, .ref (ga g 0)), (2, .ref (gm g 0)), (3, .ref qo), (4, .int (nI i))] [] := by
  refine j_aload_n 908 C dL_law_907 1 rfl rfl ?_
  refine ls_rd 914 C hX hbl hbA hL 1 0 4 1 dL_law_908 dL_law_909 dL_law_911 dL_law_912 dL_law_913 nz_1 (by omega) rfl rfl rfl ?_
  refine ls_rd 920 C hX hbl hbA hL 2 0 4 2 dL_law_914 dL_law_915 dL_law_917 dL_law_918 dL_law_919 nz_2 (by omega) rfl rfl rfl ?_
  refine j_aload_n 921 C dL_law_920 3 rfl rfl ?_
  refine lk_Sw (np := 4) (w0 := rW g ρ) (wx := oW g qo) (σ := (σ, v)) (σ' := (σ', r.toInt64)) (lay := lay) (As := [.ref (ga g 0), .int (xs (i + 1)), .int (xs (i + 2)), .ref qo]) (st := []) 924 C K (fun A1 => w_L_node K.2.2.2 g A1 lay qo hF) mw_891 mw_97 hw_L_node ⟨by decide, by decide, by decide +kernel⟩ mw_890 dL_law_921 rfl rfl (Nat.le_of_ble_eq_true rfl) ⟨Nat.le_of_ble_eq_true rfl, Nat.le_of_ble_eq_true rfl⟩ hc rfl (fun lay => ?_)
  refine j_istore 926 C dL_law_924 (lo' := (5, .int 0) :: [(0, .ref b), (1, .ref (ga g 0)), (2, .ref (gm g 0)), (3, .ref qo), (4, .int (nI i))]) (by decide) rfl rfl ?_
  refine j_world (fun H h => LW_comm (lay' := ly) h) ?_
  refine j_aload_n 927 C dL_law_926 3 rfl rfl ?_
  refine ls_rd 933 C hX hbl hbA hL 1 1 5 1 dL_law_927 dL_law_928 dL_law_930 dL_law_931 dL_law_932 nz_1 (by omega) rfl rfl rfl ?_
  refine ls_rd 939 C hX hbl hbA hL 2 1 5 2 dL_law_933 dL_law_934 dL_law_936 dL_law_937 dL_law_938 nz_2 (by omega) rfl rfl rfl ?_
  refine lk_Vi (w0 := oW g qo lay (σ', r.toInt64)) (wx := rX g) (σ := ρ) (lay := lay) (As := [.int (xs (i + 1)), .int (xs (i + 2))]) (st := []) 942 C K (fun A1 => c_X6_node K.2.2.2 g A1 lay hM) cp_X6_node (fun A1 => rv_M) mw_1273 dL_law_939 rfl rfl (Nat.le_of_ble_eq_true rfl) ⟨Nat.le_of_ble_eq_true rfl, Nat.le_of_ble_eq_true rfl⟩ hc rfl (fun lay1 => ?_)
  refine j_istore 944 C dL_law_942 (lo' := (6, .int r) :: (5, .int 0) :: [(0, .ref b), (1, .ref (ga g 0)), (2, .ref (gm g 0)), (3, .ref qo), (4, .int (nI i))]) (by decide) rfl rfl ?_
  refine j_aload_n 945 C dL_law_944 4 rfl rfl ?_
  refine lk_Vi (w0 := oW g qo lay (σ', r.toInt64)) (wx := rX g) (σ := ρ') (lay := lay1) (As := []) (st := []) (r := 0) 948 C K (fun A1 => c_X6_thrown K.2.2.2 g A1 lay1 (by rw [thr_eq, h0])) cp_X6_thrown (fun A1 => rv_M) mw_1070 dL_law_945 rfl rfl (Nat.le_of_ble_eq_true rfl) ⟨Nat.le_of_ble_eq_true rfl, Nat.le_of_ble_eq_true rfl⟩ hc rfl (fun lay2 => ?_)
  refine j_iload 950 C dL_law_948 1 rfl rfl ?_
  refine j_icmp_eq 953 955 C dL_law_950 (by decide) rfl (fun _ => ?_) (fun h => absurd rfl h)
  refine j_iload 957 C dL_law_955 1 rfl rfl ?_
  refine j_if_ne 960 972 C dL_law_957 (by decide) rfl (fun h => absurd rfl h) (fun _ => ?_)
  refine j_aload_n 961 C dL_law_960 5 rfl rfl ?_
  refine j_iconst 962 C dL_law_961 ic_0 rfl ?_
  change JJ _ _ _ _ _ _ _ _ _ _ _ _ _ (LW g A ly (([outc g qo r.toInt64] ++ cW g lay σ') ++ rW g ρ')) _ _ _ _ _
  refine j_world (fun H h => LW_assoc.mpr h) ?_
  refine lk_lald 963 C K dL_law_962 rfl ?_
  refine j_world (fun H h => LW_assoc.mp h) ?_
  refine j_iload 965 C dL_law_963 0 rfl rfl ?_
  refine j_i2l 966 C dL_law_965 rfl ?_
  refine j_lcmp 967 C dL_law_966 rfl ?_
  refine j_if_eq 970 972 C dL_law_967 (by decide) rfl (fun _ => ?_) (fun h => absurd (lg_cmp_self _) h)
  refine j_goto 1531 C dL_law_972 (by decide) ?_
  refine j_world (fun H h => LW_comm (lay' := ly) h) ?_
  exact j_sub [2, 3, 4, 5, 6] rfl (KK lay)
set_option maxRecDepth 100000 in
theorem lq_node_1 {p : Program} {l : Launch} {e : Env} {s : State} {m : MethodId} {args : Array Value} {below : List Frame} {meth : Method} {c : Code} {Q : State → Prop} {A : Nat → Prop} {k n : Nat} {g : GG} {ly lay : Nat → Nat} {b L qo : Nat} {xs : Nat → Int32} {i : Nat} {σ σ' : CS} {ρ ρ' : RS} {v : Int64} {r : Int32} (C : KX p m c cL_law 9 s args RL) (K : KC l g A s) (hX : va_X b L xs s s.heap) (hbl : b < s.heap.size) (hbA : ¬ A b) (hi : i + 5 ≤ L) (hL : L ≤ 2560) (hF : F_X5_node σ (xs (i + 1)) (xs (i + 2)) = some (σ', .inr 1)) (hM : F_X6_node ρ (xs (i + 1)) (xs (i + 2)) = some (ρ', r)) (h0 : ρ'.1 0 0 = 1) (hc : k + 1 ≤ 601024 ∧ n + 6 ≤ 7293034)
    (KK : ∀ lay : Nat → Nat, JJ p l e room_1 s m args below meth c Q A 9 (LW g A ly (rW g ρ' ++ ([outc g qo v] ++ cW g lay σ'))) (k + 1) (n + 6) 1531 [(0, .ref b), (1, .ref (ga g 0)), (2, .ref (gm g 0)), (3, .ref qo), (4, .int (nI i))] []) : JJ p l e room_1 s m args below meth c Q A 9 (LW g A ly (rW g ρ ++ ([outc g qo v] ++ cW g lay σ))) k n 907 [(0, .ref b), (1, .ref (ga g 0)), (2, .ref (gm g 0)), (3, .ref qo), (4, .int (nI i))] [] := by
  refine j_aload_n 908 C dL_law_907 1 rfl rfl ?_
  refine ls_rd 914 C hX hbl hbA hL 1 0 4 1 dL_law_908 dL_law_909 dL_law_911 dL_law_912 dL_law_913 nz_1 (by omega) rfl rfl rfl ?_
  refine ls_rd 920 C hX hbl hbA hL 2 0 4 2 dL_law_914 dL_law_915 dL_law_917 dL_law_918 dL_law_919 nz_2 (by omega) rfl rfl rfl ?_
  refine j_aload_n 921 C dL_law_920 3 rfl rfl ?_
  refine lk_Sw (np := 4) (w0 := rW g ρ) (wx := oW g qo) (σ := (σ, v)) (σ' := (σ', v)) (lay := lay) (As := [.ref (ga g 0), .int (xs (i + 1)), .int (xs (i + 2)), .ref qo]) (st := []) 924 C K (fun A1 => w_L_node_1 K.2.2.2 g A1 lay qo hF) mw_891 mw_97 hw_L_node ⟨by decide, by decide, by decide +kernel⟩ mw_890 dL_law_921 rfl rfl (Nat.le_of_ble_eq_true rfl) ⟨Nat.le_of_ble_eq_true rfl, Nat.le_of_ble_eq_true rfl⟩ hc rfl (fun lay => ?_)
  refine j_istore 926 C dL_law_924 (lo' := (5, .int 1) :: [(0, .ref b), (1, .ref (ga g 0)), (2, .ref (gm g 0)), (3, .ref qo), (4, .int (nI i))]) (by decide) rfl rfl ?_
  refine j_world (fun H h => LW_comm (lay' := ly) h) ?_
  refine j_aload_n 927 C dL_law_926 3 rfl rfl ?_
  refine ls_rd 933 C hX hbl hbA hL 1 1 5 1 dL_law_927 dL_law_928 dL_law_930 dL_law_931 dL_law_932 nz_1 (by omega) rfl rfl rfl ?_
  refine ls_rd 939 C hX hbl hbA hL 2 1 5 2 dL_law_933 dL_law_934 dL_law_936 dL_law_937 dL_law_938 nz_2 (by omega) rfl rfl rfl ?_
  refine lk_Vi (w0 := oW g qo lay (σ', v)) (wx := rX g) (σ := ρ) (lay := lay) (As := [.int (xs (i + 1)), .int (xs (i + 2))]) (st := []) 942 C K (fun A1 => c_X6_node K.2.2.2 g A1 lay hM) cp_X6_node (fun A1 => rv_M) mw_1273 dL_law_939 rfl rfl (Nat.le_of_ble_eq_true rfl) ⟨Nat.le_of_ble_eq_true rfl, Nat.le_of_ble_eq_true rfl⟩ hc rfl (fun lay1 => ?_)
  refine j_istore 944 C dL_law_942 (lo' := (6, .int r) :: (5, .int 1) :: [(0, .ref b), (1, .ref (ga g 0)), (2, .ref (gm g 0)), (3, .ref qo), (4, .int (nI i))]) (by decide) rfl rfl ?_
  refine j_aload_n 945 C dL_law_944 4 rfl rfl ?_
  refine lk_Vi (w0 := oW g qo lay (σ', v)) (wx := rX g) (σ := ρ') (lay := lay1) (As := []) (st := []) (r := 1) 948 C K (fun A1 => c_X6_thrown K.2.2.2 g A1 lay1 (by rw [thr_eq, h0])) cp_X6_thrown (fun A1 => rv_M) mw_1070 dL_law_945 rfl rfl (Nat.le_of_ble_eq_true rfl) ⟨Nat.le_of_ble_eq_true rfl, Nat.le_of_ble_eq_true rfl⟩ hc rfl (fun lay2 => ?_)
  refine j_iload 950 C dL_law_948 1 rfl rfl ?_
  refine j_icmp_eq 953 955 C dL_law_950 (by decide) rfl (fun _ => ?_) (fun h => absurd rfl h)
  refine j_iload 957 C dL_law_955 1 rfl rfl ?_
  refine j_if_ne 960 972 C dL_law_957 (by decide) rfl (fun _ => ?_) (fun h => absurd h (by decide))
  change JJ _ _ _ _ _ _ _ _ _ _ _ _ _ (LW g A ly (([outc g qo v] ++ cW g lay σ') ++ rW g ρ')) _ _ _ _ _
  refine j_goto 1531 C dL_law_972 (by decide) ?_
  refine j_world (fun H h => LW_comm (lay' := ly) h) ?_
  exact j_sub [2, 3, 4, 5, 6] rfl (KK lay)
set_option maxRecDepth 100000 in
theorem lq_node_2 {p : Program} {l : Launch} {e : Env} {s : State} {m : MethodId} {args : Array Value} {below : List Frame} {meth : Method} {c : Code} {Q : State → Prop} {A : Nat → Prop} {k n : Nat} {g : GG} {ly lay : Nat → Nat} {b L qo : Nat} {xs : Nat → Int32} {i : Nat} {σ σ' : CS} {ρ ρ' : RS} {v : Int64} {r : Int32} (C : KX p m c cL_law 9 s args RL) (K : KC l g A s) (hX : va_X b L xs s s.heap) (hbl : b < s.heap.size) (hbA : ¬ A b) (hi : i + 5 ≤ L) (hL : L ≤ 2560) (hF : F_X5_node σ (xs (i + 1)) (xs (i + 2)) = some (σ', .inr 2)) (hM : F_X6_node ρ (xs (i + 1)) (xs (i + 2)) = some (ρ', r)) (h0 : ρ'.1 0 0 = 2) (hc : k + 1 ≤ 601024 ∧ n + 6 ≤ 7293034)
    (KK : ∀ lay : Nat → Nat, JJ p l e room_1 s m args below meth c Q A 9 (LW g A ly (rW g ρ' ++ ([outc g qo v] ++ cW g lay σ'))) (k + 1) (n + 6) 1531 [(0, .ref b), (1, .ref (ga g 0)), (2, .ref (gm g 0)), (3, .ref qo), (4, .int (nI i))] []) : JJ p l e room_1 s m args below meth c Q A 9 (LW g A ly (rW g ρ ++ ([outc g qo v] ++ cW g lay σ))) k n 907 [(0, .ref b), (1, .ref (ga g 0)), (2, .ref (gm g 0)), (3, .ref qo), (4, .int (nI i))] [] := by
  refine j_aload_n 908 C dL_law_907 1 rfl rfl ?_
  refine ls_rd 914 C hX hbl hbA hL 1 0 4 1 dL_law_908 dL_law_909 dL_law_911 dL_law_912 dL_law_913 nz_1 (by omega) rfl rfl rfl ?_
  refine ls_rd 920 C hX hbl hbA hL 2 0 4 2 dL_law_914 dL_law_915 dL_law_917 dL_law_918 dL_law_919 nz_2 (by omega) rfl rfl rfl ?_
  refine j_aload_n 921 C dL_law_920 3 rfl rfl ?_
  refine lk_Sw (np := 4) (w0 := rW g ρ) (wx := oW g qo) (σ := (σ, v)) (σ' := (σ', v)) (lay := lay) (As := [.ref (ga g 0), .int (xs (i + 1)), .int (xs (i + 2)), .ref qo]) (st := []) 924 C K (fun A1 => w_L_node_2 K.2.2.2 g A1 lay qo hF) mw_891 mw_97 hw_L_node ⟨by decide, by decide, by decide +kernel⟩ mw_890 dL_law_921 rfl rfl (Nat.le_of_ble_eq_true rfl) ⟨Nat.le_of_ble_eq_true rfl, Nat.le_of_ble_eq_true rfl⟩ hc rfl (fun lay => ?_)
  refine j_istore 926 C dL_law_924 (lo' := (5, .int 2) :: [(0, .ref b), (1, .ref (ga g 0)), (2, .ref (gm g 0)), (3, .ref qo), (4, .int (nI i))]) (by decide) rfl rfl ?_
  refine j_world (fun H h => LW_comm (lay' := ly) h) ?_
  refine j_aload_n 927 C dL_law_926 3 rfl rfl ?_
  refine ls_rd 933 C hX hbl hbA hL 1 1 5 1 dL_law_927 dL_law_928 dL_law_930 dL_law_931 dL_law_932 nz_1 (by omega) rfl rfl rfl ?_
  refine ls_rd 939 C hX hbl hbA hL 2 1 5 2 dL_law_933 dL_law_934 dL_law_936 dL_law_937 dL_law_938 nz_2 (by omega) rfl rfl rfl ?_
  refine lk_Vi (w0 := oW g qo lay (σ', v)) (wx := rX g) (σ := ρ) (lay := lay) (As := [.int (xs (i + 1)), .int (xs (i + 2))]) (st := []) 942 C K (fun A1 => c_X6_node K.2.2.2 g A1 lay hM) cp_X6_node (fun A1 => rv_M) mw_1273 dL_law_939 rfl rfl (Nat.le_of_ble_eq_true rfl) ⟨Nat.le_of_ble_eq_true rfl, Nat.le_of_ble_eq_true rfl⟩ hc rfl (fun lay1 => ?_)
  refine j_istore 944 C dL_law_942 (lo' := (6, .int r) :: (5, .int 2) :: [(0, .ref b), (1, .ref (ga g 0)), (2, .ref (gm g 0)), (3, .ref qo), (4, .int (nI i))]) (by decide) rfl rfl ?_
  refine j_aload_n 945 C dL_law_944 4 rfl rfl ?_
  refine lk_Vi (w0 := oW g qo lay (σ', v)) (wx := rX g) (σ := ρ') (lay := lay1) (As := []) (st := []) (r := 2) 948 C K (fun A1 => c_X6_thrown K.2.2.2 g A1 lay1 (by rw [thr_eq, h0])) cp_X6_thrown (fun A1 => rv_M) mw_1070 dL_law_945 rfl rfl (Nat.le_of_ble_eq_true rfl) ⟨Nat.le_of_ble_eq_true rfl, Nat.le_of_ble_eq_true rfl⟩ hc rfl (fun lay2 => ?_)
  refine j_iload 950 C dL_law_948 1 rfl rfl ?_
  refine j_icmp_eq 953 955 C dL_law_950 (by decide) rfl (fun _ => ?_) (fun h => absurd rfl h)
  refine j_iload 957 C dL_law_955 1 rfl rfl ?_
  refine j_if_ne 960 972 C dL_law_957 (by decide) rfl (fun _ => ?_) (fun h => absurd h (by decide))
  change JJ _ _ _ _ _ _ _ _ _ _ _ _ _ (LW g A ly (([outc g qo v] ++ cW g lay σ') ++ rW g ρ')) _ _ _ _ _
  refine j_goto 1531 C dL_law_972 (by decide) ?_
  refine j_world (fun H h => LW_comm (lay' := ly) h) ?_
  exact j_sub [2, 3, 4, 5, 6] rfl (KK lay)
set_option maxRecDepth 100000 in
theorem lq_accepted {p : Program} {l : Launch} {e : Env} {s : State} {m : MethodId} {args : Array Value} {below : List Frame} {meth : Method} {c : Code} {Q : State → Prop} {A : Nat → Prop} {k n : Nat} {g : GG} {ly lay : Nat → Nat} {b L qo : Nat} {xs : Nat → Int32} {i : Nat} {σ σ' : CS} {ρ ρ' : RS} {v : Int64} {r : Int32} (C : KX p m c cL_law 9 s args RL) (K : KC l g A s) (hX : va_X b L xs s s.heap) (hbl : b < s.heap.size) (hbA : ¬ A b) (hi : i + 5 ≤ L) (hL : L ≤ 2560) (hF : F_X5_accepted σ (xs (i + 1)) (xs (i + 2)) (xs (i + 3)) = some (σ', .inl r)) (hM : F_X6_accepted ρ (xs (i + 1)) (xs (i + 2)) (xs (i + 3)) = some (ρ', r)) (h0 : ρ'.1 0 0 = 0) (hc : k + 0 ≤ 601024 ∧ n + 0 ≤ 7293034)
    (KK : ∀ lay : Nat → Nat, JJ p l e room_1 s m args below meth c Q A 9 (LW g A ly (rW g ρ' ++ ([outc g qo r.toInt64] ++ cW g lay σ'))) (k + 0) (n + 0) 1531 [(0, .ref b), (1, .ref (ga g 0)), (2, .ref (gm g 0)), (3, .ref qo), (4, .int (nI i))] []) : JJ p l e room_1 s m args below meth c Q A 9 (LW g A ly (rW g ρ ++ ([outc g qo v] ++ cW g lay σ))) k n 975 [(0, .ref b), (1, .ref (ga g 0)), (2, .ref (gm g 0)), (3, .ref qo), (4, .int (nI i))] [] := by
  refine j_aload_n 976 C dL_law_975 1 rfl rfl ?_
  refine ls_rd 982 C hX hbl hbA hL 1 0 4 1 dL_law_976 dL_law_977 dL_law_979 dL_law_980 dL_law_981 nz_1 (by omega) rfl rfl rfl ?_
  refine ls_rd 988 C hX hbl hbA hL 2 0 4 2 dL_law_982 dL_law_983 dL_law_985 dL_law_986 dL_law_987 nz_2 (by omega) rfl rfl rfl ?_
  refine ls_rd 994 C hX hbl hbA hL 3 0 4 3 dL_law_988 dL_law_989 dL_law_991 dL_law_992 dL_law_993 nz_3 (by omega) rfl rfl rfl ?_
  refine j_aload_n 995 C dL_law_994 3 rfl rfl ?_
  refine lk_Sw (np := 5) (w0 := rW g ρ) (wx := oW g qo) (σ := (σ, v)) (σ' := (σ', r.toInt64)) (lay := lay) (As := [.ref (ga g 0), .int (xs (i + 1)), .int (xs (i + 2)), .int (xs (i + 3)), .ref qo]) (st := []) 998 C K (fun A1 => w_L_accepted K.2.2.2 g A1 lay qo hF) mw_895 mw_97 hw_L_accepted ⟨by decide, by decide, by decide +kernel⟩ mw_894 dL_law_995 rfl rfl (Nat.le_of_ble_eq_true rfl) ⟨Nat.le_of_ble_eq_true rfl, Nat.le_of_ble_eq_true rfl⟩ hc rfl (fun lay => ?_)
  refine j_istore 1000 C dL_law_998 (lo' := (5, .int 0) :: [(0, .ref b), (1, .ref (ga g 0)), (2, .ref (gm g 0)), (3, .ref qo), (4, .int (nI i))]) (by decide) rfl rfl ?_
  refine j_world (fun H h => LW_comm (lay' := ly) h) ?_
  refine j_aload_n 1001 C dL_law_1000 3 rfl rfl ?_
  refine ls_rd 1007 C hX hbl hbA hL 1 1 5 1 dL_law_1001 dL_law_1002 dL_law_1004 dL_law_1005 dL_law_1006 nz_1 (by omega) rfl rfl rfl ?_
  refine ls_rd 1013 C hX hbl hbA hL 2 1 5 2 dL_law_1007 dL_law_1008 dL_law_1010 dL_law_1011 dL_law_1012 nz_2 (by omega) rfl rfl rfl ?_
  refine ls_rd 1019 C hX hbl hbA hL 3 1 5 3 dL_law_1013 dL_law_1014 dL_law_1016 dL_law_1017 dL_law_1018 nz_3 (by omega) rfl rfl rfl ?_
  refine lk_Vi (w0 := oW g qo lay (σ', r.toInt64)) (wx := rX g) (σ := ρ) (lay := lay) (As := [.int (xs (i + 1)), .int (xs (i + 2)), .int (xs (i + 3))]) (st := []) 1022 C K (fun A1 => c_X6_accepted K.2.2.2 g A1 lay hM) cp_X6_accepted (fun A1 => rv_M) mw_1281 dL_law_1019 rfl rfl (Nat.le_of_ble_eq_true rfl) ⟨Nat.le_of_ble_eq_true rfl, Nat.le_of_ble_eq_true rfl⟩ hc rfl (fun lay1 => ?_)
  refine j_istore 1024 C dL_law_1022 (lo' := (6, .int r) :: (5, .int 0) :: [(0, .ref b), (1, .ref (ga g 0)), (2, .ref (gm g 0)), (3, .ref qo), (4, .int (nI i))]) (by decide) rfl rfl ?_
  refine j_aload_n 1025 C dL_law_1024 4 rfl rfl ?_
  refine lk_Vi (w0 := oW g qo lay (σ', r.toInt64)) (wx := rX g) (σ := ρ') (lay := lay1) (As := []) (st := []) (r := 0) 1028 C K (fun A1 => c_X6_thrown K.2.2.2 g A1 lay1 (by rw [thr_eq, h0])) cp_X6_thrown (fun A1 => rv_M) mw_1070 dL_law_1025 rfl rfl (Nat.le_of_ble_eq_true rfl) ⟨Nat.le_of_ble_eq_true rfl, Nat.le_of_ble_eq_true rfl⟩ hc rfl (fun lay2 => ?_)
  refine j_iload 1030 C dL_law_1028 1 rfl rfl ?_
  refine j_icmp_eq 1033 1035 C dL_law_1030 (by decide) rfl (fun _ => ?_) (fun h => absurd rfl h)
  refine j_iload 1037 C dL_law_1035 1 rfl rfl ?_
  refine j_if_ne 1040 1052 C dL_law_1037 (by decide) rfl (fun h => absurd rfl h) (fun _ => ?_)
  refine j_aload_n 1041 C dL_law_1040 5 rfl rfl ?_
  refine j_iconst 1042 C dL_law_1041 ic_0 rfl ?_
  change JJ _ _ _ _ _ _ _ _ _ _ _ _ _ (LW g A ly (([outc g qo r.toInt64] ++ cW g lay σ') ++ rW g ρ')) _ _ _ _ _
  refine j_world (fun H h => LW_assoc.mpr h) ?_
  refine lk_lald 1043 C K dL_law_1042 rfl ?_
  refine j_world (fun H h => LW_assoc.mp h) ?_
  refine j_iload 1045 C dL_law_1043 0 rfl rfl ?_
  refine j_i2l 1046 C dL_law_1045 rfl ?_
  refine j_lcmp 1047 C dL_law_1046 rfl ?_
  refine j_if_eq 1050 1052 C dL_law_1047 (by decide) rfl (fun _ => ?_) (fun h => absurd (lg_cmp_self _) h)
  refine j_goto 1531 C dL_law_1052 (by decide) ?_
  refine j_world (fun H h => LW_comm (lay' := ly) h) ?_
  exact j_sub [2, 3, 4, 5, 6] rfl (KK lay)
set_option maxRecDepth 100000 in
theorem lq_accepted_1 {p : Program} {l : Launch} {e : Env} {s : State} {m : MethodId} {args : Array Value} {below : List Frame} {meth : Method} {c : Code} {Q : State → Prop} {A : Nat → Prop} {k n : Nat} {g : GG} {ly lay : Nat → Nat} {b L qo : Nat} {xs : Nat → Int32} {i : Nat} {σ σ' : CS} {ρ ρ' : RS} {v : Int64} {r : Int32} (C : KX p m c cL_law 9 s args RL) (K : KC l g A s) (hX : va_X b L xs s s.heap) (hbl : b < s.heap.size) (hbA : ¬ A b) (hi : i + 5 ≤ L) (hL : L ≤ 2560) (hF : F_X5_accepted σ (xs (i + 1)) (xs (i + 2)) (xs (i + 3)) = some (σ', .inr 1)) (hM : F_X6_accepted ρ (xs (i + 1)) (xs (i + 2)) (xs (i + 3)) = some (ρ', r)) (h0 : ρ'.1 0 0 = 1) (hc : k + 1 ≤ 601024 ∧ n + 6 ≤ 7293034)
    (KK : ∀ lay : Nat → Nat, JJ p l e room_1 s m args below meth c Q A 9 (LW g A ly (rW g ρ' ++ ([outc g qo v] ++ cW g lay σ'))) (k + 1) (n + 6) 1531 [(0, .ref b), (1, .ref (ga g 0)), (2, .ref (gm g 0)), (3, .ref qo), (4, .int (nI i))] []) : JJ p l e room_1 s m args below meth c Q A 9 (LW g A ly (rW g ρ ++ ([outc g qo v] ++ cW g lay σ))) k n 975 [(0, .ref b), (1, .ref (ga g 0)), (2, .ref (gm g 0)), (3, .ref qo), (4, .int (nI i))] [] := by
  refine j_aload_n 976 C dL_law_975 1 rfl rfl ?_
  refine ls_rd 982 C hX hbl hbA hL 1 0 4 1 dL_law_976 dL_law_977 dL_law_979 dL_law_980 dL_law_981 nz_1 (by omega) rfl rfl rfl ?_
  refine ls_rd 988 C hX hbl hbA hL 2 0 4 2 dL_law_982 dL_law_983 dL_law_985 dL_law_986 dL_law_987 nz_2 (by omega) rfl rfl rfl ?_
  refine ls_rd 994 C hX hbl hbA hL 3 0 4 3 dL_law_988 dL_law_989 dL_law_991 dL_law_992 dL_law_993 nz_3 (by omega) rfl rfl rfl ?_
  refine j_aload_n 995 C dL_law_994 3 rfl rfl ?_
  refine lk_Sw (np := 5) (w0 := rW g ρ) (wx := oW g qo) (σ := (σ, v)) (σ' := (σ', v)) (lay := lay) (As := [.ref (ga g 0), .int (xs (i + 1)), .int (xs (i + 2)), .int (xs (i + 3)), .ref qo]) (st := []) 998 C K (fun A1 => w_L_accepted_1 K.2.2.2 g A1 lay qo hF) mw_895 mw_97 hw_L_accepted ⟨by decide, by decide, by decide +kernel⟩ mw_894 dL_law_995 rfl rfl (Nat.le_of_ble_eq_true rfl) ⟨Nat.le_of_ble_eq_true rfl, Nat.le_of_ble_eq_true rfl⟩ hc rfl (fun lay => ?_)
  refine j_istore 1000 C dL_law_998 (lo' := (5, .int 1) :: [(0, .ref b), (1, .ref (ga g 0)), (2, .ref (gm g 0)), (3, .ref qo), (4, .int (nI i))]) (by decide) rfl rfl ?_
  refine j_world (fun H h => LW_comm (lay' := ly) h) ?_
  refine j_aload_n 1001 C dL_law_1000 3 rfl rfl ?_
  refine ls_rd 1007 C hX hbl hbA hL 1 1 5 1 dL_law_1001 dL_law_1002 dL_law_1004 dL_law_1005 dL_law_1006 nz_1 (by omega) rfl rfl rfl ?_
  refine ls_rd 1013 C hX hbl hbA hL 2 1 5 2 dL_law_1007 dL_law_1008 dL_law_1010 dL_law_1011 dL_law_1012 nz_2 (by omega) rfl rfl rfl ?_
  refine ls_rd 1019 C hX hbl hbA hL 3 1 5 3 dL_law_1013 dL_law_1014 dL_law_1016 dL_law_1017 dL_law_1018 nz_3 (by omega) rfl rfl rfl ?_
  refine lk_Vi (w0 := oW g qo lay (σ', v)) (wx := rX g) (σ := ρ) (lay := lay) (As := [.int (xs (i + 1)), .int (xs (i + 2)), .int (xs (i + 3))]) (st := []) 1022 C K (fun A1 => c_X6_accepted K.2.2.2 g A1 lay hM) cp_X6_accepted (fun A1 => rv_M) mw_1281 dL_law_1019 rfl rfl (Nat.le_of_ble_eq_true rfl) ⟨Nat.le_of_ble_eq_true rfl, Nat.le_of_ble_eq_true rfl⟩ hc rfl (fun lay1 => ?_)
  refine j_istore 1024 C dL_law_1022 (lo' := (6, .int r) :: (5, .int 1) :: [(0, .ref b), (1, .ref (ga g 0)), (2, .ref (gm g 0)), (3, .ref qo), (4, .int (nI i))]) (by decide) rfl rfl ?_
  refine j_aload_n 1025 C dL_law_1024 4 rfl rfl ?_
  refine lk_Vi (w0 := oW g qo lay (σ', v)) (wx := rX g) (σ := ρ') (lay := lay1) (As := []) (st := []) (r := 1) 1028 C K (fun A1 => c_X6_thrown K.2.2.2 g A1 lay1 (by rw [thr_eq, h0])) cp_X6_thrown (fun A1 => rv_M) mw_1070 dL_law_1025 rfl rfl (Nat.le_of_ble_eq_true rfl) ⟨Nat.le_of_ble_eq_true rfl, Nat.le_of_ble_eq_true rfl⟩ hc rfl (fun lay2 => ?_)
  refine j_iload 1030 C dL_law_1028 1 rfl rfl ?_
  refine j_icmp_eq 1033 1035 C dL_law_1030 (by decide) rfl (fun _ => ?_) (fun h => absurd rfl h)
  refine j_iload 1037 C dL_law_1035 1 rfl rfl ?_
  refine j_if_ne 1040 1052 C dL_law_1037 (by decide) rfl (fun _ => ?_) (fun h => absurd h (by decide))
  change JJ _ _ _ _ _ _ _ _ _ _ _ _ _ (LW g A ly (([outc g qo v] ++ cW g lay σ') ++ rW g ρ')) _ _ _ _ _
  refine j_goto 1531 C dL_law_1052 (by decide) ?_
  refine j_world (fun H h => LW_comm (lay' := ly) h) ?_
  exact j_sub [2, 3, 4, 5, 6] rfl (KK lay)
set_option maxRecDepth 100000 in
theorem lq_accepted_2 {p : Program} {l : Launch} {e : Env} {s : State} {m : MethodId} {args : Array Value} {below : List Frame} {meth : Method} {c : Code} {Q : State → Prop} {A : Nat → Prop} {k n : Nat} {g : GG} {ly lay : Nat → Nat} {b L qo : Nat} {xs : Nat → Int32} {i : Nat} {σ σ' : CS} {ρ ρ' : RS} {v : Int64} {r : Int32} (C : KX p m c cL_law 9 s args RL) (K : KC l g A s) (hX : va_X b L xs s s.heap) (hbl : b < s.heap.size) (hbA : ¬ A b) (hi : i + 5 ≤ L) (hL : L ≤ 2560) (hF : F_X5_accepted σ (xs (i + 1)) (xs (i + 2)) (xs (i + 3)) = some (σ', .inr 2)) (hM : F_X6_accepted ρ (xs (i + 1)) (xs (i + 2)) (xs (i + 3)) = some (ρ', r)) (h0 : ρ'.1 0 0 = 2) (hc : k + 1 ≤ 601024 ∧ n + 6 ≤ 7293034)
    (KK : ∀ lay : Nat → Nat, JJ p l e room_1 s m args below meth c Q A 9 (LW g A ly (rW g ρ' ++ ([outc g qo v] ++ cW g lay σ'))) (k + 1) (n + 6) 1531 [(0, .ref b), (1, .ref (ga g 0)), (2, .ref (gm g 0)), (3, .ref qo), (4, .int (nI i))] []) : JJ p l e room_1 s m args below meth c Q A 9 (LW g A ly (rW g ρ ++ ([outc g qo v] ++ cW g lay σ))) k n 975 [(0, .ref b), (1, .ref (ga g 0)), (2, .ref (gm g 0)), (3, .ref qo), (4, .int (nI i))] [] := by
  refine j_aload_n 976 C dL_law_975 1 rfl rfl ?_
  refine ls_rd 982 C hX hbl hbA hL 1 0 4 1 dL_law_976 dL_law_977 dL_law_979 dL_law_980 dL_law_981 nz_1 (by omega) rfl rfl rfl ?_
  refine ls_rd 988 C hX hbl hbA hL 2 0 4 2 dL_law_982 dL_law_983 dL_law_985 dL_law_986 dL_law_987 nz_2 (by omega) rfl rfl rfl ?_
  refine ls_rd 994 C hX hbl hbA hL 3 0 4 3 dL_law_988 dL_law_989 dL_law_991 dL_law_992 dL_law_993 nz_3 (by omega) rfl rfl rfl ?_
  refine j_aload_n 995 C dL_law_994 3 rfl rfl ?_
  refine lk_Sw (np := 5) (w0 := rW g ρ) (wx := oW g qo) (σ := (σ, v)) (σ' := (σ', v)) (lay := lay) (As := [.ref (ga g 0), .int (xs (i + 1)), .int (xs (i + 2)), .int (xs (i + 3)), .ref qo]) (st := []) 998 C K (fun A1 => w_L_accepted_2 K.2.2.2 g A1 lay qo hF) mw_895 mw_97 hw_L_accepted ⟨by decide, by decide, by decide +kernel⟩ mw_894 dL_law_995 rfl rfl (Nat.le_of_ble_eq_true rfl) ⟨Nat.le_of_ble_eq_true rfl, Nat.le_of_ble_eq_true rfl⟩ hc rfl (fun lay => ?_)
  refine j_istore 1000 C dL_law_998 (lo' := (5, .int 2) :: [(0, .ref b), (1, .ref (ga g 0)), (2, .ref (gm g 0)), (3, .ref qo), (4, .int (nI i))]) (by decide) rfl rfl ?_
  refine j_world (fun H h => LW_comm (lay' := ly) h) ?_
  refine j_aload_n 1001 C dL_law_1000 3 rfl rfl ?_
  refine ls_rd 1007 C hX hbl hbA hL 1 1 5 1 dL_law_1001 dL_law_1002 dL_law_1004 dL_law_1005 dL_law_1006 nz_1 (by omega) rfl rfl rfl ?_
  refine ls_rd 1013 C hX hbl hbA hL 2 1 5 2 dL_law_1007 dL_law_1008 dL_law_1010 dL_law_1011 dL_law_1012 nz_2 (by omega) rfl rfl rfl ?_
  refine ls_rd 1019 C hX hbl hbA hL 3 1 5 3 dL_law_1013 dL_law_1014 dL_law_1016 dL_law_1017 dL_law_1018 nz_3 (by omega) rfl rfl rfl ?_
  refine lk_Vi (w0 := oW g qo lay (σ', v)) (wx := rX g) (σ := ρ) (lay := lay) (As := [.int (xs (i + 1)), .int (xs (i + 2)), .int (xs (i + 3))]) (st := []) 1022 C K (fun A1 => c_X6_accepted K.2.2.2 g A1 lay hM) cp_X6_accepted (fun A1 => rv_M) mw_1281 dL_law_1019 rfl rfl (Nat.le_of_ble_eq_true rfl) ⟨Nat.le_of_ble_eq_true rfl, Nat.le_of_ble_eq_true rfl⟩ hc rfl (fun lay1 => ?_)
  refine j_istore 1024 C dL_law_1022 (lo' := (6, .int r) :: (5, .int 2) :: [(0, .ref b), (1, .ref (ga g 0)), (2, .ref (gm g 0)), (3, .ref qo), (4, .int (nI i))]) (by decide) rfl rfl ?_
  refine j_aload_n 1025 C dL_law_1024 4 rfl rfl ?_
  refine lk_Vi (w0 := oW g qo lay (σ', v)) (wx := rX g) (σ := ρ') (lay := lay1) (As := []) (st := []) (r := 2) 1028 C K (fun A1 => c_X6_thrown K.2.2.2 g A1 lay1 (by rw [thr_eq, h0])) cp_X6_thrown (fun A1 => rv_M) mw_1070 dL_law_1025 rfl rfl (Nat.le_of_ble_eq_true rfl) ⟨Nat.le_of_ble_eq_true rfl, Nat.le_of_ble_eq_true rfl⟩ hc rfl (fun lay2 => ?_)
  refine j_iload 1030 C dL_law_1028 1 rfl rfl ?_
  refine j_icmp_eq 1033 1035 C dL_law_1030 (by decide) rfl (fun _ => ?_) (fun h => absurd rfl h)
  refine j_iload 1037 C dL_law_1035 1 rfl rfl ?_
  refine j_if_ne 1040 1052 C dL_law_1037 (by decide) rfl (fun _ => ?_) (fun h => absurd h (by decide))
  change JJ _ _ _ _ _ _ _ _ _ _ _ _ _ (LW g A ly (([outc g qo v] ++ cW g lay σ') ++ rW g ρ')) _ _ _ _ _
  refine j_goto 1531 C dL_law_1052 (by decide) ?_
  refine j_world (fun H h => LW_comm (lay' := ly) h) ?_
  exact j_sub [2, 3, 4, 5, 6] rfl (KK lay)
set_option maxRecDepth 100000 in
theorem lq_waiting {p : Program} {l : Launch} {e : Env} {s : State} {m : MethodId} {args : Array Value} {below : List Frame} {meth : Method} {c : Code} {Q : State → Prop} {A : Nat → Prop} {k n : Nat} {g : GG} {ly lay : Nat → Nat} {b L qo : Nat} {xs : Nat → Int32} {i : Nat} {σ σ' : CS} {ρ ρ' : RS} {v : Int64} {r : Int32} (C : KX p m c cL_law 9 s args RL) (K : KC l g A s) (hX : va_X b L xs s s.heap) (hbl : b < s.heap.size) (hbA : ¬ A b) (hi : i + 5 ≤ L) (hL : L ≤ 2560) (hF : F_X5_waiting σ (xs (i + 1)) (xs (i + 2)) (xs (i + 3)) = some (σ', .inl r)) (hM : F_X6_waiting ρ (xs (i + 1)) (xs (i + 2)) (xs (i + 3)) = some (ρ', r)) (h0 : ρ'.1 0 0 = 0) (hc : k + 0 ≤ 601024 ∧ n + 0 ≤ 7293034)
    (KK : ∀ lay : Nat → Nat, JJ p l e room_1 s m args below meth c Q A 9 (LW g A ly (rW g ρ' ++ ([outc g qo r.toInt64] ++ cW g lay σ'))) (k + 0) (n + 0) 1531 [(0, .ref b), (1, .ref (ga g 0)), (2, .ref (gm g 0)), (3, .ref qo), (4, .int (nI i))] []) : JJ p l e room_1 s m args below meth c Q A 9 (LW g A ly (rW g ρ ++ ([outc g qo v] ++ cW g lay σ))) k n 1055 [(0, .ref b), (1, .ref (ga g 0)), (2, .ref (gm g 0)), (3, .ref qo), (4, .int (nI i))] [] := by
  refine j_aload_n 1056 C dL_law_1055 1 rfl rfl ?_
  refine ls_rd 1062 C hX hbl hbA hL 1 0 4 1 dL_law_1056 dL_law_1057 dL_law_1059 dL_law_1060 dL_law_1061 nz_1 (by omega) rfl rfl rfl ?_
  refine ls_rd 1068 C hX hbl hbA hL 2 0 4 2 dL_law_1062 dL_law_1063 dL_law_1065 dL_law_1066 dL_law_1067 nz_2 (by omega) rfl rfl rfl ?_
  refine ls_rd 1074 C hX hbl hbA hL 3 0 4 3 dL_law_1068 dL_law_1069 dL_law_1071 dL_law_1072 dL_law_1073 nz_3 (by omega) rfl rfl rfl ?_
  refine j_aload_n 1075 C dL_law_1074 3 rfl rfl ?_
  refine lk_Sw (np := 5) (w0 := rW g ρ) (wx := oW g qo) (σ := (σ, v)) (σ' := (σ', r.toInt64)) (lay := lay) (As := [.ref (ga g 0), .int (xs (i + 1)), .int (xs (i + 2)), .int (xs (i + 3)), .ref qo]) (st := []) 1078 C K (fun A1 => w_L_waiting K.2.2.2 g A1 lay qo hF) mw_899 mw_97 hw_L_waiting ⟨by decide, by decide, by decide +kernel⟩ mw_898 dL_law_1075 rfl rfl (Nat.le_of_ble_eq_true rfl) ⟨Nat.le_of_ble_eq_true rfl, Nat.le_of_ble_eq_true rfl⟩ hc rfl (fun lay => ?_)
  refine j_istore 1080 C dL_law_1078 (lo' := (5, .int 0) :: [(0, .ref b), (1, .ref (ga g 0)), (2, .ref (gm g 0)), (3, .ref qo), (4, .int (nI i))]) (by decide) rfl rfl ?_
  refine j_world (fun H h => LW_comm (lay' := ly) h) ?_
  refine j_aload_n 1081 C dL_law_1080 3 rfl rfl ?_
  refine ls_rd 1087 C hX hbl hbA hL 1 1 5 1 dL_law_1081 dL_law_1082 dL_law_1084 dL_law_1085 dL_law_1086 nz_1 (by omega) rfl rfl rfl ?_
  refine ls_rd 1093 C hX hbl hbA hL 2 1 5 2 dL_law_1087 dL_law_1088 dL_law_1090 dL_law_1091 dL_law_1092 nz_2 (by omega) rfl rfl rfl ?_
  refine ls_rd 1099 C hX hbl hbA hL 3 1 5 3 dL_law_1093 dL_law_1094 dL_law_1096 dL_law_1097 dL_law_1098 nz_3 (by omega) rfl rfl rfl ?_
  refine lk_Vi (w0 := oW g qo lay (σ', r.toInt64)) (wx := rX g) (σ := ρ) (lay := lay) (As := [.int (xs (i + 1)), .int (xs (i + 2)), .int (xs (i + 3))]) (st := []) 1102 C K (fun A1 => c_X6_waiting K.2.2.2 g A1 lay hM) cp_X6_waiting (fun A1 => rv_M) mw_1289 dL_law_1099 rfl rfl (Nat.le_of_ble_eq_true rfl) ⟨Nat.le_of_ble_eq_true rfl, Nat.le_of_ble_eq_true rfl⟩ hc rfl (fun lay1 => ?_)
  refine j_istore 1104 C dL_law_1102 (lo' := (6, .int r) :: (5, .int 0) :: [(0, .ref b), (1, .ref (ga g 0)), (2, .ref (gm g 0)), (3, .ref qo), (4, .int (nI i))]) (by decide) rfl rfl ?_
  refine j_aload_n 1105 C dL_law_1104 4 rfl rfl ?_
  refine lk_Vi (w0 := oW g qo lay (σ', r.toInt64)) (wx := rX g) (σ := ρ') (lay := lay1) (As := []) (st := []) (r := 0) 1108 C K (fun A1 => c_X6_thrown K.2.2.2 g A1 lay1 (by rw [thr_eq, h0])) cp_X6_thrown (fun A1 => rv_M) mw_1070 dL_law_1105 rfl rfl (Nat.le_of_ble_eq_true rfl) ⟨Nat.le_of_ble_eq_true rfl, Nat.le_of_ble_eq_true rfl⟩ hc rfl (fun lay2 => ?_)
  refine j_iload 1110 C dL_law_1108 1 rfl rfl ?_
  refine j_icmp_eq 1113 1115 C dL_law_1110 (by decide) rfl (fun _ => ?_) (fun h => absurd rfl h)
  refine j_iload 1117 C dL_law_1115 1 rfl rfl ?_
  refine j_if_ne 1120 1132 C dL_law_1117 (by decide) rfl (fun h => absurd rfl h) (fun _ => ?_)
  refine j_aload_n 1121 C dL_law_1120 5 rfl rfl ?_
  refine j_iconst 1122 C dL_law_1121 ic_0 rfl ?_
  change JJ _ _ _ _ _ _ _ _ _ _ _ _ _ (LW g A ly (([outc g qo r.toInt64] ++ cW g lay σ') ++ rW g ρ')) _ _ _ _ _
  refine j_world (fun H h => LW_assoc.mpr h) ?_
  refine lk_lald 1123 C K dL_law_1122 rfl ?_
  refine j_world (fun H h => LW_assoc.mp h) ?_
  refine j_iload 1125 C dL_law_1123 0 rfl rfl ?_
  refine j_i2l 1126 C dL_law_1125 rfl ?_
  refine j_lcmp 1127 C dL_law_1126 rfl ?_
  refine j_if_eq 1130 1132 C dL_law_1127 (by decide) rfl (fun _ => ?_) (fun h => absurd (lg_cmp_self _) h)
  refine j_goto 1531 C dL_law_1132 (by decide) ?_
  refine j_world (fun H h => LW_comm (lay' := ly) h) ?_
  exact j_sub [2, 3, 4, 5, 6] rfl (KK lay)
set_option maxRecDepth 100000 in
theorem lq_waiting_1 {p : Program} {l : Launch} {e : Env} {s : State} {m : MethodId} {args : Array Value} {below : List Frame} {meth : Method} {c : Code} {Q : State → Prop} {A : Nat → Prop} {k n : Nat} {g : GG} {ly lay : Nat → Nat} {b L qo : Nat} {xs : Nat → Int32} {i : Nat} {σ σ' : CS} {ρ ρ' : RS} {v : Int64} {r : Int32} (C : KX p m c cL_law 9 s args RL) (K : KC l g A s) (hX : va_X b L xs s s.heap) (hbl : b < s.heap.size) (hbA : ¬ A b) (hi : i + 5 ≤ L) (hL : L ≤ 2560) (hF : F_X5_waiting σ (xs (i + 1)) (xs (i + 2)) (xs (i + 3)) = some (σ', .inr 1)) (hM : F_X6_waiting ρ (xs (i + 1)) (xs (i + 2)) (xs (i + 3)) = some (ρ', r)) (h0 : ρ'.1 0 0 = 1) (hc : k + 1 ≤ 601024 ∧ n + 6 ≤ 7293034)
    (KK : ∀ lay : Nat → Nat, JJ p l e room_1 s m args below meth c Q A 9 (LW g A ly (rW g ρ' ++ ([outc g qo v] ++ cW g lay σ'))) (k + 1) (n + 6) 1531 [(0, .ref b), (1, .ref (ga g 0)), (2, .ref (gm g 0)), (3, .ref qo), (4, .int (nI i))] []) : JJ p l e room_1 s m args below meth c Q A 9 (LW g A ly (rW g ρ ++ ([outc g qo v] ++ cW g lay σ))) k n 1055 [(0, .ref b), (1, .ref (ga g 0)), (2, .ref (gm g 0)), (3, .ref qo), (4, .int (nI i))] [] := by
  refine j_aload_n 1056 C dL_law_1055 1 rfl rfl ?_
  refine ls_rd 1062 C hX hbl hbA hL 1 0 4 1 dL_law_1056 dL_law_1057 dL_law_1059 dL_law_1060 dL_law_1061 nz_1 (by omega) rfl rfl rfl ?_
  refine ls_rd 1068 C hX hbl hbA hL 2 0 4 2 dL_law_1062 dL_law_1063 dL_law_1065 dL_law_1066 dL_law_1067 nz_2 (by omega) rfl rfl rfl ?_
  refine ls_rd 1074 C hX hbl hbA hL 3 0 4 3 dL_law_1068 dL_law_1069 dL_law_1071 dL_law_1072 dL_law_1073 nz_3 (by omega) rfl rfl rfl ?_
  refine j_aload_n 1075 C dL_law_1074 3 rfl rfl ?_
  refine lk_Sw (np := 5) (w0 := rW g ρ) (wx := oW g qo) (σ := (σ, v)) (σ' := (σ', v)) (lay := lay) (As := [.ref (ga g 0), .int (xs (i + 1)), .int (xs (i + 2)), .int (xs (i + 3)), .ref qo]) (st := []) 1078 C K (fun A1 => w_L_waiting_1 K.2.2.2 g A1 lay qo hF) mw_899 mw_97 hw_L_waiting ⟨by decide, by decide, by decide +kernel⟩ mw_898 dL_law_1075 rfl rfl (Nat.le_of_ble_eq_true rfl) ⟨Nat.le_of_ble_eq_true rfl, Nat.le_of_ble_eq_true rfl⟩ hc rfl (fun lay => ?_)
  refine j_istore 1080 C dL_law_1078 (lo' := (5, .int 1) :: [(0, .ref b), (1, .ref (ga g 0)), (2, .ref (gm g 0)), (3, .ref qo), (4, .int (nI i))]) (by decide) rfl rfl ?_
  refine j_world (fun H h => LW_comm (lay' := ly) h) ?_
  refine j_aload_n 1081 C dL_law_1080 3 rfl rfl ?_
  refine ls_rd 1087 C hX hbl hbA hL 1 1 5 1 dL_law_1081 dL_law_1082 dL_law_1084 dL_law_1085 dL_law_1086 nz_1 (by omega) rfl rfl rfl ?_
  refine ls_rd 1093 C hX hbl hbA hL 2 1 5 2 dL_law_1087 dL_law_1088 dL_law_1090 dL_law_1091 dL_law_1092 nz_2 (by omega) rfl rfl rfl ?_
  refine ls_rd 1099 C hX hbl hbA hL 3 1 5 3 dL_law_1093 dL_law_1094 dL_law_1096 dL_law_1097 dL_law_1098 nz_3 (by omega) rfl rfl rfl ?_
  refine lk_Vi (w0 := oW g qo lay (σ', v)) (wx := rX g) (σ := ρ) (lay := lay) (As := [.int (xs (i + 1)), .int (xs (i + 2)), .int (xs (i + 3))]) (st := []) 1102 C K (fun A1 => c_X6_waiting K.2.2.2 g A1 lay hM) cp_X6_waiting (fun A1 => rv_M) mw_1289 dL_law_1099 rfl rfl (Nat.le_of_ble_eq_true rfl) ⟨Nat.le_of_ble_eq_true rfl, Nat.le_of_ble_eq_true rfl⟩ hc rfl (fun lay1 => ?_)
  refine j_istore 1104 C dL_law_1102 (lo' := (6, .int r) :: (5, .int 1) :: [(0, .ref b), (1, .ref (ga g 0)), (2, .ref (gm g 0)), (3, .ref qo), (4, .int (nI i))]) (by decide) rfl rfl ?_
  refine j_aload_n 1105 C dL_law_1104 4 rfl rfl ?_
  refine lk_Vi (w0 := oW g qo lay (σ', v)) (wx := rX g) (σ := ρ') (lay := lay1) (As := []) (st := []) (r := 1) 1108 C K (fun A1 => c_X6_thrown K.2.2.2 g A1 lay1 (by rw [thr_eq, h0])) cp_X6_thrown (fun A1 => rv_M) mw_1070 dL_law_1105 rfl rfl (Nat.le_of_ble_eq_true rfl) ⟨Nat.le_of_ble_eq_true rfl, Nat.le_of_ble_eq_true rfl⟩ hc rfl (fun lay2 => ?_)
  refine j_iload 1110 C dL_law_1108 1 rfl rfl ?_
  refine j_icmp_eq 1113 1115 C dL_law_1110 (by decide) rfl (fun _ => ?_) (fun h => absurd rfl h)
  refine j_iload 1117 C dL_law_1115 1 rfl rfl ?_
  refine j_if_ne 1120 1132 C dL_law_1117 (by decide) rfl (fun _ => ?_) (fun h => absurd h (by decide))
  change JJ _ _ _ _ _ _ _ _ _ _ _ _ _ (LW g A ly (([outc g qo v] ++ cW g lay σ') ++ rW g ρ')) _ _ _ _ _
  refine j_goto 1531 C dL_law_1132 (by decide) ?_
  refine j_world (fun H h => LW_comm (lay' := ly) h) ?_
  exact j_sub [2, 3, 4, 5, 6] rfl (KK lay)
set_option maxRecDepth 100000 in
theorem lq_waiting_2 {p : Program} {l : Launch} {e : Env} {s : State} {m : MethodId} {args : Array Value} {below : List Frame} {meth : Method} {c : Code} {Q : State → Prop} {A : Nat → Prop} {k n : Nat} {g : GG} {ly lay : Nat → Nat} {b L qo : Nat} {xs : Nat → Int32} {i : Nat} {σ σ' : CS} {ρ ρ' : RS} {v : Int64} {r : Int32} (C : KX p m c cL_law 9 s args RL) (K : KC l g A s) (hX : va_X b L xs s s.heap) (hbl : b < s.heap.size) (hbA : ¬ A b) (hi : i + 5 ≤ L) (hL : L ≤ 2560) (hF : F_X5_waiting σ (xs (i + 1)) (xs (i + 2)) (xs (i + 3)) = some (σ', .inr 2)) (hM : F_X6_waiting ρ (xs (i + 1)) (xs (i + 2)) (xs (i + 3)) = some (ρ', r)) (h0 : ρ'.1 0 0 = 2) (hc : k + 1 ≤ 601024 ∧ n + 6 ≤ 7293034)
    (KK : ∀ lay : Nat → Nat, JJ p l e room_1 s m args below meth c Q A 9 (LW g A ly (rW g ρ' ++ ([outc g qo v] ++ cW g lay σ'))) (k + 1) (n + 6) 1531 [(0, .ref b), (1, .ref (ga g 0)), (2, .ref (gm g 0)), (3, .ref qo), (4, .int (nI i))] []) : JJ p l e room_1 s m args below meth c Q A 9 (LW g A ly (rW g ρ ++ ([outc g qo v] ++ cW g lay σ))) k n 1055 [(0, .ref b), (1, .ref (ga g 0)), (2, .ref (gm g 0)), (3, .ref qo), (4, .int (nI i))] [] := by
  refine j_aload_n 1056 C dL_law_1055 1 rfl rfl ?_
  refine ls_rd 1062 C hX hbl hbA hL 1 0 4 1 dL_law_1056 dL_law_1057 dL_law_1059 dL_law_1060 dL_law_1061 nz_1 (by omega) rfl rfl rfl ?_
  refine ls_rd 1068 C hX hbl hbA hL 2 0 4 2 dL_law_1062 dL_law_1063 dL_law_1065 dL_law_1066 dL_law_1067 nz_2 (by omega) rfl rfl rfl ?_
  refine ls_rd 1074 C hX hbl hbA hL 3 0 4 3 dL_law_1068 dL_law_1069 dL_law_1071 dL_law_1072 dL_law_1073 nz_3 (by omega) rfl rfl rfl ?_
  refine j_aload_n 1075 C dL_law_1074 3 rfl rfl ?_
  refine lk_Sw (np := 5) (w0 := rW g ρ) (wx := oW g qo) (σ := (σ, v)) (σ' := (σ', v)) (lay := lay) (As := [.ref (ga g 0), .int (xs (i + 1)), .int (xs (i + 2)), .int (xs (i + 3)), .ref qo]) (st := []) 1078 C K (fun A1 => w_L_waiting_2 K.2.2.2 g A1 lay qo hF) mw_899 mw_97 hw_L_waiting ⟨by decide, by decide, by decide +kernel⟩ mw_898 dL_law_1075 rfl rfl (Nat.le_of_ble_eq_true rfl) ⟨Nat.le_of_ble_eq_true rfl, Nat.le_of_ble_eq_true rfl⟩ hc rfl (fun lay => ?_)
  refine j_istore 1080 C dL_law_1078 (lo' := (5, .int 2) :: [(0, .ref b), (1, .ref (ga g 0)), (2, .ref (gm g 0)), (3, .ref qo), (4, .int (nI i))]) (by decide) rfl rfl ?_
  refine j_world (fun H h => LW_comm (lay' := ly) h) ?_
  refine j_aload_n 1081 C dL_law_1080 3 rfl rfl ?_
  refine ls_rd 1087 C hX hbl hbA hL 1 1 5 1 dL_law_1081 dL_law_1082 dL_law_1084 dL_law_1085 dL_law_1086 nz_1 (by omega) rfl rfl rfl ?_
  refine ls_rd 1093 C hX hbl hbA hL 2 1 5 2 dL_law_1087 dL_law_1088 dL_law_1090 dL_law_1091 dL_law_1092 nz_2 (by omega) rfl rfl rfl ?_
  refine ls_rd 1099 C hX hbl hbA hL 3 1 5 3 dL_law_1093 dL_law_1094 dL_law_1096 dL_law_1097 dL_law_1098 nz_3 (by omega) rfl rfl rfl ?_
  refine lk_Vi (w0 := oW g qo lay (σ', v)) (wx := rX g) (σ := ρ) (lay := lay) (As := [.int (xs (i + 1)), .int (xs (i + 2)), .int (xs (i + 3))]) (st := []) 1102 C K (fun A1 => c_X6_waiting K.2.2.2 g A1 lay hM) cp_X6_waiting (fun A1 => rv_M) mw_1289 dL_law_1099 rfl rfl (Nat.le_of_ble_eq_true rfl) ⟨Nat.le_of_ble_eq_true rfl, Nat.le_of_ble_eq_true rfl⟩ hc rfl (fun lay1 => ?_)
  refine j_istore 1104 C dL_law_1102 (lo' := (6, .int r) :: (5, .int 2) :: [(0, .ref b), (1, .ref (ga g 0)), (2, .ref (gm g 0)), (3, .ref qo), (4, .int (nI i))]) (by decide) rfl rfl ?_
  refine j_aload_n 1105 C dL_law_1104 4 rfl rfl ?_
  refine lk_Vi (w0 := oW g qo lay (σ', v)) (wx := rX g) (σ := ρ') (lay := lay1) (As := []) (st := []) (r := 2) 1108 C K (fun A1 => c_X6_thrown K.2.2.2 g A1 lay1 (by rw [thr_eq, h0])) cp_X6_thrown (fun A1 => rv_M) mw_1070 dL_law_1105 rfl rfl (Nat.le_of_ble_eq_true rfl) ⟨Nat.le_of_ble_eq_true rfl, Nat.le_of_ble_eq_true rfl⟩ hc rfl (fun lay2 => ?_)
  refine j_iload 1110 C dL_law_1108 1 rfl rfl ?_
  refine j_icmp_eq 1113 1115 C dL_law_1110 (by decide) rfl (fun _ => ?_) (fun h => absurd rfl h)
  refine j_iload 1117 C dL_law_1115 1 rfl rfl ?_
  refine j_if_ne 1120 1132 C dL_law_1117 (by decide) rfl (fun _ => ?_) (fun h => absurd h (by decide))
  change JJ _ _ _ _ _ _ _ _ _ _ _ _ _ (LW g A ly (([outc g qo v] ++ cW g lay σ') ++ rW g ρ')) _ _ _ _ _
  refine j_goto 1531 C dL_law_1132 (by decide) ?_
  refine j_world (fun H h => LW_comm (lay' := ly) h) ?_
  exact j_sub [2, 3, 4, 5, 6] rfl (KK lay)
set_option maxRecDepth 100000 in
theorem lq_slot {p : Program} {l : Launch} {e : Env} {s : State} {m : MethodId} {args : Array Value} {below : List Frame} {meth : Method} {c : Code} {Q : State → Prop} {A : Nat → Prop} {k n : Nat} {g : GG} {ly lay : Nat → Nat} {b L qo : Nat} {xs : Nat → Int32} {i : Nat} {σ σ' : CS} {ρ ρ' : RS} {v : Int64} {r : Int32} (C : KX p m c cL_law 9 s args RL) (K : KC l g A s) (hX : va_X b L xs s s.heap) (hbl : b < s.heap.size) (hbA : ¬ A b) (hi : i + 5 ≤ L) (hL : L ≤ 2560) (hF : F_X5_slot σ (xs (i + 1)) (xs (i + 2)) = some (σ', .inl r)) (hM : F_X6_slot ρ (xs (i + 1)) (xs (i + 2)) = some (ρ', r)) (h0 : ρ'.1 0 0 = 0) (hc : k + 0 ≤ 601024 ∧ n + 0 ≤ 7293034)
    (KK : ∀ lay : Nat → Nat, JJ p l e room_1 s m args below meth c Q A 9 (LW g A ly (rW g ρ' ++ ([outc g qo r.toInt64] ++ cW g lay σ'))) (k + 0) (n + 0) 1531 [(0, .ref b), (1, .ref (ga g 0)), (2, .ref (gm g 0)), (3, .ref qo), (4, .int (nI i))] []) : JJ p l e room_1 s m args below meth c Q A 9 (LW g A ly (rW g ρ ++ ([outc g qo v] ++ cW g lay σ))) k n 1135 [(0, .ref b), (1, .ref (ga g 0)), (2, .ref (gm g 0)), (3, .ref qo), (4, .int (nI i))] [] := by
  refine j_aload_n 1136 C dL_law_1135 1 rfl rfl ?_
  refine ls_rd 1142 C hX hbl hbA hL 1 0 4 1 dL_law_1136 dL_law_1137 dL_law_1139 dL_law_1140 dL_law_1141 nz_1 (by omega) rfl rfl rfl ?_
  refine ls_rd 1148 C hX hbl hbA hL 2 0 4 2 dL_law_1142 dL_law_1143 dL_law_1145 dL_law_1146 dL_law_1147 nz_2 (by omega) rfl rfl rfl ?_
  refine j_aload_n 1149 C dL_law_1148 3 rfl rfl ?_
  refine lk_Sw (np := 4) (w0 := rW g ρ) (wx := oW g qo) (σ := (σ, v)) (σ' := (σ', r.toInt64)) (lay := lay) (As := [.ref (ga g 0), .int (xs (i + 1)), .int (xs (i + 2)), .ref qo]) (st := []) 1152 C K (fun A1 => w_L_slot K.2.2.2 g A1 lay qo hF) mw_903 mw_97 hw_L_slot ⟨by decide, by decide, by decide +kernel⟩ mw_902 dL_law_1149 rfl rfl (Nat.le_of_ble_eq_true rfl) ⟨Nat.le_of_ble_eq_true rfl, Nat.le_of_ble_eq_true rfl⟩ hc rfl (fun lay => ?_)
  refine j_istore 1154 C dL_law_1152 (lo' := (5, .int 0) :: [(0, .ref b), (1, .ref (ga g 0)), (2, .ref (gm g 0)), (3, .ref qo), (4, .int (nI i))]) (by decide) rfl rfl ?_
  refine j_world (fun H h => LW_comm (lay' := ly) h) ?_
  refine j_aload_n 1155 C dL_law_1154 3 rfl rfl ?_
  refine ls_rd 1161 C hX hbl hbA hL 1 1 5 1 dL_law_1155 dL_law_1156 dL_law_1158 dL_law_1159 dL_law_1160 nz_1 (by omega) rfl rfl rfl ?_
  refine ls_rd 1167 C hX hbl hbA hL 2 1 5 2 dL_law_1161 dL_law_1162 dL_law_1164 dL_law_1165 dL_law_1166 nz_2 (by omega) rfl rfl rfl ?_
  refine lk_Vi (w0 := oW g qo lay (σ', r.toInt64)) (wx := rX g) (σ := ρ) (lay := lay) (As := [.int (xs (i + 1)), .int (xs (i + 2))]) (st := []) 1170 C K (fun A1 => c_X6_slot K.2.2.2 g A1 lay hM) cp_X6_slot (fun A1 => rv_M) mw_1297 dL_law_1167 rfl rfl (Nat.le_of_ble_eq_true rfl) ⟨Nat.le_of_ble_eq_true rfl, Nat.le_of_ble_eq_true rfl⟩ hc rfl (fun lay1 => ?_)
  refine j_istore 1172 C dL_law_1170 (lo' := (6, .int r) :: (5, .int 0) :: [(0, .ref b), (1, .ref (ga g 0)), (2, .ref (gm g 0)), (3, .ref qo), (4, .int (nI i))]) (by decide) rfl rfl ?_
  refine j_aload_n 1173 C dL_law_1172 4 rfl rfl ?_
  refine lk_Vi (w0 := oW g qo lay (σ', r.toInt64)) (wx := rX g) (σ := ρ') (lay := lay1) (As := []) (st := []) (r := 0) 1176 C K (fun A1 => c_X6_thrown K.2.2.2 g A1 lay1 (by rw [thr_eq, h0])) cp_X6_thrown (fun A1 => rv_M) mw_1070 dL_law_1173 rfl rfl (Nat.le_of_ble_eq_true rfl) ⟨Nat.le_of_ble_eq_true rfl, Nat.le_of_ble_eq_true rfl⟩ hc rfl (fun lay2 => ?_)
  refine j_iload 1178 C dL_law_1176 1 rfl rfl ?_
  refine j_icmp_eq 1181 1183 C dL_law_1178 (by decide) rfl (fun _ => ?_) (fun h => absurd rfl h)
  refine j_iload 1185 C dL_law_1183 1 rfl rfl ?_
  refine j_if_ne 1188 1200 C dL_law_1185 (by decide) rfl (fun h => absurd rfl h) (fun _ => ?_)
  refine j_aload_n 1189 C dL_law_1188 5 rfl rfl ?_
  refine j_iconst 1190 C dL_law_1189 ic_0 rfl ?_
  change JJ _ _ _ _ _ _ _ _ _ _ _ _ _ (LW g A ly (([outc g qo r.toInt64] ++ cW g lay σ') ++ rW g ρ')) _ _ _ _ _
  refine j_world (fun H h => LW_assoc.mpr h) ?_
  refine lk_lald 1191 C K dL_law_1190 rfl ?_
  refine j_world (fun H h => LW_assoc.mp h) ?_
  refine j_iload 1193 C dL_law_1191 0 rfl rfl ?_
  refine j_i2l 1194 C dL_law_1193 rfl ?_
  refine j_lcmp 1195 C dL_law_1194 rfl ?_
  refine j_if_eq 1198 1200 C dL_law_1195 (by decide) rfl (fun _ => ?_) (fun h => absurd (lg_cmp_self _) h)
  refine j_goto 1531 C dL_law_1200 (by decide) ?_
  refine j_world (fun H h => LW_comm (lay' := ly) h) ?_
  exact j_sub [2, 3, 4, 5, 6] rfl (KK lay)
set_option maxRecDepth 100000 in
theorem lq_slot_1 {p : Program} {l : Launch} {e : Env} {s : State} {m : MethodId} {args : Array Value} {below : List Frame} {meth : Method} {c : Code} {Q : State → Prop} {A : Nat → Prop} {k n : Nat} {g : GG} {ly lay : Nat → Nat} {b L qo : Nat} {xs : Nat → Int32} {i : Nat} {σ σ' : CS} {ρ ρ' : RS} {v : Int64} {r : Int32} (C : KX p m c cL_law 9 s args RL) (K : KC l g A s) (hX : va_X b L xs s s.heap) (hbl : b < s.heap.size) (hbA : ¬ A b) (hi : i + 5 ≤ L) (hL : L ≤ 2560) (hF : F_X5_slot σ (xs (i + 1)) (xs (i + 2)) = some (σ', .inr 1)) (hM : F_X6_slot ρ (xs (i + 1)) (xs (i + 2)) = some (ρ', r)) (h0 : ρ'.1 0 0 = 1) (hc : k + 1 ≤ 601024 ∧ n + 6 ≤ 7293034)
    (KK : ∀ lay : Nat → Nat, JJ p l e room_1 s m args below meth c Q A 9 (LW g A ly (rW g ρ' ++ ([outc g qo v] ++ cW g lay σ'))) (k + 1) (n + 6) 1531 [(0, .ref b), (1, .ref (ga g 0)), (2, .ref (gm g 0)), (3, .ref qo), (4, .int (nI i))] []) : JJ p l e room_1 s m args below meth c Q A 9 (LW g A ly (rW g ρ ++ ([outc g qo v] ++ cW g lay σ))) k n 1135 [(0, .ref b), (1, .ref (ga g 0)), (2, .ref (gm g 0)), (3, .ref qo), (4, .int (nI i))] [] := by
  refine j_aload_n 1136 C dL_law_1135 1 rfl rfl ?_
  refine ls_rd 1142 C hX hbl hbA hL 1 0 4 1 dL_law_1136 dL_law_1137 dL_law_1139 dL_law_1140 dL_law_1141 nz_1 (by omega) rfl rfl rfl ?_
  refine ls_rd 1148 C hX hbl hbA hL 2 0 4 2 dL_law_1142 dL_law_1143 dL_law_1145 dL_law_1146 dL_law_1147 nz_2 (by omega) rfl rfl rfl ?_
  refine j_aload_n 1149 C dL_law_1148 3 rfl rfl ?_
  refine lk_Sw (np := 4) (w0 := rW g ρ) (wx := oW g qo) (σ := (σ, v)) (σ' := (σ', v)) (lay := lay) (As := [.ref (ga g 0), .int (xs (i + 1)), .int (xs (i + 2)), .ref qo]) (st := []) 1152 C K (fun A1 => w_L_slot_1 K.2.2.2 g A1 lay qo hF) mw_903 mw_97 hw_L_slot ⟨by decide, by decide, by decide +kernel⟩ mw_902 dL_law_1149 rfl rfl (Nat.le_of_ble_eq_true rfl) ⟨Nat.le_of_ble_eq_true rfl, Nat.le_of_ble_eq_true rfl⟩ hc rfl (fun lay => ?_)
  refine j_istore 1154 C dL_law_1152 (lo' := (5, .int 1) :: [(0, .ref b), (1, .ref (ga g 0)), (2, .ref (gm g 0)), (3, .ref qo), (4, .int (nI i))]) (by decide) rfl rfl ?_
  refine j_world (fun H h => LW_comm (lay' := ly) h) ?_
  refine j_aload_n 1155 C dL_law_1154 3 rfl rfl ?_
  refine ls_rd 1161 C hX hbl hbA hL 1 1 5 1 dL_law_1155 dL_law_1156 dL_law_1158 dL_law_1159 dL_law_1160 nz_1 (by omega) rfl rfl rfl ?_
  refine ls_rd 1167 C hX hbl hbA hL 2 1 5 2 dL_law_1161 dL_law_1162 dL_law_1164 dL_law_1165 dL_law_1166 nz_2 (by omega) rfl rfl rfl ?_
  refine lk_Vi (w0 := oW g qo lay (σ', v)) (wx := rX g) (σ := ρ) (lay := lay) (As := [.int (xs (i + 1)), .int (xs (i + 2))]) (st := []) 1170 C K (fun A1 => c_X6_slot K.2.2.2 g A1 lay hM) cp_X6_slot (fun A1 => rv_M) mw_1297 dL_law_1167 rfl rfl (Nat.le_of_ble_eq_true rfl) ⟨Nat.le_of_ble_eq_true rfl, Nat.le_of_ble_eq_true rfl⟩ hc rfl (fun lay1 => ?_)
  refine j_istore 1172 C dL_law_1170 (lo' := (6, .int r) :: (5, .int 1) :: [(0, .ref b), (1, .ref (ga g 0)), (2, .ref (gm g 0)), (3, .ref qo), (4, .int (nI i))]) (by decide) rfl rfl ?_
  refine j_aload_n 1173 C dL_law_1172 4 rfl rfl ?_
  refine lk_Vi (w0 := oW g qo lay (σ', v)) (wx := rX g) (σ := ρ') (lay := lay1) (As := []) (st := []) (r := 1) 1176 C K (fun A1 => c_X6_thrown K.2.2.2 g A1 lay1 (by rw [thr_eq, h0])) cp_X6_thrown (fun A1 => rv_M) mw_1070 dL_law_1173 rfl rfl (Nat.le_of_ble_eq_true rfl) ⟨Nat.le_of_ble_eq_true rfl, Nat.le_of_ble_eq_true rfl⟩ hc rfl (fun lay2 => ?_)
  refine j_iload 1178 C dL_law_1176 1 rfl rfl ?_
  refine j_icmp_eq 1181 1183 C dL_law_1178 (by decide) rfl (fun _ => ?_) (fun h => absurd rfl h)
  refine j_iload 1185 C dL_law_1183 1 rfl rfl ?_
  refine j_if_ne 1188 1200 C dL_law_1185 (by decide) rfl (fun _ => ?_) (fun h => absurd h (by decide))
  change JJ _ _ _ _ _ _ _ _ _ _ _ _ _ (LW g A ly (([outc g qo v] ++ cW g lay σ') ++ rW g ρ')) _ _ _ _ _
  refine j_goto 1531 C dL_law_1200 (by decide) ?_
  refine j_world (fun H h => LW_comm (lay' := ly) h) ?_
  exact j_sub [2, 3, 4, 5, 6] rfl (KK lay)
set_option maxRecDepth 100000 in
theorem lq_slot_2 {p : Program} {l : Launch} {e : Env} {s : State} {m : MethodId} {args : Array Value} {below : List Frame} {meth : Method} {c : Code} {Q : State → Prop} {A : Nat → Prop} {k n : Nat} {g : GG} {ly lay : Nat → Nat} {b L qo : Nat} {xs : Nat → Int32} {i : Nat} {σ σ' : CS} {ρ ρ' : RS} {v : Int64} {r : Int32} (C : KX p m c cL_law 9 s args RL) (K : KC l g A s) (hX : va_X b L xs s s.heap) (hbl : b < s.heap.size) (hbA : ¬ A b) (hi : i + 5 ≤ L) (hL : L ≤ 2560) (hF : F_X5_slot σ (xs (i + 1)) (xs (i + 2)) = some (σ', .inr 2)) (hM : F_X6_slot ρ (xs (i + 1)) (xs (i + 2)) = some (ρ', r)) (h0 : ρ'.1 0 0 = 2) (hc : k + 1 ≤ 601024 ∧ n + 6 ≤ 7293034)
    (KK : ∀ lay : Nat → Nat, JJ p l e room_1 s m args below meth c Q A 9 (LW g A ly (rW g ρ' ++ ([outc g qo v] ++ cW g lay σ'))) (k + 1) (n + 6) 1531 [(0, .ref b), (1, .ref (ga g 0)), (2, .ref (gm g 0)), (3, .ref qo), (4, .int (nI i))] []) : JJ p l e room_1 s m args below meth c Q A 9 (LW g A ly (rW g ρ ++ ([outc g qo v] ++ cW g lay σ))) k n 1135 [(0, .ref b), (1, .ref (ga g 0)), (2, .ref (gm g 0)), (3, .ref qo), (4, .int (nI i))] [] := by
  refine j_aload_n 1136 C dL_law_1135 1 rfl rfl ?_
  refine ls_rd 1142 C hX hbl hbA hL 1 0 4 1 dL_law_1136 dL_law_1137 dL_law_1139 dL_law_1140 dL_law_1141 nz_1 (by omega) rfl rfl rfl ?_
  refine ls_rd 1148 C hX hbl hbA hL 2 0 4 2 dL_law_1142 dL_law_1143 dL_law_1145 dL_law_1146 dL_law_1147 nz_2 (by omega) rfl rfl rfl ?_
  refine j_aload_n 1149 C dL_law_1148 3 rfl rfl ?_
  refine lk_Sw (np := 4) (w0 := rW g ρ) (wx := oW g qo) (σ := (σ, v)) (σ' := (σ', v)) (lay := lay) (As := [.ref (ga g 0), .int (xs (i + 1)), .int (xs (i + 2)), .ref qo]) (st := []) 1152 C K (fun A1 => w_L_slot_2 K.2.2.2 g A1 lay qo hF) mw_903 mw_97 hw_L_slot ⟨by decide, by decide, by decide +kernel⟩ mw_902 dL_law_1149 rfl rfl (Nat.le_of_ble_eq_true rfl) ⟨Nat.le_of_ble_eq_true rfl, Nat.le_of_ble_eq_true rfl⟩ hc rfl (fun lay => ?_)
  refine j_istore 1154 C dL_law_1152 (lo' := (5, .int 2) :: [(0, .ref b), (1, .ref (ga g 0)), (2, .ref (gm g 0)), (3, .ref qo), (4, .int (nI i))]) (by decide) rfl rfl ?_
  refine j_world (fun H h => LW_comm (lay' := ly) h) ?_
  refine j_aload_n 1155 C dL_law_1154 3 rfl rfl ?_
  refine ls_rd 1161 C hX hbl hbA hL 1 1 5 1 dL_law_1155 dL_law_1156 dL_law_1158 dL_law_1159 dL_law_1160 nz_1 (by omega) rfl rfl rfl ?_
  refine ls_rd 1167 C hX hbl hbA hL 2 1 5 2 dL_law_1161 dL_law_1162 dL_law_1164 dL_law_1165 dL_law_1166 nz_2 (by omega) rfl rfl rfl ?_
  refine lk_Vi (w0 := oW g qo lay (σ', v)) (wx := rX g) (σ := ρ) (lay := lay) (As := [.int (xs (i + 1)), .int (xs (i + 2))]) (st := []) 1170 C K (fun A1 => c_X6_slot K.2.2.2 g A1 lay hM) cp_X6_slot (fun A1 => rv_M) mw_1297 dL_law_1167 rfl rfl (Nat.le_of_ble_eq_true rfl) ⟨Nat.le_of_ble_eq_true rfl, Nat.le_of_ble_eq_true rfl⟩ hc rfl (fun lay1 => ?_)
  refine j_istore 1172 C dL_law_1170 (lo' := (6, .int r) :: (5, .int 2) :: [(0, .ref b), (1, .ref (ga g 0)), (2, .ref (gm g 0)), (3, .ref qo), (4, .int (nI i))]) (by decide) rfl rfl ?_
  refine j_aload_n 1173 C dL_law_1172 4 rfl rfl ?_
  refine lk_Vi (w0 := oW g qo lay (σ', v)) (wx := rX g) (σ := ρ') (lay := lay1) (As := []) (st := []) (r := 2) 1176 C K (fun A1 => c_X6_thrown K.2.2.2 g A1 lay1 (by rw [thr_eq, h0])) cp_X6_thrown (fun A1 => rv_M) mw_1070 dL_law_1173 rfl rfl (Nat.le_of_ble_eq_true rfl) ⟨Nat.le_of_ble_eq_true rfl, Nat.le_of_ble_eq_true rfl⟩ hc rfl (fun lay2 => ?_)
  refine j_iload 1178 C dL_law_1176 1 rfl rfl ?_
  refine j_icmp_eq 1181 1183 C dL_law_1178 (by decide) rfl (fun _ => ?_) (fun h => absurd rfl h)
  refine j_iload 1185 C dL_law_1183 1 rfl rfl ?_
  refine j_if_ne 1188 1200 C dL_law_1185 (by decide) rfl (fun _ => ?_) (fun h => absurd h (by decide))
  change JJ _ _ _ _ _ _ _ _ _ _ _ _ _ (LW g A ly (([outc g qo v] ++ cW g lay σ') ++ rW g ρ')) _ _ _ _ _
  refine j_goto 1531 C dL_law_1200 (by decide) ?_
  refine j_world (fun H h => LW_comm (lay' := ly) h) ?_
  exact j_sub [2, 3, 4, 5, 6] rfl (KK lay)
set_option maxRecDepth 100000 in
theorem lq_roundValue {p : Program} {l : Launch} {e : Env} {s : State} {m : MethodId} {args : Array Value} {below : List Frame} {meth : Method} {c : Code} {Q : State → Prop} {A : Nat → Prop} {k n : Nat} {g : GG} {ly lay : Nat → Nat} {b L qo : Nat} {xs : Nat → Int32} {i : Nat} {σ σ' : CS} {ρ ρ' : RS} {v : Int64} {r : Int32} (C : KX p m c cL_law 9 s args RL) (K : KC l g A s) (hX : va_X b L xs s s.heap) (hbl : b < s.heap.size) (hbA : ¬ A b) (hi : i + 5 ≤ L) (hL : L ≤ 2560) (hF : F_X5_roundValue σ (xs (i + 1)) (xs (i + 2)) = some (σ', .inl r)) (hM : F_X6_roundValue ρ (xs (i + 1)) (xs (i + 2)) = some (ρ', r)) (h0 : ρ'.1 0 0 = 0) (hc : k + 0 ≤ 601024 ∧ n + 0 ≤ 7293034)
    (KK : ∀ lay : Nat → Nat, JJ p l e room_1 s m args below meth c Q A 9 (LW g A ly (rW g ρ' ++ ([outc g qo r.toInt64] ++ cW g lay σ'))) (k + 0) (n + 0) 1531 [(0, .ref b), (1, .ref (ga g 0)), (2, .ref (gm g 0)), (3, .ref qo), (4, .int (nI i))] []) : JJ p l e room_1 s m args below meth c Q A 9 (LW g A ly (rW g ρ ++ ([outc g qo v] ++ cW g lay σ))) k n 1203 [(0, .ref b), (1, .ref (ga g 0)), (2, .ref (gm g 0)), (3, .ref qo), (4, .int (nI i))] [] := by
  refine j_aload_n 1204 C dL_law_1203 1 rfl rfl ?_
  refine ls_rd 1210 C hX hbl hbA hL 1 0 4 1 dL_law_1204 dL_law_1205 dL_law_1207 dL_law_1208 dL_law_1209 nz_1 (by omega) rfl rfl rfl ?_
  refine ls_rd 1216 C hX hbl hbA hL 2 0 4 2 dL_law_1210 dL_law_1211 dL_law_1213 dL_law_1214 dL_law_1215 nz_2 (by omega) rfl rfl rfl ?_
  refine j_aload_n 1217 C dL_law_1216 3 rfl rfl ?_
  refine lk_Sw (np := 4) (w0 := rW g ρ) (wx := oW g qo) (σ := (σ, v)) (σ' := (σ', r.toInt64)) (lay := lay) (As := [.ref (ga g 0), .int (xs (i + 1)), .int (xs (i + 2)), .ref qo]) (st := []) 1220 C K (fun A1 => w_L_roundValue K.2.2.2 g A1 lay qo hF) mw_907 mw_97 hw_L_roundValue ⟨by decide, by decide, by decide +kernel⟩ mw_906 dL_law_1217 rfl rfl (Nat.le_of_ble_eq_true rfl) ⟨Nat.le_of_ble_eq_true rfl, Nat.le_of_ble_eq_true rfl⟩ hc rfl (fun lay => ?_)
  refine j_istore 1222 C dL_law_1220 (lo' := (5, .int 0) :: [(0, .ref b), (1, .ref (ga g 0)), (2, .ref (gm g 0)), (3, .ref qo), (4, .int (nI i))]) (by decide) rfl rfl ?_
  refine j_world (fun H h => LW_comm (lay' := ly) h) ?_
  refine j_aload_n 1223 C dL_law_1222 3 rfl rfl ?_
  refine ls_rd 1229 C hX hbl hbA hL 1 1 5 1 dL_law_1223 dL_law_1224 dL_law_1226 dL_law_1227 dL_law_1228 nz_1 (by omega) rfl rfl rfl ?_
  refine ls_rd 1235 C hX hbl hbA hL 2 1 5 2 dL_law_1229 dL_law_1230 dL_law_1232 dL_law_1233 dL_law_1234 nz_2 (by omega) rfl rfl rfl ?_
  refine lk_Vi (w0 := oW g qo lay (σ', r.toInt64)) (wx := rX g) (σ := ρ) (lay := lay) (As := [.int (xs (i + 1)), .int (xs (i + 2))]) (st := []) 1238 C K (fun A1 => c_X6_roundValue K.2.2.2 g A1 lay hM) cp_X6_roundValue (fun A1 => rv_M) mw_1321 dL_law_1235 rfl rfl (Nat.le_of_ble_eq_true rfl) ⟨Nat.le_of_ble_eq_true rfl, Nat.le_of_ble_eq_true rfl⟩ hc rfl (fun lay1 => ?_)
  refine j_istore 1240 C dL_law_1238 (lo' := (6, .int r) :: (5, .int 0) :: [(0, .ref b), (1, .ref (ga g 0)), (2, .ref (gm g 0)), (3, .ref qo), (4, .int (nI i))]) (by decide) rfl rfl ?_
  refine j_aload_n 1241 C dL_law_1240 4 rfl rfl ?_
  refine lk_Vi (w0 := oW g qo lay (σ', r.toInt64)) (wx := rX g) (σ := ρ') (lay := lay1) (As := []) (st := []) (r := 0) 1244 C K (fun A1 => c_X6_thrown K.2.2.2 g A1 lay1 (by rw [thr_eq, h0])) cp_X6_thrown (fun A1 => rv_M) mw_1070 dL_law_1241 rfl rfl (Nat.le_of_ble_eq_true rfl) ⟨Nat.le_of_ble_eq_true rfl, Nat.le_of_ble_eq_true rfl⟩ hc rfl (fun lay2 => ?_)
  refine j_iload 1246 C dL_law_1244 1 rfl rfl ?_
  refine j_icmp_eq 1249 1251 C dL_law_1246 (by decide) rfl (fun _ => ?_) (fun h => absurd rfl h)
  refine j_iload 1253 C dL_law_1251 1 rfl rfl ?_
  refine j_if_ne 1256 1268 C dL_law_1253 (by decide) rfl (fun h => absurd rfl h) (fun _ => ?_)
  refine j_aload_n 1257 C dL_law_1256 5 rfl rfl ?_
  refine j_iconst 1258 C dL_law_1257 ic_0 rfl ?_
  change JJ _ _ _ _ _ _ _ _ _ _ _ _ _ (LW g A ly (([outc g qo r.toInt64] ++ cW g lay σ') ++ rW g ρ')) _ _ _ _ _
  refine j_world (fun H h => LW_assoc.mpr h) ?_
  refine lk_lald 1259 C K dL_law_1258 rfl ?_
  refine j_world (fun H h => LW_assoc.mp h) ?_
  refine j_iload 1261 C dL_law_1259 0 rfl rfl ?_
  refine j_i2l 1262 C dL_law_1261 rfl ?_
  refine j_lcmp 1263 C dL_law_1262 rfl ?_
  refine j_if_eq 1266 1268 C dL_law_1263 (by decide) rfl (fun _ => ?_) (fun h => absurd (lg_cmp_self _) h)
  refine j_goto 1531 C dL_law_1268 (by decide) ?_
  refine j_world (fun H h => LW_comm (lay' := ly) h) ?_
  exact j_sub [2, 3, 4, 5, 6] rfl (KK lay)
set_option maxRecDepth 100000 in
theorem lq_roundValue_1 {p : Program} {l : Launch} {e : Env} {s : State} {m : MethodId} {args : Array Value} {below : List Frame} {meth : Method} {c : Code} {Q : State → Prop} {A : Nat → Prop} {k n : Nat} {g : GG} {ly lay : Nat → Nat} {b L qo : Nat} {xs : Nat → Int32} {i : Nat} {σ σ' : CS} {ρ ρ' : RS} {v : Int64} {r : Int32} (C : KX p m c cL_law 9 s args RL) (K : KC l g A s) (hX : va_X b L xs s s.heap) (hbl : b < s.heap.size) (hbA : ¬ A b) (hi : i + 5 ≤ L) (hL : L ≤ 2560) (hF : F_X5_roundValue σ (xs (i + 1)) (xs (i + 2)) = some (σ', .inr 1)) (hM : F_X6_roundValue ρ (xs (i + 1)) (xs (i + 2)) = some (ρ', r)) (h0 : ρ'.1 0 0 = 1) (hc : k + 1 ≤ 601024 ∧ n + 6 ≤ 7293034)
    (KK : ∀ lay : Nat → Nat, JJ p l e room_1 s m args below meth c Q A 9 (LW g A ly (rW g ρ' ++ ([outc g qo v] ++ cW g lay σ'))) (k + 1) (n + 6) 1531 [(0, .ref b), (1, .ref (ga g 0)), (2, .ref (gm g 0)), (3, .ref qo), (4, .int (nI i))] []) : JJ p l e room_1 s m args below meth c Q A 9 (LW g A ly (rW g ρ ++ ([outc g qo v] ++ cW g lay σ))) k n 1203 [(0, .ref b), (1, .ref (ga g 0)), (2, .ref (gm g 0)), (3, .ref qo), (4, .int (nI i))] [] := by
  refine j_aload_n 1204 C dL_law_1203 1 rfl rfl ?_
  refine ls_rd 1210 C hX hbl hbA hL 1 0 4 1 dL_law_1204 dL_law_1205 dL_law_1207 dL_law_1208 dL_law_1209 nz_1 (by omega) rfl rfl rfl ?_
  refine ls_rd 1216 C hX hbl hbA hL 2 0 4 2 dL_law_1210 dL_law_1211 dL_law_1213 dL_law_1214 dL_law_1215 nz_2 (by omega) rfl rfl rfl ?_
  refine j_aload_n 1217 C dL_law_1216 3 rfl rfl ?_
  refine lk_Sw (np := 4) (w0 := rW g ρ) (wx := oW g qo) (σ := (σ, v)) (σ' := (σ', v)) (lay := lay) (As := [.ref (ga g 0), .int (xs (i + 1)), .int (xs (i + 2)), .ref qo]) (st := []) 1220 C K (fun A1 => w_L_roundValue_1 K.2.2.2 g A1 lay qo hF) mw_907 mw_97 hw_L_roundValue ⟨by decide, by decide, by decide +kernel⟩ mw_906 dL_law_1217 rfl rfl (Nat.le_of_ble_eq_true rfl) ⟨Nat.le_of_ble_eq_true rfl, Nat.le_of_ble_eq_true rfl⟩ hc rfl (fun lay => ?_)
  refine j_istore 1222 C dL_law_1220 (lo' := (5, .int 1) :: [(0, .ref b), (1, .ref (ga g 0)), (2, .ref (gm g 0)), (3, .ref qo), (4, .int (nI i))]) (by decide) rfl rfl ?_
  refine j_world (fun H h => LW_comm (lay' := ly) h) ?_
  refine j_aload_n 1223 C dL_law_1222 3 rfl rfl ?_
  refine ls_rd 1229 C hX hbl hbA hL 1 1 5 1 dL_law_1223 dL_law_1224 dL_law_1226 dL_law_1227 dL_law_1228 nz_1 (by omega) rfl rfl rfl ?_
  refine ls_rd 1235 C hX hbl hbA hL 2 1 5 2 dL_law_1229 dL_law_1230 dL_law_1232 dL_law_1233 dL_law_1234 nz_2 (by omega) rfl rfl rfl ?_
  refine lk_Vi (w0 := oW g qo lay (σ', v)) (wx := rX g) (σ := ρ) (lay := lay) (As := [.int (xs (i + 1)), .int (xs (i + 2))]) (st := []) 1238 C K (fun A1 => c_X6_roundValue K.2.2.2 g A1 lay hM) cp_X6_roundValue (fun A1 => rv_M) mw_1321 dL_law_1235 rfl rfl (Nat.le_of_ble_eq_true rfl) ⟨Nat.le_of_ble_eq_true rfl, Nat.le_of_ble_eq_true rfl⟩ hc rfl (fun lay1 => ?_)
  refine j_istore 1240 C dL_law_1238 (lo' := (6, .int r) :: (5, .int 1) :: [(0, .ref b), (1, .ref (ga g 0)), (2, .ref (gm g 0)), (3, .ref qo), (4, .int (nI i))]) (by decide) rfl rfl ?_
  refine j_aload_n 1241 C dL_law_1240 4 rfl rfl ?_
  refine lk_Vi (w0 := oW g qo lay (σ', v)) (wx := rX g) (σ := ρ') (lay := lay1) (As := []) (st := []) (r := 1) 1244 C K (fun A1 => c_X6_thrown K.2.2.2 g A1 lay1 (by rw [thr_eq, h0])) cp_X6_thrown (fun A1 => rv_M) mw_1070 dL_law_1241 rfl rfl (Nat.le_of_ble_eq_true rfl) ⟨Nat.le_of_ble_eq_true rfl, Nat.le_of_ble_eq_true rfl⟩ hc rfl (fun lay2 => ?_)
  refine j_iload 1246 C dL_law_1244 1 rfl rfl ?_
  refine j_icmp_eq 1249 1251 C dL_law_1246 (by decide) rfl (fun _ => ?_) (fun h => absurd rfl h)
  refine j_iload 1253 C dL_law_1251 1 rfl rfl ?_
  refine j_if_ne 1256 1268 C dL_law_1253 (by decide) rfl (fun _ => ?_) (fun h => absurd h (by decide))
  change JJ _ _ _ _ _ _ _ _ _ _ _ _ _ (LW g A ly (([outc g qo v] ++ cW g lay σ') ++ rW g ρ')) _ _ _ _ _
  refine j_goto 1531 C dL_law_1268 (by decide) ?_
  refine j_world (fun H h => LW_comm (lay' := ly) h) ?_
  exact j_sub [2, 3, 4, 5, 6] rfl (KK lay)
set_option maxRecDepth 100000 in
theorem lq_roundValue_3 {p : Program} {l : Launch} {e : Env} {s : State} {m : MethodId} {args : Array Value} {below : List Frame} {meth : Method} {c : Code} {Q : State → Prop} {A : Nat → Prop} {k n : Nat} {g : GG} {ly lay : Nat → Nat} {b L qo : Nat} {xs : Nat → Int32} {i : Nat} {σ σ' : CS} {ρ ρ' : RS} {v : Int64} {r : Int32} (C : KX p m c cL_law 9 s args RL) (K : KC l g A s) (hX : va_X b L xs s s.heap) (hbl : b < s.heap.size) (hbA : ¬ A b) (hi : i + 5 ≤ L) (hL : L ≤ 2560) (hF : F_X5_roundValue σ (xs (i + 1)) (xs (i + 2)) = some (σ', .inr 3)) (hM : F_X6_roundValue ρ (xs (i + 1)) (xs (i + 2)) = some (ρ', r)) (h0 : ρ'.1 0 0 = 2) (hc : k + 1 ≤ 601024 ∧ n + 6 ≤ 7293034)
    (KK : ∀ lay : Nat → Nat, JJ p l e room_1 s m args below meth c Q A 9 (LW g A ly (rW g ρ' ++ ([outc g qo v] ++ cW g lay σ'))) (k + 1) (n + 6) 1531 [(0, .ref b), (1, .ref (ga g 0)), (2, .ref (gm g 0)), (3, .ref qo), (4, .int (nI i))] []) : JJ p l e room_1 s m args below meth c Q A 9 (LW g A ly (rW g ρ ++ ([outc g qo v] ++ cW g lay σ))) k n 1203 [(0, .ref b), (1, .ref (ga g 0)), (2, .ref (gm g 0)), (3, .ref qo), (4, .int (nI i))] [] := by
  refine j_aload_n 1204 C dL_law_1203 1 rfl rfl ?_
  refine ls_rd 1210 C hX hbl hbA hL 1 0 4 1 dL_law_1204 dL_law_1205 dL_law_1207 dL_law_1208 dL_law_1209 nz_1 (by omega) rfl rfl rfl ?_
  refine ls_rd 1216 C hX hbl hbA hL 2 0 4 2 dL_law_1210 dL_law_1211 dL_law_1213 dL_law_1214 dL_law_1215 nz_2 (by omega) rfl rfl rfl ?_
  refine j_aload_n 1217 C dL_law_1216 3 rfl rfl ?_
  refine lk_Sw (np := 4) (w0 := rW g ρ) (wx := oW g qo) (σ := (σ, v)) (σ' := (σ', v)) (lay := lay) (As := [.ref (ga g 0), .int (xs (i + 1)), .int (xs (i + 2)), .ref qo]) (st := []) 1220 C K (fun A1 => w_L_roundValue_3 K.2.2.2 g A1 lay qo hF) mw_907 mw_97 hw_L_roundValue ⟨by decide, by decide, by decide +kernel⟩ mw_906 dL_law_1217 rfl rfl (Nat.le_of_ble_eq_true rfl) ⟨Nat.le_of_ble_eq_true rfl, Nat.le_of_ble_eq_true rfl⟩ hc rfl (fun lay => ?_)
  refine j_istore 1222 C dL_law_1220 (lo' := (5, .int 2) :: [(0, .ref b), (1, .ref (ga g 0)), (2, .ref (gm g 0)), (3, .ref qo), (4, .int (nI i))]) (by decide) rfl rfl ?_
  refine j_world (fun H h => LW_comm (lay' := ly) h) ?_
  refine j_aload_n 1223 C dL_law_1222 3 rfl rfl ?_
  refine ls_rd 1229 C hX hbl hbA hL 1 1 5 1 dL_law_1223 dL_law_1224 dL_law_1226 dL_law_1227 dL_law_1228 nz_1 (by omega) rfl rfl rfl ?_
  refine ls_rd 1235 C hX hbl hbA hL 2 1 5 2 dL_law_1229 dL_law_1230 dL_law_1232 dL_law_1233 dL_law_1234 nz_2 (by omega) rfl rfl rfl ?_
  refine lk_Vi (w0 := oW g qo lay (σ', v)) (wx := rX g) (σ := ρ) (lay := lay) (As := [.int (xs (i + 1)), .int (xs (i + 2))]) (st := []) 1238 C K (fun A1 => c_X6_roundValue K.2.2.2 g A1 lay hM) cp_X6_roundValue (fun A1 => rv_M) mw_1321 dL_law_1235 rfl rfl (Nat.le_of_ble_eq_true rfl) ⟨Nat.le_of_ble_eq_true rfl, Nat.le_of_ble_eq_true rfl⟩ hc rfl (fun lay1 => ?_)
  refine j_istore 1240 C dL_law_1238 (lo' := (6, .int r) :: (5, .int 2) :: [(0, .ref b), (1, .ref (ga g 0)), (2, .ref (gm g 0)), (3, .ref qo), (4, .int (nI i))]) (by decide) rfl rfl ?_
  refine j_aload_n 1241 C dL_law_1240 4 rfl rfl ?_
  refine lk_Vi (w0 := oW g qo lay (σ', v)) (wx := rX g) (σ := ρ') (lay := lay1) (As := []) (st := []) (r := 2) 1244 C K (fun A1 => c_X6_thrown K.2.2.2 g A1 lay1 (by rw [thr_eq, h0])) cp_X6_thrown (fun A1 => rv_M) mw_1070 dL_law_1241 rfl rfl (Nat.le_of_ble_eq_true rfl) ⟨Nat.le_of_ble_eq_true rfl, Nat.le_of_ble_eq_true rfl⟩ hc rfl (fun lay2 => ?_)
  refine j_iload 1246 C dL_law_1244 1 rfl rfl ?_
  refine j_icmp_eq 1249 1251 C dL_law_1246 (by decide) rfl (fun _ => ?_) (fun h => absurd rfl h)
  refine j_iload 1253 C dL_law_1251 1 rfl rfl ?_
  refine j_if_ne 1256 1268 C dL_law_1253 (by decide) rfl (fun _ => ?_) (fun h => absurd h (by decide))
  change JJ _ _ _ _ _ _ _ _ _ _ _ _ _ (LW g A ly (([outc g qo v] ++ cW g lay σ') ++ rW g ρ')) _ _ _ _ _
  refine j_goto 1531 C dL_law_1268 (by decide) ?_
  refine j_world (fun H h => LW_comm (lay' := ly) h) ?_
  exact j_sub [2, 3, 4, 5, 6] rfl (KK lay)
set_option maxRecDepth 100000 in
theorem lq_ifCrashed {p : Program} {l : Launch} {e : Env} {s : State} {m : MethodId} {args : Array Value} {below : List Frame} {meth : Method} {c : Code} {Q : State → Prop} {A : Nat → Prop} {k n : Nat} {g : GG} {ly lay : Nat → Nat} {b L qo : Nat} {xs : Nat → Int32} {i : Nat} {σ σ' : CS} {ρ ρ' : RS} {v : Int64} {r : Int32} (C : KX p m c cL_law 9 s args RL) (K : KC l g A s) (hX : va_X b L xs s s.heap) (hbl : b < s.heap.size) (hbA : ¬ A b) (hi : i + 5 ≤ L) (hL : L ≤ 2560) (hF : F_X5_ifCrashed σ (xs (i + 1)) (xs (i + 2)) (xs (i + 3)) = some (σ', .inl r)) (hM : F_X6_ifCrashed ρ (xs (i + 1)) (xs (i + 2)) (xs (i + 3)) = some (ρ', r)) (h0 : ρ'.1 0 0 = 0) (hc : k + 0 ≤ 601024 ∧ n + 0 ≤ 7293034)
    (KK : ∀ lay : Nat → Nat, JJ p l e room_1 s m args below meth c Q A 9 (LW g A ly (rW g ρ' ++ ([outc g qo r.toInt64] ++ cW g lay σ'))) (k + 0) (n + 0) 1531 [(0, .ref b), (1, .ref (ga g 0)), (2, .ref (gm g 0)), (3, .ref qo), (4, .int (nI i))] []) : JJ p l e room_1 s m args below meth c Q A 9 (LW g A ly (rW g ρ ++ ([outc g qo v] ++ cW g lay σ))) k n 1271 [(0, .ref b), (1, .ref (ga g 0)), (2, .ref (gm g 0)), (3, .ref qo), (4, .int (nI i))] [] := by
  refine j_aload_n 1272 C dL_law_1271 1 rfl rfl ?_
  refine ls_rd 1278 C hX hbl hbA hL 1 0 4 1 dL_law_1272 dL_law_1273 dL_law_1275 dL_law_1276 dL_law_1277 nz_1 (by omega) rfl rfl rfl ?_
  refine ls_rd 1284 C hX hbl hbA hL 2 0 4 2 dL_law_1278 dL_law_1279 dL_law_1281 dL_law_1282 dL_law_1283 nz_2 (by omega) rfl rfl rfl ?_
  refine ls_rd 1290 C hX hbl hbA hL 3 0 4 3 dL_law_1284 dL_law_1285 dL_law_1287 dL_law_1288 dL_law_1289 nz_3 (by omega) rfl rfl rfl ?_
  refine j_aload_n 1291 C dL_law_1290 3 rfl rfl ?_
  refine lk_Sw (np := 5) (w0 := rW g ρ) (wx := oW g qo) (σ := (σ, v)) (σ' := (σ', r.toInt64)) (lay := lay) (As := [.ref (ga g 0), .int (xs (i + 1)), .int (xs (i + 2)), .int (xs (i + 3)), .ref qo]) (st := []) 1294 C K (fun A1 => w_L_ifCrashed K.2.2.2 g A1 lay qo hF) mw_911 mw_97 hw_L_ifCrashed ⟨by decide, by decide, by decide +kernel⟩ mw_910 dL_law_1291 rfl rfl (Nat.le_of_ble_eq_true rfl) ⟨Nat.le_of_ble_eq_true rfl, Nat.le_of_ble_eq_true rfl⟩ hc rfl (fun lay => ?_)
  refine j_istore 1296 C dL_law_1294 (lo' := (5, .int 0) :: [(0, .ref b), (1, .ref (ga g 0)), (2, .ref (gm g 0)), (3, .ref qo), (4, .int (nI i))]) (by decide) rfl rfl ?_
  refine j_world (fun H h => LW_comm (lay' := ly) h) ?_
  refine j_aload_n 1297 C dL_law_1296 3 rfl rfl ?_
  refine ls_rd 1303 C hX hbl hbA hL 1 1 5 1 dL_law_1297 dL_law_1298 dL_law_1300 dL_law_1301 dL_law_1302 nz_1 (by omega) rfl rfl rfl ?_
  refine ls_rd 1309 C hX hbl hbA hL 2 1 5 2 dL_law_1303 dL_law_1304 dL_law_1306 dL_law_1307 dL_law_1308 nz_2 (by omega) rfl rfl rfl ?_
  refine ls_rd 1315 C hX hbl hbA hL 3 1 5 3 dL_law_1309 dL_law_1310 dL_law_1312 dL_law_1313 dL_law_1314 nz_3 (by omega) rfl rfl rfl ?_
  refine lk_Vi (w0 := oW g qo lay (σ', r.toInt64)) (wx := rX g) (σ := ρ) (lay := lay) (As := [.int (xs (i + 1)), .int (xs (i + 2)), .int (xs (i + 3))]) (st := []) 1318 C K (fun A1 => c_X6_ifCrashed K.2.2.2 g A1 lay hM) cp_X6_ifCrashed (fun A1 => rv_M) mw_1325 dL_law_1315 rfl rfl (Nat.le_of_ble_eq_true rfl) ⟨Nat.le_of_ble_eq_true rfl, Nat.le_of_ble_eq_true rfl⟩ hc rfl (fun lay1 => ?_)
  refine j_istore 1320 C dL_law_1318 (lo' := (6, .int r) :: (5, .int 0) :: [(0, .ref b), (1, .ref (ga g 0)), (2, .ref (gm g 0)), (3, .ref qo), (4, .int (nI i))]) (by decide) rfl rfl ?_
  refine j_aload_n 1321 C dL_law_1320 4 rfl rfl ?_
  refine lk_Vi (w0 := oW g qo lay (σ', r.toInt64)) (wx := rX g) (σ := ρ') (lay := lay1) (As := []) (st := []) (r := 0) 1324 C K (fun A1 => c_X6_thrown K.2.2.2 g A1 lay1 (by rw [thr_eq, h0])) cp_X6_thrown (fun A1 => rv_M) mw_1070 dL_law_1321 rfl rfl (Nat.le_of_ble_eq_true rfl) ⟨Nat.le_of_ble_eq_true rfl, Nat.le_of_ble_eq_true rfl⟩ hc rfl (fun lay2 => ?_)
  refine j_iload 1326 C dL_law_1324 1 rfl rfl ?_
  refine j_icmp_eq 1329 1331 C dL_law_1326 (by decide) rfl (fun _ => ?_) (fun h => absurd rfl h)
  refine j_iload 1333 C dL_law_1331 1 rfl rfl ?_
  refine j_if_ne 1336 1348 C dL_law_1333 (by decide) rfl (fun h => absurd rfl h) (fun _ => ?_)
  refine j_aload_n 1337 C dL_law_1336 5 rfl rfl ?_
  refine j_iconst 1338 C dL_law_1337 ic_0 rfl ?_
  change JJ _ _ _ _ _ _ _ _ _ _ _ _ _ (LW g A ly (([outc g qo r.toInt64] ++ cW g lay σ') ++ rW g ρ')) _ _ _ _ _
  refine j_world (fun H h => LW_assoc.mpr h) ?_
  refine lk_lald 1339 C K dL_law_1338 rfl ?_
  refine j_world (fun H h => LW_assoc.mp h) ?_
  refine j_iload 1341 C dL_law_1339 0 rfl rfl ?_
  refine j_i2l 1342 C dL_law_1341 rfl ?_
  refine j_lcmp 1343 C dL_law_1342 rfl ?_
  refine j_if_eq 1346 1348 C dL_law_1343 (by decide) rfl (fun _ => ?_) (fun h => absurd (lg_cmp_self _) h)
  refine j_goto 1531 C dL_law_1348 (by decide) ?_
  refine j_world (fun H h => LW_comm (lay' := ly) h) ?_
  exact j_sub [2, 3, 4, 5, 6] rfl (KK lay)
set_option maxRecDepth 100000 in
theorem lq_ifCrashed_1 {p : Program} {l : Launch} {e : Env} {s : State} {m : MethodId} {args : Array Value} {below : List Frame} {meth : Method} {c : Code} {Q : State → Prop} {A : Nat → Prop} {k n : Nat} {g : GG} {ly lay : Nat → Nat} {b L qo : Nat} {xs : Nat → Int32} {i : Nat} {σ σ' : CS} {ρ ρ' : RS} {v : Int64} {r : Int32} (C : KX p m c cL_law 9 s args RL) (K : KC l g A s) (hX : va_X b L xs s s.heap) (hbl : b < s.heap.size) (hbA : ¬ A b) (hi : i + 5 ≤ L) (hL : L ≤ 2560) (hF : F_X5_ifCrashed σ (xs (i + 1)) (xs (i + 2)) (xs (i + 3)) = some (σ', .inr 1)) (hM : F_X6_ifCrashed ρ (xs (i + 1)) (xs (i + 2)) (xs (i + 3)) = some (ρ', r)) (h0 : ρ'.1 0 0 = 1) (hc : k + 1 ≤ 601024 ∧ n + 6 ≤ 7293034)
    (KK : ∀ lay : Nat → Nat, JJ p l e room_1 s m args below meth c Q A 9 (LW g A ly (rW g ρ' ++ ([outc g qo v] ++ cW g lay σ'))) (k + 1) (n + 6) 1531 [(0, .ref b), (1, .ref (ga g 0)), (2, .ref (gm g 0)), (3, .ref qo), (4, .int (nI i))] []) : JJ p l e room_1 s m args below meth c Q A 9 (LW g A ly (rW g ρ ++ ([outc g qo v] ++ cW g lay σ))) k n 1271 [(0, .ref b), (1, .ref (ga g 0)), (2, .ref (gm g 0)), (3, .ref qo), (4, .int (nI i))] [] := by
  refine j_aload_n 1272 C dL_law_1271 1 rfl rfl ?_
  refine ls_rd 1278 C hX hbl hbA hL 1 0 4 1 dL_law_1272 dL_law_1273 dL_law_1275 dL_law_1276 dL_law_1277 nz_1 (by omega) rfl rfl rfl ?_
  refine ls_rd 1284 C hX hbl hbA hL 2 0 4 2 dL_law_1278 dL_law_1279 dL_law_1281 dL_law_1282 dL_law_1283 nz_2 (by omega) rfl rfl rfl ?_
  refine ls_rd 1290 C hX hbl hbA hL 3 0 4 3 dL_law_1284 dL_law_1285 dL_law_1287 dL_law_1288 dL_law_1289 nz_3 (by omega) rfl rfl rfl ?_
  refine j_aload_n 1291 C dL_law_1290 3 rfl rfl ?_
  refine lk_Sw (np := 5) (w0 := rW g ρ) (wx := oW g qo) (σ := (σ, v)) (σ' := (σ', v)) (lay := lay) (As := [.ref (ga g 0), .int (xs (i + 1)), .int (xs (i + 2)), .int (xs (i + 3)), .ref qo]) (st := []) 1294 C K (fun A1 => w_L_ifCrashed_1 K.2.2.2 g A1 lay qo hF) mw_911 mw_97 hw_L_ifCrashed ⟨by decide, by decide, by decide +kernel⟩ mw_910 dL_law_1291 rfl rfl (Nat.le_of_ble_eq_true rfl) ⟨Nat.le_of_ble_eq_true rfl, Nat.le_of_ble_eq_true rfl⟩ hc rfl (fun lay => ?_)
  refine j_istore 1296 C dL_law_1294 (lo' := (5, .int 1) :: [(0, .ref b), (1, .ref (ga g 0)), (2, .ref (gm g 0)), (3, .ref qo), (4, .int (nI i))]) (by decide) rfl rfl ?_
  refine j_world (fun H h => LW_comm (lay' := ly) h) ?_
  refine j_aload_n 1297 C dL_law_1296 3 rfl rfl ?_
  refine ls_rd 1303 C hX hbl hbA hL 1 1 5 1 dL_law_1297 dL_law_1298 dL_law_1300 dL_law_1301 dL_law_1302 nz_1 (by omega) rfl rfl rfl ?_
  refine ls_rd 1309 C hX hbl hbA hL 2 1 5 2 dL_law_1303 dL_law_1304 dL_law_1306 dL_law_1307 dL_law_1308 nz_2 (by omega) rfl rfl rfl ?_
  refine ls_rd 1315 C hX hbl hbA hL 3 1 5 3 dL_law_1309 dL_law_1310 dL_law_1312 dL_law_1313 dL_law_1314 nz_3 (by omega) rfl rfl rfl ?_
  refine lk_Vi (w0 := oW g qo lay (σ', v)) (wx := rX g) (σ := ρ) (lay := lay) (As := [.int (xs (i + 1)), .int (xs (i + 2)), .int (xs (i + 3))]) (st := []) 1318 C K (fun A1 => c_X6_ifCrashed K.2.2.2 g A1 lay hM) cp_X6_ifCrashed (fun A1 => rv_M) mw_1325 dL_law_1315 rfl rfl (Nat.le_of_ble_eq_true rfl) ⟨Nat.le_of_ble_eq_true rfl, Nat.le_of_ble_eq_true rfl⟩ hc rfl (fun lay1 => ?_)
  refine j_istore 1320 C dL_law_1318 (lo' := (6, .int r) :: (5, .int 1) :: [(0, .ref b), (1, .ref (ga g 0)), (2, .ref (gm g 0)), (3, .ref qo), (4, .int (nI i))]) (by decide) rfl rfl ?_
  refine j_aload_n 1321 C dL_law_1320 4 rfl rfl ?_
  refine lk_Vi (w0 := oW g qo lay (σ', v)) (wx := rX g) (σ := ρ') (lay := lay1) (As := []) (st := []) (r := 1) 1324 C K (fun A1 => c_X6_thrown K.2.2.2 g A1 lay1 (by rw [thr_eq, h0])) cp_X6_thrown (fun A1 => rv_M) mw_1070 dL_law_1321 rfl rfl (Nat.le_of_ble_eq_true rfl) ⟨Nat.le_of_ble_eq_true rfl, Nat.le_of_ble_eq_true rfl⟩ hc rfl (fun lay2 => ?_)
  refine j_iload 1326 C dL_law_1324 1 rfl rfl ?_
  refine j_icmp_eq 1329 1331 C dL_law_1326 (by decide) rfl (fun _ => ?_) (fun h => absurd rfl h)
  refine j_iload 1333 C dL_law_1331 1 rfl rfl ?_
  refine j_if_ne 1336 1348 C dL_law_1333 (by decide) rfl (fun _ => ?_) (fun h => absurd h (by decide))
  change JJ _ _ _ _ _ _ _ _ _ _ _ _ _ (LW g A ly (([outc g qo v] ++ cW g lay σ') ++ rW g ρ')) _ _ _ _ _
  refine j_goto 1531 C dL_law_1348 (by decide) ?_
  refine j_world (fun H h => LW_comm (lay' := ly) h) ?_
  exact j_sub [2, 3, 4, 5, 6] rfl (KK lay)
set_option maxRecDepth 100000 in
theorem lq_ifCrashed_2 {p : Program} {l : Launch} {e : Env} {s : State} {m : MethodId} {args : Array Value} {below : List Frame} {meth : Method} {c : Code} {Q : State → Prop} {A : Nat → Prop} {k n : Nat} {g : GG} {ly lay : Nat → Nat} {b L qo : Nat} {xs : Nat → Int32} {i : Nat} {σ σ' : CS} {ρ ρ' : RS} {v : Int64} {r : Int32} (C : KX p m c cL_law 9 s args RL) (K : KC l g A s) (hX : va_X b L xs s s.heap) (hbl : b < s.heap.size) (hbA : ¬ A b) (hi : i + 5 ≤ L) (hL : L ≤ 2560) (hF : F_X5_ifCrashed σ (xs (i + 1)) (xs (i + 2)) (xs (i + 3)) = some (σ', .inr 2)) (hM : F_X6_ifCrashed ρ (xs (i + 1)) (xs (i + 2)) (xs (i + 3)) = some (ρ', r)) (h0 : ρ'.1 0 0 = 2) (hc : k + 1 ≤ 601024 ∧ n + 6 ≤ 7293034)
    (KK : ∀ lay : Nat → Nat, JJ p l e room_1 s m args below meth c Q A 9 (LW g A ly (rW g ρ' ++ ([outc g qo v] ++ cW g lay σ'))) (k + 1) (n + 6) 1531 [(0, .ref b), (1, .ref (ga g 0)), (2, .ref (gm g 0)), (3, .ref qo), (4, .int (nI i))] []) : JJ p l e room_1 s m args below meth c Q A 9 (LW g A ly (rW g ρ ++ ([outc g qo v] ++ cW g lay σ))) k n 1271 [(0, .ref b), (1, .ref (ga g 0)), (2, .ref (gm g 0)), (3, .ref qo), (4, .int (nI i))] [] := by
  refine j_aload_n 1272 C dL_law_1271 1 rfl rfl ?_
  refine ls_rd 1278 C hX hbl hbA hL 1 0 4 1 dL_law_1272 dL_law_1273 dL_law_1275 dL_law_1276 dL_law_1277 nz_1 (by omega) rfl rfl rfl ?_
  refine ls_rd 1284 C hX hbl hbA hL 2 0 4 2 dL_law_1278 dL_law_1279 dL_law_1281 dL_law_1282 dL_law_1283 nz_2 (by omega) rfl rfl rfl ?_
  refine ls_rd 1290 C hX hbl hbA hL 3 0 4 3 dL_law_1284 dL_law_1285 dL_law_1287 dL_law_1288 dL_law_1289 nz_3 (by omega) rfl rfl rfl ?_
  refine j_aload_n 1291 C dL_law_1290 3 rfl rfl ?_
  refine lk_Sw (np := 5) (w0 := rW g ρ) (wx := oW g qo) (σ := (σ, v)) (σ' := (σ', v)) (lay := lay) (As := [.ref (ga g 0), .int (xs (i + 1)), .int (xs (i + 2)), .int (xs (i + 3)), .ref qo]) (st := []) 1294 C K (fun A1 => w_L_ifCrashed_2 K.2.2.2 g A1 lay qo hF) mw_911 mw_97 hw_L_ifCrashed ⟨by decide, by decide, by decide +kernel⟩ mw_910 dL_law_1291 rfl rfl (Nat.le_of_ble_eq_true rfl) ⟨Nat.le_of_ble_eq_true rfl, Nat.le_of_ble_eq_true rfl⟩ hc rfl (fun lay => ?_)
  refine j_istore 1296 C dL_law_1294 (lo' := (5, .int 2) :: [(0, .ref b), (1, .ref (ga g 0)), (2, .ref (gm g 0)), (3, .ref qo), (4, .int (nI i))]) (by decide) rfl rfl ?_
  refine j_world (fun H h => LW_comm (lay' := ly) h) ?_
  refine j_aload_n 1297 C dL_law_1296 3 rfl rfl ?_
  refine ls_rd 1303 C hX hbl hbA hL 1 1 5 1 dL_law_1297 dL_law_1298 dL_law_1300 dL_law_1301 dL_law_1302 nz_1 (by omega) rfl rfl rfl ?_
  refine ls_rd 1309 C hX hbl hbA hL 2 1 5 2 dL_law_1303 dL_law_1304 dL_law_1306 dL_law_1307 dL_law_1308 nz_2 (by omega) rfl rfl rfl ?_
  refine ls_rd 1315 C hX hbl hbA hL 3 1 5 3 dL_law_1309 dL_law_1310 dL_law_1312 dL_law_1313 dL_law_1314 nz_3 (by omega) rfl rfl rfl ?_
  refine lk_Vi (w0 := oW g qo lay (σ', v)) (wx := rX g) (σ := ρ) (lay := lay) (As := [.int (xs (i + 1)), .int (xs (i + 2)), .int (xs (i + 3))]) (st := []) 1318 C K (fun A1 => c_X6_ifCrashed K.2.2.2 g A1 lay hM) cp_X6_ifCrashed (fun A1 => rv_M) mw_1325 dL_law_1315 rfl rfl (Nat.le_of_ble_eq_true rfl) ⟨Nat.le_of_ble_eq_true rfl, Nat.le_of_ble_eq_true rfl⟩ hc rfl (fun lay1 => ?_)
  refine j_istore 1320 C dL_law_1318 (lo' := (6, .int r) :: (5, .int 2) :: [(0, .ref b), (1, .ref (ga g 0)), (2, .ref (gm g 0)), (3, .ref qo), (4, .int (nI i))]) (by decide) rfl rfl ?_
  refine j_aload_n 1321 C dL_law_1320 4 rfl rfl ?_
  refine lk_Vi (w0 := oW g qo lay (σ', v)) (wx := rX g) (σ := ρ') (lay := lay1) (As := []) (st := []) (r := 2) 1324 C K (fun A1 => c_X6_thrown K.2.2.2 g A1 lay1 (by rw [thr_eq, h0])) cp_X6_thrown (fun A1 => rv_M) mw_1070 dL_law_1321 rfl rfl (Nat.le_of_ble_eq_true rfl) ⟨Nat.le_of_ble_eq_true rfl, Nat.le_of_ble_eq_true rfl⟩ hc rfl (fun lay2 => ?_)
  refine j_iload 1326 C dL_law_1324 1 rfl rfl ?_
  refine j_icmp_eq 1329 1331 C dL_law_1326 (by decide) rfl (fun _ => ?_) (fun h => absurd rfl h)
  refine j_iload 1333 C dL_law_1331 1 rfl rfl ?_
  refine j_if_ne 1336 1348 C dL_law_1333 (by decide) rfl (fun _ => ?_) (fun h => absurd h (by decide))
  change JJ _ _ _ _ _ _ _ _ _ _ _ _ _ (LW g A ly (([outc g qo v] ++ cW g lay σ') ++ rW g ρ')) _ _ _ _ _
  refine j_goto 1531 C dL_law_1348 (by decide) ?_
  refine j_world (fun H h => LW_comm (lay' := ly) h) ?_
  exact j_sub [2, 3, 4, 5, 6] rfl (KK lay)
set_option maxRecDepth 100000 in
theorem lq_harmless {p : Program} {l : Launch} {e : Env} {s : State} {m : MethodId} {args : Array Value} {below : List Frame} {meth : Method} {c : Code} {Q : State → Prop} {A : Nat → Prop} {k n : Nat} {g : GG} {ly lay : Nat → Nat} {b L qo : Nat} {xs : Nat → Int32} {i : Nat} {σ σ' : CS} {ρ ρ' : RS} {v : Int64} {r : Int32} (C : KX p m c cL_law 9 s args RL) (K : KC l g A s) (hX : va_X b L xs s s.heap) (hbl : b < s.heap.size) (hbA : ¬ A b) (hi : i + 5 ≤ L) (hL : L ≤ 2560) (hF : F_X5_harmless σ (xs (i + 1)) = some (σ', .inl r)) (hM : F_X6_harmless ρ (xs (i + 1)) = some (ρ', r)) (h0 : ρ'.1 0 0 = 0) (hc : k + 0 ≤ 601024 ∧ n + 0 ≤ 7293034)
    (KK : ∀ lay : Nat → Nat, JJ p l e room_1 s m args below meth c Q A 9 (LW g A ly (rW g ρ' ++ ([outc g qo r.toInt64] ++ cW g lay σ'))) (k + 0) (n + 0) 1531 [(0, .ref b), (1, .ref (ga g 0)), (2, .ref (gm g 0)), (3, .ref qo), (4, .int (nI i))] []) : JJ p l e room_1 s m args below meth c Q A 9 (LW g A ly (rW g ρ ++ ([outc g qo v] ++ cW g lay σ))) k n 1351 [(0, .ref b), (1, .ref (ga g 0)), (2, .ref (gm g 0)), (3, .ref qo), (4, .int (nI i))] [] := by
  refine j_aload_n 1352 C dL_law_1351 1 rfl rfl ?_
  refine ls_rd 1358 C hX hbl hbA hL 1 0 4 1 dL_law_1352 dL_law_1353 dL_law_1355 dL_law_1356 dL_law_1357 nz_1 (by omega) rfl rfl rfl ?_
  refine j_aload_n 1359 C dL_law_1358 3 rfl rfl ?_
  refine lk_Sw (np := 3) (w0 := rW g ρ) (wx := oW g qo) (σ := (σ, v)) (σ' := (σ', r.toInt64)) (lay := lay) (As := [.ref (ga g 0), .int (xs (i + 1)), .ref qo]) (st := []) 1362 C K (fun A1 => w_L_harmless K.2.2.2 g A1 lay qo hF) mw_924 mw_97 hw_L_harmless ⟨by decide, by decide, by decide +kernel⟩ mw_923 dL_law_1359 rfl rfl (Nat.le_of_ble_eq_true rfl) ⟨Nat.le_of_ble_eq_true rfl, Nat.le_of_ble_eq_true rfl⟩ hc rfl (fun lay => ?_)
  refine j_istore 1364 C dL_law_1362 (lo' := (5, .int 0) :: [(0, .ref b), (1, .ref (ga g 0)), (2, .ref (gm g 0)), (3, .ref qo), (4, .int (nI i))]) (by decide) rfl rfl ?_
  refine j_world (fun H h => LW_comm (lay' := ly) h) ?_
  refine j_aload_n 1365 C dL_law_1364 3 rfl rfl ?_
  refine ls_rd 1371 C hX hbl hbA hL 1 1 5 1 dL_law_1365 dL_law_1366 dL_law_1368 dL_law_1369 dL_law_1370 nz_1 (by omega) rfl rfl rfl ?_
  refine lk_Vi (w0 := oW g qo lay (σ', r.toInt64)) (wx := rX g) (σ := ρ) (lay := lay) (As := [.int (xs (i + 1))]) (st := []) 1374 C K (fun A1 => c_X6_harmless K.2.2.2 g A1 lay hM) cp_X6_harmless (fun A1 => rv_M) mw_1337 dL_law_1371 rfl rfl (Nat.le_of_ble_eq_true rfl) ⟨Nat.le_of_ble_eq_true rfl, Nat.le_of_ble_eq_true rfl⟩ hc rfl (fun lay1 => ?_)
  refine j_istore 1376 C dL_law_1374 (lo' := (6, .int r) :: (5, .int 0) :: [(0, .ref b), (1, .ref (ga g 0)), (2, .ref (gm g 0)), (3, .ref qo), (4, .int (nI i))]) (by decide) rfl rfl ?_
  refine j_aload_n 1377 C dL_law_1376 4 rfl rfl ?_
  refine lk_Vi (w0 := oW g qo lay (σ', r.toInt64)) (wx := rX g) (σ := ρ') (lay := lay1) (As := []) (st := []) (r := 0) 1380 C K (fun A1 => c_X6_thrown K.2.2.2 g A1 lay1 (by rw [thr_eq, h0])) cp_X6_thrown (fun A1 => rv_M) mw_1070 dL_law_1377 rfl rfl (Nat.le_of_ble_eq_true rfl) ⟨Nat.le_of_ble_eq_true rfl, Nat.le_of_ble_eq_true rfl⟩ hc rfl (fun lay2 => ?_)
  refine j_iload 1382 C dL_law_1380 1 rfl rfl ?_
  refine j_icmp_eq 1385 1387 C dL_law_1382 (by decide) rfl (fun _ => ?_) (fun h => absurd rfl h)
  refine j_iload 1389 C dL_law_1387 1 rfl rfl ?_
  refine j_if_ne 1392 1404 C dL_law_1389 (by decide) rfl (fun h => absurd rfl h) (fun _ => ?_)
  refine j_aload_n 1393 C dL_law_1392 5 rfl rfl ?_
  refine j_iconst 1394 C dL_law_1393 ic_0 rfl ?_
  change JJ _ _ _ _ _ _ _ _ _ _ _ _ _ (LW g A ly (([outc g qo r.toInt64] ++ cW g lay σ') ++ rW g ρ')) _ _ _ _ _
  refine j_world (fun H h => LW_assoc.mpr h) ?_
  refine lk_lald 1395 C K dL_law_1394 rfl ?_
  refine j_world (fun H h => LW_assoc.mp h) ?_
  refine j_iload 1397 C dL_law_1395 0 rfl rfl ?_
  refine j_i2l 1398 C dL_law_1397 rfl ?_
  refine j_lcmp 1399 C dL_law_1398 rfl ?_
  refine j_if_eq 1402 1404 C dL_law_1399 (by decide) rfl (fun _ => ?_) (fun h => absurd (lg_cmp_self _) h)
  refine j_goto 1531 C dL_law_1404 (by decide) ?_
  refine j_world (fun H h => LW_comm (lay' := ly) h) ?_
  exact j_sub [2, 3, 4, 5, 6] rfl (KK lay)
set_option maxRecDepth 100000 in
theorem lq_harmless_1 {p : Program} {l : Launch} {e : Env} {s : State} {m : MethodId} {args : Array Value} {below : List Frame} {meth : Method} {c : Code} {Q : State → Prop} {A : Nat → Prop} {k n : Nat} {g : GG} {ly lay : Nat → Nat} {b L qo : Nat} {xs : Nat → Int32} {i : Nat} {σ σ' : CS} {ρ ρ' : RS} {v : Int64} {r : Int32} (C : KX p m c cL_law 9 s args RL) (K : KC l g A s) (hX : va_X b L xs s s.heap) (hbl : b < s.heap.size) (hbA : ¬ A b) (hi : i + 5 ≤ L) (hL : L ≤ 2560) (hF : F_X5_harmless σ (xs (i + 1)) = some (σ', .inr 1)) (hM : F_X6_harmless ρ (xs (i + 1)) = some (ρ', r)) (h0 : ρ'.1 0 0 = 1) (hc : k + 1 ≤ 601024 ∧ n + 6 ≤ 7293034)
    (KK : ∀ lay : Nat → Nat, JJ p l e room_1 s m args below meth c Q A 9 (LW g A ly (rW g ρ' ++ ([outc g qo v] ++ cW g lay σ'))) (k + 1) (n + 6) 1531 [(0, .ref b), (1, .ref (ga g 0)), (2, .ref (gm g 0)), (3, .ref qo), (4, .int (nI i))] []) : JJ p l e room_1 s m args below meth c Q A 9 (LW g A ly (rW g ρ ++ ([outc g qo v] ++ cW g lay σ))) k n 1351 [(0, .ref b), (1, .ref (ga g 0)), (2, .ref (gm g 0)), (3, .ref qo), (4, .int (nI i))] [] := by
  refine j_aload_n 1352 C dL_law_1351 1 rfl rfl ?_
  refine ls_rd 1358 C hX hbl hbA hL 1 0 4 1 dL_law_1352 dL_law_1353 dL_law_1355 dL_law_1356 dL_law_1357 nz_1 (by omega) rfl rfl rfl ?_
  refine j_aload_n 1359 C dL_law_1358 3 rfl rfl ?_
  refine lk_Sw (np := 3) (w0 := rW g ρ) (wx := oW g qo) (σ := (σ, v)) (σ' := (σ', v)) (lay := lay) (As := [.ref (ga g 0), .int (xs (i + 1)), .ref qo]) (st := []) 1362 C K (fun A1 => w_L_harmless_1 K.2.2.2 g A1 lay qo hF) mw_924 mw_97 hw_L_harmless ⟨by decide, by decide, by decide +kernel⟩ mw_923 dL_law_1359 rfl rfl (Nat.le_of_ble_eq_true rfl) ⟨Nat.le_of_ble_eq_true rfl, Nat.le_of_ble_eq_true rfl⟩ hc rfl (fun lay => ?_)
  refine j_istore 1364 C dL_law_1362 (lo' := (5, .int 1) :: [(0, .ref b), (1, .ref (ga g 0)), (2, .ref (gm g 0)), (3, .ref qo), (4, .int (nI i))]) (by decide) rfl rfl ?_
  refine j_world (fun H h => LW_comm (lay' := ly) h) ?_
  refine j_aload_n 1365 C dL_law_1364 3 rfl rfl ?_
  refine ls_rd 1371 C hX hbl hbA hL 1 1 5 1 dL_law_1365 dL_law_1366 dL_law_1368 dL_law_1369 dL_law_1370 nz_1 (by omega) rfl rfl rfl ?_
  refine lk_Vi (w0 := oW g qo lay (σ', v)) (wx := rX g) (σ := ρ) (lay := lay) (As := [.int (xs (i + 1))]) (st := []) 1374 C K (fun A1 => c_X6_harmless K.2.2.2 g A1 lay hM) cp_X6_harmless (fun A1 => rv_M) mw_1337 dL_law_1371 rfl rfl (Nat.le_of_ble_eq_true rfl) ⟨Nat.le_of_ble_eq_true rfl, Nat.le_of_ble_eq_true rfl⟩ hc rfl (fun lay1 => ?_)
  refine j_istore 1376 C dL_law_1374 (lo' := (6, .int r) :: (5, .int 1) :: [(0, .ref b), (1, .ref (ga g 0)), (2, .ref (gm g 0)), (3, .ref qo), (4, .int (nI i))]) (by decide) rfl rfl ?_
  refine j_aload_n 1377 C dL_law_1376 4 rfl rfl ?_
  refine lk_Vi (w0 := oW g qo lay (σ', v)) (wx := rX g) (σ := ρ') (lay := lay1) (As := []) (st := []) (r := 1) 1380 C K (fun A1 => c_X6_thrown K.2.2.2 g A1 lay1 (by rw [thr_eq, h0])) cp_X6_thrown (fun A1 => rv_M) mw_1070 dL_law_1377 rfl rfl (Nat.le_of_ble_eq_true rfl) ⟨Nat.le_of_ble_eq_true rfl, Nat.le_of_ble_eq_true rfl⟩ hc rfl (fun lay2 => ?_)
  refine j_iload 1382 C dL_law_1380 1 rfl rfl ?_
  refine j_icmp_eq 1385 1387 C dL_law_1382 (by decide) rfl (fun _ => ?_) (fun h => absurd rfl h)
  refine j_iload 1389 C dL_law_1387 1 rfl rfl ?_
  refine j_if_ne 1392 1404 C dL_law_1389 (by decide) rfl (fun _ => ?_) (fun h => absurd h (by decide))
  change JJ _ _ _ _ _ _ _ _ _ _ _ _ _ (LW g A ly (([outc g qo v] ++ cW g lay σ') ++ rW g ρ')) _ _ _ _ _
  refine j_goto 1531 C dL_law_1404 (by decide) ?_
  refine j_world (fun H h => LW_comm (lay' := ly) h) ?_
  exact j_sub [2, 3, 4, 5, 6] rfl (KK lay)
set_option maxRecDepth 100000 in
theorem lq_leastLosses {p : Program} {l : Launch} {e : Env} {s : State} {m : MethodId} {args : Array Value} {below : List Frame} {meth : Method} {c : Code} {Q : State → Prop} {A : Nat → Prop} {k n : Nat} {g : GG} {ly lay : Nat → Nat} {b L qo : Nat} {xs : Nat → Int32} {i : Nat} {σ σ' : CS} {ρ ρ' : RS} {v : Int64} {r : Int32} (C : KX p m c cL_law 9 s args RL) (K : KC l g A s) (hX : va_X b L xs s s.heap) (hbl : b < s.heap.size) (hbA : ¬ A b) (hi : i + 5 ≤ L) (hL : L ≤ 2560) (hF : F_X5_leastLosses σ (xs (i + 1)) = some (σ', .inl r)) (hM : F_X6_leastLosses ρ (xs (i + 1)) = some (ρ', r)) (h0 : ρ'.1 0 0 = 0) (hc : k + 0 ≤ 601024 ∧ n + 0 ≤ 7293034)
    (KK : ∀ lay : Nat → Nat, JJ p l e room_1 s m args below meth c Q A 9 (LW g A ly (rW g ρ' ++ ([outc g qo r.toInt64] ++ cW g lay σ'))) (k + 0) (n + 0) 1531 [(0, .ref b), (1, .ref (ga g 0)), (2, .ref (gm g 0)), (3, .ref qo), (4, .int (nI i))] []) : JJ p l e room_1 s m args below meth c Q A 9 (LW g A ly (rW g ρ ++ ([outc g qo v] ++ cW g lay σ))) k n 1407 [(0, .ref b), (1, .ref (ga g 0)), (2, .ref (gm g 0)), (3, .ref qo), (4, .int (nI i))] [] := by
  refine j_aload_n 1408 C dL_law_1407 1 rfl rfl ?_
  refine ls_rd 1414 C hX hbl hbA hL 1 0 4 1 dL_law_1408 dL_law_1409 dL_law_1411 dL_law_1412 dL_law_1413 nz_1 (by omega) rfl rfl rfl ?_
  refine j_aload_n 1415 C dL_law_1414 3 rfl rfl ?_
  refine lk_Sw (np := 3) (w0 := rW g ρ) (wx := oW g qo) (σ := (σ, v)) (σ' := (σ', r.toInt64)) (lay := lay) (As := [.ref (ga g 0), .int (xs (i + 1)), .ref qo]) (st := []) 1418 C K (fun A1 => w_L_leastLosses K.2.2.2 g A1 lay qo hF) mw_931 mw_97 hw_L_leastLosses ⟨by decide, by decide, by decide +kernel⟩ mw_930 dL_law_1415 rfl rfl (Nat.le_of_ble_eq_true rfl) ⟨Nat.le_of_ble_eq_true rfl, Nat.le_of_ble_eq_true rfl⟩ hc rfl (fun lay => ?_)
  refine j_istore 1420 C dL_law_1418 (lo' := (5, .int 0) :: [(0, .ref b), (1, .ref (ga g 0)), (2, .ref (gm g 0)), (3, .ref qo), (4, .int (nI i))]) (by decide) rfl rfl ?_
  refine j_world (fun H h => LW_comm (lay' := ly) h) ?_
  refine j_aload_n 1421 C dL_law_1420 3 rfl rfl ?_
  refine ls_rd 1427 C hX hbl hbA hL 1 1 5 1 dL_law_1421 dL_law_1422 dL_law_1424 dL_law_1425 dL_law_1426 nz_1 (by omega) rfl rfl rfl ?_
  refine lk_Vi (w0 := oW g qo lay (σ', r.toInt64)) (wx := rX g) (σ := ρ) (lay := lay) (As := [.int (xs (i + 1))]) (st := []) 1430 C K (fun A1 => c_X6_leastLosses K.2.2.2 g A1 lay hM) cp_X6_leastLosses (fun A1 => rv_M) mw_1349 dL_law_1427 rfl rfl (Nat.le_of_ble_eq_true rfl) ⟨Nat.le_of_ble_eq_true rfl, Nat.le_of_ble_eq_true rfl⟩ hc rfl (fun lay1 => ?_)
  refine j_istore 1432 C dL_law_1430 (lo' := (6, .int r) :: (5, .int 0) :: [(0, .ref b), (1, .ref (ga g 0)), (2, .ref (gm g 0)), (3, .ref qo), (4, .int (nI i))]) (by decide) rfl rfl ?_
  refine j_aload_n 1433 C dL_law_1432 4 rfl rfl ?_
  refine lk_Vi (w0 := oW g qo lay (σ', r.toInt64)) (wx := rX g) (σ := ρ') (lay := lay1) (As := []) (st := []) (r := 0) 1436 C K (fun A1 => c_X6_thrown K.2.2.2 g A1 lay1 (by rw [thr_eq, h0])) cp_X6_thrown (fun A1 => rv_M) mw_1070 dL_law_1433 rfl rfl (Nat.le_of_ble_eq_true rfl) ⟨Nat.le_of_ble_eq_true rfl, Nat.le_of_ble_eq_true rfl⟩ hc rfl (fun lay2 => ?_)
  refine j_iload 1438 C dL_law_1436 1 rfl rfl ?_
  refine j_icmp_eq 1441 1443 C dL_law_1438 (by decide) rfl (fun _ => ?_) (fun h => absurd rfl h)
  refine j_iload 1445 C dL_law_1443 1 rfl rfl ?_
  refine j_if_ne 1448 1460 C dL_law_1445 (by decide) rfl (fun h => absurd rfl h) (fun _ => ?_)
  refine j_aload_n 1449 C dL_law_1448 5 rfl rfl ?_
  refine j_iconst 1450 C dL_law_1449 ic_0 rfl ?_
  change JJ _ _ _ _ _ _ _ _ _ _ _ _ _ (LW g A ly (([outc g qo r.toInt64] ++ cW g lay σ') ++ rW g ρ')) _ _ _ _ _
  refine j_world (fun H h => LW_assoc.mpr h) ?_
  refine lk_lald 1451 C K dL_law_1450 rfl ?_
  refine j_world (fun H h => LW_assoc.mp h) ?_
  refine j_iload 1453 C dL_law_1451 0 rfl rfl ?_
  refine j_i2l 1454 C dL_law_1453 rfl ?_
  refine j_lcmp 1455 C dL_law_1454 rfl ?_
  refine j_if_eq 1458 1460 C dL_law_1455 (by decide) rfl (fun _ => ?_) (fun h => absurd (lg_cmp_self _) h)
  refine j_goto 1531 C dL_law_1460 (by decide) ?_
  refine j_world (fun H h => LW_comm (lay' := ly) h) ?_
  exact j_sub [2, 3, 4, 5, 6] rfl (KK lay)
set_option maxRecDepth 100000 in
theorem lq_leastLosses_1 {p : Program} {l : Launch} {e : Env} {s : State} {m : MethodId} {args : Array Value} {below : List Frame} {meth : Method} {c : Code} {Q : State → Prop} {A : Nat → Prop} {k n : Nat} {g : GG} {ly lay : Nat → Nat} {b L qo : Nat} {xs : Nat → Int32} {i : Nat} {σ σ' : CS} {ρ ρ' : RS} {v : Int64} {r : Int32} (C : KX p m c cL_law 9 s args RL) (K : KC l g A s) (hX : va_X b L xs s s.heap) (hbl : b < s.heap.size) (hbA : ¬ A b) (hi : i + 5 ≤ L) (hL : L ≤ 2560) (hF : F_X5_leastLosses σ (xs (i + 1)) = some (σ', .inr 1)) (hM : F_X6_leastLosses ρ (xs (i + 1)) = some (ρ', r)) (h0 : ρ'.1 0 0 = 1) (hc : k + 1 ≤ 601024 ∧ n + 6 ≤ 7293034)
    (KK : ∀ lay : Nat → Nat, JJ p l e room_1 s m args below meth c Q A 9 (LW g A ly (rW g ρ' ++ ([outc g qo v] ++ cW g lay σ'))) (k + 1) (n + 6) 1531 [(0, .ref b), (1, .ref (ga g 0)), (2, .ref (gm g 0)), (3, .ref qo), (4, .int (nI i))] []) : JJ p l e room_1 s m args below meth c Q A 9 (LW g A ly (rW g ρ ++ ([outc g qo v] ++ cW g lay σ))) k n 1407 [(0, .ref b), (1, .ref (ga g 0)), (2, .ref (gm g 0)), (3, .ref qo), (4, .int (nI i))] [] := by
  refine j_aload_n 1408 C dL_law_1407 1 rfl rfl ?_
  refine ls_rd 1414 C hX hbl hbA hL 1 0 4 1 dL_law_1408 dL_law_1409 dL_law_1411 dL_law_1412 dL_law_1413 nz_1 (by omega) rfl rfl rfl ?_
  refine j_aload_n 1415 C dL_law_1414 3 rfl rfl ?_
  refine lk_Sw (np := 3) (w0 := rW g ρ) (wx := oW g qo) (σ := (σ, v)) (σ' := (σ', v)) (lay := lay) (As := [.ref (ga g 0), .int (xs (i + 1)), .ref qo]) (st := []) 1418 C K (fun A1 => w_L_leastLosses_1 K.2.2.2 g A1 lay qo hF) mw_931 mw_97 hw_L_leastLosses ⟨by decide, by decide, by decide +kernel⟩ mw_930 dL_law_1415 rfl rfl (Nat.le_of_ble_eq_true rfl) ⟨Nat.le_of_ble_eq_true rfl, Nat.le_of_ble_eq_true rfl⟩ hc rfl (fun lay => ?_)
  refine j_istore 1420 C dL_law_1418 (lo' := (5, .int 1) :: [(0, .ref b), (1, .ref (ga g 0)), (2, .ref (gm g 0)), (3, .ref qo), (4, .int (nI i))]) (by decide) rfl rfl ?_
  refine j_world (fun H h => LW_comm (lay' := ly) h) ?_
  refine j_aload_n 1421 C dL_law_1420 3 rfl rfl ?_
  refine ls_rd 1427 C hX hbl hbA hL 1 1 5 1 dL_law_1421 dL_law_1422 dL_law_1424 dL_law_1425 dL_law_1426 nz_1 (by omega) rfl rfl rfl ?_
  refine lk_Vi (w0 := oW g qo lay (σ', v)) (wx := rX g) (σ := ρ) (lay := lay) (As := [.int (xs (i + 1))]) (st := []) 1430 C K (fun A1 => c_X6_leastLosses K.2.2.2 g A1 lay hM) cp_X6_leastLosses (fun A1 => rv_M) mw_1349 dL_law_1427 rfl rfl (Nat.le_of_ble_eq_true rfl) ⟨Nat.le_of_ble_eq_true rfl, Nat.le_of_ble_eq_true rfl⟩ hc rfl (fun lay1 => ?_)
  refine j_istore 1432 C dL_law_1430 (lo' := (6, .int r) :: (5, .int 1) :: [(0, .ref b), (1, .ref (ga g 0)), (2, .ref (gm g 0)), (3, .ref qo), (4, .int (nI i))]) (by decide) rfl rfl ?_
  refine j_aload_n 1433 C dL_law_1432 4 rfl rfl ?_
  refine lk_Vi (w0 := oW g qo lay (σ', v)) (wx := rX g) (σ := ρ') (lay := lay1) (As := []) (st := []) (r := 1) 1436 C K (fun A1 => c_X6_thrown K.2.2.2 g A1 lay1 (by rw [thr_eq, h0])) cp_X6_thrown (fun A1 => rv_M) mw_1070 dL_law_1433 rfl rfl (Nat.le_of_ble_eq_true rfl) ⟨Nat.le_of_ble_eq_true rfl, Nat.le_of_ble_eq_true rfl⟩ hc rfl (fun lay2 => ?_)
  refine j_iload 1438 C dL_law_1436 1 rfl rfl ?_
  refine j_icmp_eq 1441 1443 C dL_law_1438 (by decide) rfl (fun _ => ?_) (fun h => absurd rfl h)
  refine j_iload 1445 C dL_law_1443 1 rfl rfl ?_
  refine j_if_ne 1448 1460 C dL_law_1445 (by decide) rfl (fun _ => ?_) (fun h => absurd h (by decide))
  change JJ _ _ _ _ _ _ _ _ _ _ _ _ _ (LW g A ly (([outc g qo v] ++ cW g lay σ') ++ rW g ρ')) _ _ _ _ _
  refine j_goto 1531 C dL_law_1460 (by decide) ?_
  refine j_world (fun H h => LW_comm (lay' := ly) h) ?_
  exact j_sub [2, 3, 4, 5, 6] rfl (KK lay)
set_option maxRecDepth 100000 in
theorem lq_leastLosses_3 {p : Program} {l : Launch} {e : Env} {s : State} {m : MethodId} {args : Array Value} {below : List Frame} {meth : Method} {c : Code} {Q : State → Prop} {A : Nat → Prop} {k n : Nat} {g : GG} {ly lay : Nat → Nat} {b L qo : Nat} {xs : Nat → Int32} {i : Nat} {σ σ' : CS} {ρ ρ' : RS} {v : Int64} {r : Int32} (C : KX p m c cL_law 9 s args RL) (K : KC l g A s) (hX : va_X b L xs s s.heap) (hbl : b < s.heap.size) (hbA : ¬ A b) (hi : i + 5 ≤ L) (hL : L ≤ 2560) (hF : F_X5_leastLosses σ (xs (i + 1)) = some (σ', .inr 3)) (hM : F_X6_leastLosses ρ (xs (i + 1)) = some (ρ', r)) (h0 : ρ'.1 0 0 = 2) (hc : k + 1 ≤ 601024 ∧ n + 6 ≤ 7293034)
    (KK : ∀ lay : Nat → Nat, JJ p l e room_1 s m args below meth c Q A 9 (LW g A ly (rW g ρ' ++ ([outc g qo v] ++ cW g lay σ'))) (k + 1) (n + 6) 1531 [(0, .ref b), (1, .ref (ga g 0)), (2, .ref (gm g 0)), (3, .ref qo), (4, .int (nI i))] []) : JJ p l e room_1 s m args below meth c Q A 9 (LW g A ly (rW g ρ ++ ([outc g qo v] ++ cW g lay σ))) k n 1407 [(0, .ref b), (1, .ref (ga g 0)), (2, .ref (gm g 0)), (3, .ref qo), (4, .int (nI i))] [] := by
  refine j_aload_n 1408 C dL_law_1407 1 rfl rfl ?_
  refine ls_rd 1414 C hX hbl hbA hL 1 0 4 1 dL_law_1408 dL_law_1409 dL_law_1411 dL_law_1412 dL_law_1413 nz_1 (by omega) rfl rfl rfl ?_
  refine j_aload_n 1415 C dL_law_1414 3 rfl rfl ?_
  refine lk_Sw (np := 3) (w0 := rW g ρ) (wx := oW g qo) (σ := (σ, v)) (σ' := (σ', v)) (lay := lay) (As := [.ref (ga g 0), .int (xs (i + 1)), .ref qo]) (st := []) 1418 C K (fun A1 => w_L_leastLosses_3 K.2.2.2 g A1 lay qo hF) mw_931 mw_97 hw_L_leastLosses ⟨by decide, by decide, by decide +kernel⟩ mw_930 dL_law_1415 rfl rfl (Nat.le_of_ble_eq_true rfl) ⟨Nat.le_of_ble_eq_true rfl, Nat.le_of_ble_eq_true rfl⟩ hc rfl (fun lay => ?_)
  refine j_istore 1420 C dL_law_1418 (lo' := (5, .int 2) :: [(0, .ref b), (1, .ref (ga g 0)), (2, .ref (gm g 0)), (3, .ref qo), (4, .int (nI i))]) (by decide) rfl rfl ?_
  refine j_world (fun H h => LW_comm (lay' := ly) h) ?_
  refine j_aload_n 1421 C dL_law_1420 3 rfl rfl ?_
  refine ls_rd 1427 C hX hbl hbA hL 1 1 5 1 dL_law_1421 dL_law_1422 dL_law_1424 dL_law_1425 dL_law_1426 nz_1 (by omega) rfl rfl rfl ?_
  refine lk_Vi (w0 := oW g qo lay (σ', v)) (wx := rX g) (σ := ρ) (lay := lay) (As := [.int (xs (i + 1))]) (st := []) 1430 C K (fun A1 => c_X6_leastLosses K.2.2.2 g A1 lay hM) cp_X6_leastLosses (fun A1 => rv_M) mw_1349 dL_law_1427 rfl rfl (Nat.le_of_ble_eq_true rfl) ⟨Nat.le_of_ble_eq_true rfl, Nat.le_of_ble_eq_true rfl⟩ hc rfl (fun lay1 => ?_)
  refine j_istore 1432 C dL_law_1430 (lo' := (6, .int r) :: (5, .int 2) :: [(0, .ref b), (1, .ref (ga g 0)), (2, .ref (gm g 0)), (3, .ref qo), (4, .int (nI i))]) (by decide) rfl rfl ?_
  refine j_aload_n 1433 C dL_law_1432 4 rfl rfl ?_
  refine lk_Vi (w0 := oW g qo lay (σ', v)) (wx := rX g) (σ := ρ') (lay := lay1) (As := []) (st := []) (r := 2) 1436 C K (fun A1 => c_X6_thrown K.2.2.2 g A1 lay1 (by rw [thr_eq, h0])) cp_X6_thrown (fun A1 => rv_M) mw_1070 dL_law_1433 rfl rfl (Nat.le_of_ble_eq_true rfl) ⟨Nat.le_of_ble_eq_true rfl, Nat.le_of_ble_eq_true rfl⟩ hc rfl (fun lay2 => ?_)
  refine j_iload 1438 C dL_law_1436 1 rfl rfl ?_
  refine j_icmp_eq 1441 1443 C dL_law_1438 (by decide) rfl (fun _ => ?_) (fun h => absurd rfl h)
  refine j_iload 1445 C dL_law_1443 1 rfl rfl ?_
  refine j_if_ne 1448 1460 C dL_law_1445 (by decide) rfl (fun _ => ?_) (fun h => absurd h (by decide))
  change JJ _ _ _ _ _ _ _ _ _ _ _ _ _ (LW g A ly (([outc g qo v] ++ cW g lay σ') ++ rW g ρ')) _ _ _ _ _
  refine j_goto 1531 C dL_law_1460 (by decide) ?_
  refine j_world (fun H h => LW_comm (lay' := ly) h) ?_
  exact j_sub [2, 3, 4, 5, 6] rfl (KK lay)
set_option maxRecDepth 100000 in
theorem lq_answered {p : Program} {l : Launch} {e : Env} {s : State} {m : MethodId} {args : Array Value} {below : List Frame} {meth : Method} {c : Code} {Q : State → Prop} {A : Nat → Prop} {k n : Nat} {g : GG} {ly lay : Nat → Nat} {b L qo : Nat} {xs : Nat → Int32} {i : Nat} {σ σ' : CS} {ρ ρ' : RS} {v : Int64} {r : Int32} (C : KX p m c cL_law 9 s args RL) (K : KC l g A s) (hX : va_X b L xs s s.heap) (hbl : b < s.heap.size) (hbA : ¬ A b) (hi : i + 5 ≤ L) (hL : L ≤ 2560) (hF : F_X5_answered σ = some (σ', r)) (hM : F_X6_answered ρ = some (ρ', r)) (hc : k ≤ 601024 ∧ n ≤ 7293034)
    (KK : ∀ lay : Nat → Nat, JJ p l e room_1 s m args below meth c Q A 9 (LW g A ly (rW g ρ' ++ ([outc g qo v] ++ cW g lay σ'))) k n 1531 [(0, .ref b), (1, .ref (ga g 0)), (2, .ref (gm g 0)), (3, .ref qo), (4, .int (nI i))] []) : JJ p l e room_1 s m args below meth c Q A 9 (LW g A ly (rW g ρ ++ ([outc g qo v] ++ cW g lay σ))) k n 1463 [(0, .ref b), (1, .ref (ga g 0)), (2, .ref (gm g 0)), (3, .ref qo), (4, .int (nI i))] [] := by
  refine j_aload_n 1464 C dL_law_1463 1 rfl rfl ?_
  refine j_world (fun H h => LW_assoc.mp h) ?_
  refine lk_Vi (w0 := rW g ρ ++ [outc g qo v]) (wx := cW g) (σ := σ) (lay := lay) (As := []) (st := []) 1467 C K (fun A1 => c_X5_answered K.2.2.2 g A1 lay hF) cp_X5_answered (fun A1 => rv_F) mw_366 dL_law_1464 rfl rfl (Nat.le_of_ble_eq_true rfl) ⟨Nat.le_of_ble_eq_true rfl, Nat.le_of_ble_eq_true rfl⟩ hc rfl (fun lay => ?_)
  refine j_world (fun H h => LW_comm (lay' := ly) (LW_assoc.mpr h)) ?_
  refine j_aload_n 1468 C dL_law_1467 2 rfl rfl ?_
  refine lk_Vi (w0 := [outc g qo v] ++ cW g lay σ') (wx := rX g) (σ := ρ) (lay := lay) (As := []) (st := [.int r]) 1471 C K (fun A1 => c_X6_answered K.2.2.2 g A1 lay hM) cp_X6_answered (fun A1 => rv_M) mw_1357 dL_law_1468 rfl rfl (Nat.le_of_ble_eq_true rfl) ⟨Nat.le_of_ble_eq_true rfl, Nat.le_of_ble_eq_true rfl⟩ hc rfl (fun lay1 => ?_)
  refine j_world (fun H h => LW_comm (lay' := ly) h) ?_
  change JJ _ _ _ _ _ _ _ _ _ _ _ _ _ (LW g A ly (rW g ρ' ++ ([outc g qo v] ++ cW g lay σ'))) _ _ _ _ _
  refine j_icmp_eq 1474 1531 C dL_law_1471 (by decide) rfl (fun _ => ?_) (fun h => absurd rfl h)
  exact KK lay
set_option maxRecDepth 100000 in
theorem lq_onDisks {p : Program} {l : Launch} {e : Env} {s : State} {m : MethodId} {args : Array Value} {below : List Frame} {meth : Method} {c : Code} {Q : State → Prop} {A : Nat → Prop} {k n : Nat} {g : GG} {ly lay : Nat → Nat} {b L qo : Nat} {xs : Nat → Int32} {i : Nat} {σ σ' : CS} {ρ ρ' : RS} {v : Int64} {r : UInt64} (C : KX p m c cL_law 9 s args RL) (K : KC l g A s) (hX : va_X b L xs s s.heap) (hbl : b < s.heap.size) (hbA : ¬ A b) (hi : i + 5 ≤ L) (hL : L ≤ 2560) (hF : F_X5_onDisks σ = some (σ', r)) (hM : F_X6_onDisks ρ = some (ρ', r)) (hc : k ≤ 601024 ∧ n ≤ 7293034)
    (KK : ∀ lay : Nat → Nat, JJ p l e room_1 s m args below meth c Q A 9 (LW g A ly (rW g ρ' ++ ([outc g qo v] ++ cW g lay σ'))) k n 1531 [(0, .ref b), (1, .ref (ga g 0)), (2, .ref (gm g 0)), (3, .ref qo), (4, .int (nI i))] []) : JJ p l e room_1 s m args below meth c Q A 9 (LW g A ly (rW g ρ ++ ([outc g qo v] ++ cW g lay σ))) k n 1476 [(0, .ref b), (1, .ref (ga g 0)), (2, .ref (gm g 0)), (3, .ref qo), (4, .int (nI i))] [] := by
  refine j_aload_n 1477 C dL_law_1476 1 rfl rfl ?_
  refine j_world (fun H h => LW_assoc.mp h) ?_
  refine lk_Vd (w0 := rW g ρ ++ [outc g qo v]) (wx := cW g) (σ := σ) (lay := lay) (As := []) (st := []) 1480 C K (fun A1 => c_X5_onDisks K.2.2.2 g A1 lay hF) cp_X5_onDisks (fun A1 => rv_F) mw_378 dL_law_1477 rfl rfl (Nat.le_of_ble_eq_true rfl) ⟨Nat.le_of_ble_eq_true rfl, Nat.le_of_ble_eq_true rfl⟩ hc rfl (fun lay => ?_)
  refine j_world (fun H h => LW_comm (lay' := ly) (LW_assoc.mpr h)) ?_
  refine j_dstore 1482 C dL_law_1480 (lo' := (5, .double r) :: [(0, .ref b), (1, .ref (ga g 0)), (2, .ref (gm g 0)), (3, .ref qo), (4, .int (nI i))]) (by decide) rfl rfl ?_
  refine j_aload_n 1483 C dL_law_1482 3 rfl rfl ?_
  refine lk_Vd (w0 := [outc g qo v] ++ cW g lay σ') (wx := rX g) (σ := ρ) (lay := lay) (As := []) (st := []) 1486 C K (fun A1 => c_X6_onDisks K.2.2.2 g A1 lay hM) cp_X6_onDisks (fun A1 => rv_M) mw_1375 dL_law_1483 rfl rfl (Nat.le_of_ble_eq_true rfl) ⟨Nat.le_of_ble_eq_true rfl, Nat.le_of_ble_eq_true rfl⟩ hc rfl (fun lay1 => ?_)
  refine j_world (fun H h => LW_comm (lay' := ly) h) ?_
  change JJ _ _ _ _ _ _ _ _ _ _ _ _ _ (LW g A ly (rW g ρ' ++ ([outc g qo v] ++ cW g lay σ'))) _ _ _ _ _
  refine j_dstore 1488 C dL_law_1486 (lo' := (7, .double r) :: (5, .double r) :: [(0, .ref b), (1, .ref (ga g 0)), (2, .ref (gm g 0)), (3, .ref qo), (4, .int (nI i))]) (by decide) rfl rfl ?_
  have KE := j_goto 1531 C dL_law_1514 (by decide) (j_sub (lo := (7, .double r) :: (5, .double r) :: [(0, .ref b), (1, .ref (ga g 0)), (2, .ref (gm g 0)), (3, .ref qo), (4, .int (nI i))]) [2, 3, 4, 5, 6] rfl (KK lay))
  refine j_dload 1490 C dL_law_1488 1 rfl rfl ?_
  refine j_dload 1492 C dL_law_1490 0 rfl rfl ?_
  refine j_dcmp 1493 C dL_law_1492 rfl ?_
  refine j_if_eq 1496 1514 C dL_law_1493 (by decide) rfl (fun _ => KE) (fun hne => ?_)
  refine j_dload 1498 C dL_law_1496 1 rfl rfl ?_
  refine j_dload 1500 C dL_law_1498 1 rfl rfl ?_
  refine j_dcmp 1501 C dL_law_1500 rfl ?_
  refine j_if_eq 1504 1512 C dL_law_1501 (by decide) rfl (fun h => absurd h hne) (fun _ => ?_)
  refine j_dload 1506 C dL_law_1504 0 rfl rfl ?_
  refine j_dload 1508 C dL_law_1506 0 rfl rfl ?_
  refine j_dcmp 1509 C dL_law_1508 rfl ?_
  exact j_if_ne 1512 1514 C dL_law_1509 (by decide) rfl (fun _ => KE) (fun h => absurd h hne)
set_option maxRecDepth 100000 in
theorem lq_digest {p : Program} {l : Launch} {e : Env} {s : State} {m : MethodId} {args : Array Value} {below : List Frame} {meth : Method} {c : Code} {Q : State → Prop} {A : Nat → Prop} {k n : Nat} {g : GG} {ly lay : Nat → Nat} {b L qo : Nat} {xs : Nat → Int32} {i : Nat} {σ σ' : CS} {ρ ρ' : RS} {v : Int64} {r : Int64} (C : KX p m c cL_law 9 s args RL) (K : KC l g A s) (hX : va_X b L xs s s.heap) (hbl : b < s.heap.size) (hbA : ¬ A b) (hi : i + 5 ≤ L) (hL : L ≤ 2560) (hF : F_X5_digest σ = some (σ', .inl r)) (hM : F_X6_digest ρ = some (ρ', r)) (hc : k ≤ 601024 ∧ n ≤ 7293034)
    (KK : ∀ lay : Nat → Nat, JJ p l e room_1 s m args below meth c Q A 9 (LW g A ly (rW g ρ' ++ ([outc g qo v] ++ cW g lay σ'))) k n 1531 [(0, .ref b), (1, .ref (ga g 0)), (2, .ref (gm g 0)), (3, .ref qo), (4, .int (nI i))] []) : JJ p l e room_1 s m args below meth c Q A 9 (LW g A ly (rW g ρ ++ ([outc g qo v] ++ cW g lay σ))) k n 1517 [(0, .ref b), (1, .ref (ga g 0)), (2, .ref (gm g 0)), (3, .ref qo), (4, .int (nI i))] [] := by
  refine j_aload_n 1518 C dL_law_1517 1 rfl rfl ?_
  refine j_world (fun H h => LW_assoc.mp h) ?_
  refine lk_Vl (w0 := rW g ρ ++ [outc g qo v]) (wx := cW g) (σ := σ) (lay := lay) (As := []) (st := []) 1521 C K (fun A1 => c_X5_digest K.2.2.2 g A1 lay hF) cp_X5_digest (fun A1 => rv_F) mw_402 dL_law_1518 rfl rfl (Nat.le_of_ble_eq_true rfl) ⟨Nat.le_of_ble_eq_true rfl, Nat.le_of_ble_eq_true rfl⟩ hc rfl (fun lay => ?_)
  refine j_world (fun H h => LW_comm (lay' := ly) (LW_assoc.mpr h)) ?_
  refine j_aload_n 1522 C dL_law_1521 2 rfl rfl ?_
  refine lk_Vl (w0 := [outc g qo v] ++ cW g lay σ') (wx := rX g) (σ := ρ) (lay := lay) (As := []) (st := [.long r]) 1525 C K (fun A1 => c_X6_digest K.2.2.2 g A1 lay hM) cp_X6_digest (fun A1 => rv_M) mw_1383 dL_law_1522 rfl rfl (Nat.le_of_ble_eq_true rfl) ⟨Nat.le_of_ble_eq_true rfl, Nat.le_of_ble_eq_true rfl⟩ hc rfl (fun lay1 => ?_)
  refine j_world (fun H h => LW_comm (lay' := ly) h) ?_
  change JJ _ _ _ _ _ _ _ _ _ _ _ _ _ (LW g A ly (rW g ρ' ++ ([outc g qo v] ++ cW g lay σ'))) _ _ _ _ _
  refine j_lcmp 1526 C dL_law_1525 rfl ?_
  refine j_if_eq 1529 1531 C dL_law_1526 (by decide) rfl (fun _ => ?_) (fun h => absurd (lg_cmp_self _) h)
  exact KK lay
