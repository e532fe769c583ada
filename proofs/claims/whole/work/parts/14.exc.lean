/-! ===== contracts of methods that throw: by the number of the exception's class ===== -/
def exn : Nat → String
  | 1 => "java/lang/IndexOutOfBoundsException"
  | 2 => "java/lang/IllegalArgumentException"
  | _ => "java/lang/IllegalStateException"
def xNm : List String := ["java/lang/RuntimeException", "java/lang/Exception"]
section EXC
variable {S : Type}
def xxX (B : S → State → Prop) (A : Nat → Prop) (σ' : S) (ex : Nat) : String → State → State → Prop := vx_X (fun u : S => u = σ') (fun E u t => E = exn ex ∧ B u t) A
def XV (l : Launch) (y : MethodName) (cc : ByteArray) (nl : Nat) (fr lc : Nat) (av : List Value) (Wf : (Nat → Nat) → S → Heap → Prop) (g : GG) (A : Nat → Prop) (lay : Nat → Nat) (σ σ' : S) (ex : Nat) : Prop := vx_Met l y (WY y cc nl none) (rmk fr lc 1 6) (va_Pc av (PC Wf g A lay σ)) (va_Qv (fun _ : S => False) (BC Wf) A) (xxX (BC Wf) A σ' ex) 1 6 A
theorem ex_v {l : Launch} {y : MethodName} {cc : ByteArray} {nl : Nat} {fr lc : Nat} {av : List Value} {Wf : (Nat → Nat) → S → Heap → Prop} {g : GG} {A : Nat → Prop} {lay : Nat → Nat} {σ σ' : S} {ex : Nat} {own : String} {lo : List (Nat × Value)} (hst : l.stackTraces = false) (hy : plainName y.cls = true) (ho : y.cls = own) (hlo : lv_args 0 av = lo) (hlen : (lg_sl av).length ≤ nl)
    (body : ∀ (p : Program) (e : Env) (s : State) (m : MethodId) (args : Array Value) (below : List Frame) (meth : Method) (c : Code), KX p m c cc nl s args own → KC l g A s → KM meth none → (∀ x ∈ c.exceptionTable.toList, False) → JJ p l e (rmk fr lc 1 6) s m args below meth c (vx_MQ below (va_Qv (fun _ : S => False) (BC Wf) A) (xxX (BC Wf) A σ' ex) args s 1 6 A) A nl (Wf lay σ) 0 0 0 lo []) : XV l y cc nl fr lc av Wf g A lay σ σ' ex := by
  refine vx_ofW (cc := cc) (maxL := nl) (ret := none) hy rfl ?_
  intro p e s m args below meth c s₁ B hml hxt hv
  obtain ⟨rfl, hA, hW, hK, hX⟩ := hv
  have hown : s.vm.findClass own = some m.cls := by rw [← ho]; exact findClass_of_methodNamed B.named
  have hts : ∀ w ∈ AW, w.before av.toArray s = true := fun w hw => atoms_spec (ws := WY y cc nl none) B.pre w (List.mem_cons_of_mem _ hw)
  have hl := lv_entry av (n := nl) hlen
  rw [hlo] at hl
  rw [lg_entry_eq]
  exact body p e s m av.toArray below meth c ⟨B.exec, B.bytes, hml, hown, hts⟩ ⟨hA, hK, hX, hst⟩ ⟨B.returns, B.notSynchronized⟩ hxt s.heap [] _ hW va_S.rf hl
def XI (l : Launch) (y : MethodName) (cc : ByteArray) (nl : Nat) (rt : FieldType) (fr lc : Nat) (av : List Value) (Wf : (Nat → Nat) → S → Heap → Prop) (g : GG) (A : Nat → Prop) (lay : Nat → Nat) (σ σ' : S) (ex : Nat) : Prop := vx_Met l y (WY y cc nl (some rt)) (rmk fr lc 1 6) (va_Pc av (PC Wf g A lay σ)) (va_Qi (fun (_ : Int32) (_ : S) => False) (BC Wf) A) (xxX (BC Wf) A σ' ex) 1 6 A
theorem ex_i {l : Launch} {y : MethodName} {cc : ByteArray} {nl : Nat} {rt : FieldType} {fr lc : Nat} {av : List Value} {Wf : (Nat → Nat) → S → Heap → Prop} {g : GG} {A : Nat → Prop} {lay : Nat → Nat} {σ σ' : S} {ex : Nat} {own : String} {lo : List (Nat × Value)} (hst : l.stackTraces = false) (hy : plainName y.cls = true) (ho : y.cls = own) (hlo : lv_args 0 av = lo) (hlen : (lg_sl av).length ≤ nl)
    (body : ∀ (p : Program) (e : Env) (s : State) (m : MethodId) (args : Array Value) (below : List Frame) (meth : Method) (c : Code), KX p m c cc nl s args own → KC l g A s → KM meth (some rt) → (∀ x ∈ c.exceptionTable.toList, False) → JJ p l e (rmk fr lc 1 6) s m args below meth c (vx_MQ below (va_Qi (fun (_ : Int32) (_ : S) => False) (BC Wf) A) (xxX (BC Wf) A σ' ex) args s 1 6 A) A nl (Wf lay σ) 0 0 0 lo []) : XI l y cc nl rt fr lc av Wf g A lay σ σ' ex := by
  refine vx_ofW (cc := cc) (maxL := nl) (ret := (some rt)) hy rfl ?_
  intro p e s m args below meth c s₁ B hml hxt hv
  obtain ⟨rfl, hA, hW, hK, hX⟩ := hv
  have hown : s.vm.findClass own = some m.cls := by rw [← ho]; exact findClass_of_methodNamed B.named
  have hts : ∀ w ∈ AW, w.before av.toArray s = true := fun w hw => atoms_spec (ws := WY y cc nl (some rt)) B.pre w (List.mem_cons_of_mem _ hw)
  have hl := lv_entry av (n := nl) hlen
  rw [hlo] at hl
  rw [lg_entry_eq]
  exact body p e s m av.toArray below meth c ⟨B.exec, B.bytes, hml, hown, hts⟩ ⟨hA, hK, hX, hst⟩ ⟨B.returns, B.notSynchronized⟩ hxt s.heap [] _ hW va_S.rf hl
section XCALLS
variable {p : Program} {l : Launch} {e : Env} {R : Room} {s : State} {m : MethodId} {args : Array Value} {below : List Frame} {meth : Method} {c : Code} {A : Nat → Prop} {nL : Nat} {k n pc : Nat} {lo : List (Nat × Value)} {st : List Value} {cc : ByteArray} {own : String} {Wf : (Nat → Nat) → S → Heap → Prop} {g : GG} {lay : Nat → Nat} {σ σ' : S} {ex : Nat} {ret : Option FieldType}
variable {Qc : Array Value → State → Outcome → State → Prop} {y : MethodName} {bytes : ByteArray} {nl fr lc np index : Nat} {As stk : List Value} {b : Nat} {Cn : String}
theorem xx_out (M : KM meth ret) (hx : ∀ x ∈ c.exceptionTable.toList, False) {H1 : Heap} {locs1 : List Loc} {ls : Array Slot} {E : String} {ce : Cell} {q9 : Addr} {u : S} {t : State} (ht : t.heap = H1) (hp : u = σ') (hB : E = exn ex ∧ BC Wf u t) (hS1 : va_S A s.heap H1 locs1) (hce : H1[q9]? = some ce) (hcv : ce.vm = .none) (hcl : s.vm.findClass E = some ce.cls) :
    vx_W p l e R s m args below meth c H1 locs1 (k + 1) (n + 6) (vx_MQ below Qc (xxX (BC Wf) A σ' ex) args s (k + 1) (n + 6) A) (F0 m pc ls st) q9 := by
  refine vx_out (fun x h => (hx x h).elim) M.2 hce hcv hcl (fun t1 ht1 _ => ?_) hS1.2.2 (Nat.le_refl _) (Nat.le_refl _)
  obtain ⟨h1, lay1, h2⟩ := hB
  exact ⟨u, hp, ⟨h1, lay1, by rw [ht1, ← ht]; exact h2⟩, hS1.F ht1⟩
theorem kx_Vv (C : KX p m c cc nL s args own) (K : KC l g A s) (M : KM meth ret) (hx : ∀ x ∈ c.exceptionTable.toList, False) (hM : XV l y bytes nl fr lc (.ref b :: As) Wf g A lay σ σ' ex) (P : CPv y bytes nl none Cn np) (hr : RCV Wf g σ b Cn) (hw : Cond.methodLink own index y ∈ AW) (hd : decode cc pc = .ok (.invokevirtual index, 3)) (hn : As.length = np) (hstk : stk = As.reverse ++ .ref b :: st) (hsum : (st.map fun v => v.category).sum ≤ 8) (hR : fr + 1 ≤ R.frames ∧ 8 + (nl + 11) + lc ≤ R.locals) (hc : k + 1 ≤ R.cells ∧ n + 6 ≤ R.slots) : JJ p l e R s m args below meth c (vx_MQ below Qc (xxX (BC Wf) A σ' ex) args s (k + 1) (n + 6) A) A nL (Wf lay σ) k n pc lo stk := by
  subst hstk
  intro H locs ls hW hS hl
  obtain ⟨p1, p2, p3, p4, rfl, p6, p7, p8⟩ := P
  have cb := callB_of (R := R) (rm := rmk fr lc 1 6) np C.2.2.2.2 (goodAW p4) rfl rfl rfl (C.w p3) (C.w hw) ⟨p6, p7, p8⟩ hR
  exact vx_callv (vx_runV (As := As) (rest := st) C hM ⟨cb, C.w p1, C.w p2⟩ ⟨PC.blind, hr lay H s hW K.2.1, fun U hU hWm => ⟨rfl, fun q hq => K.1 q (Nat.le_trans hS.1 (by rw [← hU]; exact hq)), by rw [hU]; exact hW, va_K.moved hWm.alike K.2.1, by rw [hU]; exact XS.warm hWm (K.2.2.1.kept hS.2.1)⟩⟩ rfl hn hl.1 rfl (lv_room hsum) hd hc) hS (fun q _ h => h) (fun q h => h) (fun q _ h => h) (fun E ce q9 u t H1 locs1 ht hvm hp hB hz hk hS1 hce hcv hcl => xx_out M hx ht hp hB hS1 hce hcv hcl) (fun u t H1 locs1 ht hvm hp hB hz hk hS1 => hp.elim)
theorem kx_Sv (C : KX p m c cc nL s args own) (K : KC l g A s) (M : KM meth ret) (hx : ∀ x ∈ c.exceptionTable.toList, False) (hM : XV l y bytes nl fr lc As Wf g A lay σ σ' ex) (P : CPs y bytes nl none np) (hw : Cond.methodLink own index y ∈ AW) (hd : decode cc pc = .ok (.invokestatic index, 3)) (hn : As.length = np) (hstk : stk = As.reverse ++ st) (hsum : (st.map fun v => v.category).sum ≤ 8) (hR : fr + 1 ≤ R.frames ∧ 8 + (nl + 11) + lc ≤ R.locals) (hc : k + 1 ≤ R.cells ∧ n + 6 ≤ R.slots) : JJ p l e R s m args below meth c (vx_MQ below Qc (xxX (BC Wf) A σ' ex) args s (k + 1) (n + 6) A) A nL (Wf lay σ) k n pc lo stk := by
  subst hstk
  intro H locs ls hW hS hl
  obtain ⟨p1, p3, p4, p6, p7, p8⟩ := P
  have cb := callB_of (R := R) (rm := rmk fr lc 1 6) np C.2.2.2.2 (goodAW p4) rfl rfl rfl (C.w p3) (C.w hw) ⟨p6, p7, p8⟩ hR
  exact vx_callv (vx_runS (As := As) (rest := st) C hM ⟨cb, C.w p1⟩ ⟨PC.blind, fun U hU hWm => ⟨rfl, fun q hq => K.1 q (Nat.le_trans hS.1 (by rw [← hU]; exact hq)), by rw [hU]; exact hW, va_K.moved hWm.alike K.2.1, by rw [hU]; exact XS.warm hWm (K.2.2.1.kept hS.2.1)⟩⟩ rfl hn hl.1 rfl (lv_room hsum) hd hc) hS (fun q _ h => h) (fun q h => h) (fun q _ h => h) (fun E ce q9 u t H1 locs1 ht hvm hp hB hz hk hS1 hce hcv hcl => xx_out M hx ht hp hB hS1 hce hcv hcl) (fun u t H1 locs1 ht hvm hp hB hz hk hS1 => hp.elim)
theorem kx_Vi (C : KX p m c cc nL s args own) (K : KC l g A s) (M : KM meth ret) (hx : ∀ x ∈ c.exceptionTable.toList, False) {rt : FieldType} (hM : XI l y bytes nl rt fr lc (.ref b :: As) Wf g A lay σ σ' ex) (P : CPv y bytes nl (some rt) Cn np) (hr : RCV Wf g σ b Cn) (hw : Cond.methodLink own index y ∈ AW) (hd : decode cc pc = .ok (.invokevirtual index, 3)) (hn : As.length = np) (hstk : stk = As.reverse ++ .ref b :: st) (hsum : (st.map fun v => v.category).sum ≤ 8) (hR : fr + 1 ≤ R.frames ∧ 8 + (nl + 11) + lc ≤ R.locals) (hc : k + 1 ≤ R.cells ∧ n + 6 ≤ R.slots) : JJ p l e R s m args below meth c (vx_MQ below Qc (xxX (BC Wf) A σ' ex) args s (k + 1) (n + 6) A) A nL (Wf lay σ) k n pc lo stk := by
  subst hstk
  intro H locs ls hW hS hl
  obtain ⟨p1, p2, p3, p4, rfl, p6, p7, p8⟩ := P
  have cb := callB_of (R := R) (rm := rmk fr lc 1 6) np C.2.2.2.2 (goodAW p4) rfl rfl rfl (C.w p3) (C.w hw) ⟨p6, p7, p8⟩ hR
  exact vx_calli (vx_runV (As := As) (rest := st) C hM ⟨cb, C.w p1, C.w p2⟩ ⟨PC.blind, hr lay H s hW K.2.1, fun U hU hWm => ⟨rfl, fun q hq => K.1 q (Nat.le_trans hS.1 (by rw [← hU]; exact hq)), by rw [hU]; exact hW, va_K.moved hWm.alike K.2.1, by rw [hU]; exact XS.warm hWm (K.2.2.1.kept hS.2.1)⟩⟩ rfl hn hl.1 rfl (lv_room hsum) hd hc) hS (fun q _ h => h) (fun q h => h) (fun q _ h => h) (fun E ce q9 u t H1 locs1 ht hvm hp hB hz hk hS1 hce hcv hcl => xx_out M hx ht hp hB hS1 hce hcv hcl) (fun r0 u t H1 locs1 ht hvm hp hB hz hk hS1 => hp.elim)
theorem kx_Si (C : KX p m c cc nL s args own) (K : KC l g A s) (M : KM meth ret) (hx : ∀ x ∈ c.exceptionTable.toList, False) {rt : FieldType} (hM : XI l y bytes nl rt fr lc As Wf g A lay σ σ' ex) (P : CPs y bytes nl (some rt) np) (hw : Cond.methodLink own index y ∈ AW) (hd : decode cc pc = .ok (.invokestatic index, 3)) (hn : As.length = np) (hstk : stk = As.reverse ++ st) (hsum : (st.map fun v => v.category).sum ≤ 8) (hR : fr + 1 ≤ R.frames ∧ 8 + (nl + 11) + lc ≤ R.locals) (hc : k + 1 ≤ R.cells ∧ n + 6 ≤ R.slots) : JJ p l e R s m args below meth c (vx_MQ below Qc (xxX (BC Wf) A σ' ex) args s (k + 1) (n + 6) A) A nL (Wf lay σ) k n pc lo stk := by
  subst hstk
  intro H locs ls hW hS hl
  obtain ⟨p1, p3, p4, p6, p7, p8⟩ := P
  have cb := callB_of (R := R) (rm := rmk fr lc 1 6) np C.2.2.2.2 (goodAW p4) rfl rfl rfl (C.w p3) (C.w hw) ⟨p6, p7, p8⟩ hR
  exact vx_calli (vx_runS (As := As) (rest := st) C hM ⟨cb, C.w p1⟩ ⟨PC.blind, fun U hU hWm => ⟨rfl, fun q hq => K.1 q (Nat.le_trans hS.1 (by rw [← hU]; exact hq)), by rw [hU]; exact hW, va_K.moved hWm.alike K.2.1, by rw [hU]; exact XS.warm hWm (K.2.2.1.kept hS.2.1)⟩⟩ rfl hn hl.1 rfl (lv_room hsum) hd hc) hS (fun q _ h => h) (fun q h => h) (fun q _ h => h) (fun E ce q9 u t H1 locs1 ht hvm hp hB hz hk hS1 hce hcv hcl => xx_out M hx ht hp hB hS1 hce hcv hcl) (fun r0 u t H1 locs1 ht hvm hp hB hz hk hS1 => hp.elim)
end XCALLS
end EXC
/-- the words of a throw: those of the list, or the casts that come beside -/
def xatW (ic : Nat) (cls : String) : Prop := (∀ w ∈ vx_atS RX5 ic cls xNm, (w ∈ lw_tbl ∧ goodWord w = true) ∨ w ∈ xsC) ∧ ∀ w ∈ vx_atS RX5 ic cls xNm, vx_ot w = true
theorem xat_X5_58 : xatW 58 "java/lang/IllegalArgumentException" := ⟨by decide +kernel, by decide +kernel⟩
theorem xat_X5_84 : xatW 84 "java/lang/IllegalStateException" := ⟨by decide +kernel, by decide +kernel⟩
theorem xat_X5_235 : xatW 235 "java/lang/IndexOutOfBoundsException" := ⟨by decide +kernel, by decide +kernel⟩
theorem xs_183 : (183, "what is not 0 to 11") ∈ xsS := by decide +kernel
theorem xs_324 : (324, "the node does not exist") ∈ xsS := by decide +kernel
theorem xs_221 : (221, "what is not 0 to 8") ∈ xsS := by decide +kernel
theorem xs_329 : (329, "the slot does not exist") ∈ xsS := by decide +kernel
theorem xs_229 : (229, "what is not 0 to 3") ∈ xsS := by decide +kernel
theorem xs_233 : (233, "the write does not exist") ∈ xsS := by decide +kernel
theorem xs_241 : (241, "what is not 0 to 2") ∈ xsS := by decide +kernel
theorem xs_342 : (342, "the node has no open round") ∈ xsS := by decide +kernel
theorem xs_266 : (266, "what is not 0 to 6") ∈ xsS := by decide +kernel
theorem xs_56 : (56, "nodes is not 3 to 7") ∈ xsS := by decide +kernel
theorem xs_61 : (61, "slots is not 1 to 4") ∈ xsS := by decide +kernel
theorem xs_331 : (331, "reached is out of range") ∈ xsS := by decide +kernel
theorem xs_82 : (82, "the node is down, or has not joined") ∈ xsS := by decide +kernel
theorem xs_92 : (92, "value is not 0 to 9") ∈ xsS := by decide +kernel
theorem xs_335 : (335, "the node is down") ∈ xsS := by decide +kernel
theorem xs_333 : (333, "lost is less than 0") ∈ xsS := by decide +kernel
theorem xs_337 : (337, "the node is up") ∈ xsS := by decide +kernel
theorem xs_126 : (126, "the node is down, or has joined") ∈ xsS := by decide +kernel
theorem xs_131 : (131, "code is not 32 to 126") ∈ xsS := by decide +kernel
theorem xs_136 : (136, "the buffer is full") ∈ xsS := by decide +kernel
theorem xs_144 : (144, "the buffer is not a complete text") ∈ xsS := by decide +kernel
theorem xs_282 : (282, "the slot is not decided") ∈ xsS := by decide +kernel
set_option maxRecDepth 100000 in
theorem jx_1 {p : Program} {l : Launch} {e : Env} {R : Room} {s : State} {m : MethodId} {args : Array Value} {below : List Frame} {meth : Method} {c : Code} {A : Nat → Prop} {nL : Nat} {k n pc : Nat} {lo : List (Nat × Value)} {st : List Value} {cc : ByteArray} {S : Type} {Wf : (Nat → Nat) → S → Heap → Prop} {g : GG} {lay : Nat → Nat} {σ : S} {ret : Option FieldType} {Qc : Array Value → State → Outcome → State → Prop} (C : KX p m c cc nL s args RX5) (K : KC l g A s) (M : KM meth ret) (hx : ∀ x ∈ c.exceptionTable.toList, False) (hWf : ∀ (lay : Nat → Nat) (σ : S) (H H1 : Heap), H.size ≤ H1.size → (∀ q : Nat, q < H.size → H1[q]? = H[q]?) → Wf lay σ H → Wf lay σ H1) {ik is ic : Nat} {text : String} (hk : Cond.classLink RX5 ik "java/lang/IndexOutOfBoundsException" ∈ AW) (hs : (is, text) ∈ xsS) (hat : xatW ic "java/lang/IndexOutOfBoundsException") (d0 : decode cc pc = .ok (.new ik, 3)) (d3 : decode cc (pc + 3) = .ok (.dup, 1)) (d4 : decode cc (pc + 4) = .ok (.ldc is, 2)) (d6 : decode cc (pc + 6) = .ok (.invokespecial ic, 3)) (d9 : decode cc (pc + 9) = .ok (.athrow, 1)) (hRf : 5 < R.frames) (hRl : (st.map fun v => v.category).sum + 82 ≤ R.locals) (hRc : k + 1 ≤ R.cells ∧ n + 6 ≤ R.slots) :
    JJ p l e R s m args below meth c (vx_MQ below Qc (xxX (BC Wf) A σ 1) args s (k + 1) (n + 6) A) A nL (Wf lay σ) k n pc lo st := by
  intro H locs ls hW hS hl
  obtain ⟨sa, hsa⟩ := K.2.2.1.2.2.2.2.1 _ hs
  have hat1 : ∀ w ∈ vx_atS RX5 ic "java/lang/IndexOutOfBoundsException" xNm, w.before args s = true := fun w hw => by
    rcases hat.1 w hw with ⟨h1, h2⟩ | h1
    · exact C.w (mAW h1 h2)
    · have h3 := K.2.2.1.2.2.2.1 w h1
      simp only [xsC, List.mem_cons, List.not_mem_nil, or_false] at h1
      rcases h1 with rfl | rfl | rfl | rfl | rfl | rfl <;> exact va_Nw.use rfl h3
  have hgood : ∀ w ∈ Cond.classLink RX5 ik "java/lang/IndexOutOfBoundsException" :: Cond.initialized "java/lang/IndexOutOfBoundsException" :: vx_atS RX5 ic "java/lang/IndexOutOfBoundsException" xNm, vx_ot w = true := fun w hw => by
    rcases List.mem_cons.mp hw with rfl | hw
    · rfl
    · rcases List.mem_cons.mp hw with rfl | hw
      · rfl
      · exact hat.2 w hw
  refine vx_throwS C.1 C.2.1 K.2.2.2 C.2.2.2.1 (by decide) (by decide) (C.w hk) (C.w mw_110) hsa hat1 hgood K.2.2.1.1 K.2.2.1.2.1 hS (hl.1.trans C.2.2.1.symm) d0 d3 d4 d6 d9 (fun x h => (hx x h).elim) hRf hRl hRc.1 hRc.2 M.2 (fun t hvm hz hq => ?_) hS.2.2 (Nat.le_refl _) (Nat.le_refl _)
  exact ⟨σ, rfl, ⟨rfl, lay, hWf lay σ H t.heap hz hq hW⟩, Nat.le_trans hS.1 hz, fun q h1 h2 => (hq q (Nat.lt_of_lt_of_le h1 hS.1)).trans (hS.2.1 q h1 h2)⟩
set_option maxRecDepth 100000 in
theorem jx_w1 {p : Program} {l : Launch} {e : Env} {R : Room} {s : State} {m : MethodId} {args : Array Value} {below : List Frame} {meth : Method} {c : Code} {A : Nat → Prop} {nL : Nat} {k n pc : Nat} {lo : List (Nat × Value)} {st : List Value} {cc : ByteArray} {S : Type} {Wf : (Nat → Nat) → S → Heap → Prop} {g : GG} {lay : Nat → Nat} {σ : S} {ret : Option FieldType} {Qc : Array Value → State → Outcome → State → Prop} (C : KX p m c cc nL s args RX5) (K : KC l g A s) (M : KM meth ret) (hx : ∀ x ∈ c.exceptionTable.toList, False) (hWf : ∀ (lay : Nat → Nat) (σ : S) (H H1 : Heap), H.size ≤ H1.size → (∀ q : Nat, q < H.size → H1[q]? = H[q]?) → Wf lay σ H → Wf lay σ H1) {ik is ic : Nat} {text : String} (hk : Cond.classLink RX5 ik "java/lang/IndexOutOfBoundsException" ∈ AW) (hs : (is, text) ∈ xsS) (hat : xatW ic "java/lang/IndexOutOfBoundsException") (d0 : decode cc pc = .ok (.new ik, 3)) (d3 : decode cc (pc + 3) = .ok (.dup, 1)) (d4 : decode cc (pc + 4) = .ok (.ldc_w is, 3)) (d6 : decode cc (pc + 7) = .ok (.invokespecial ic, 3)) (d9 : decode cc (pc + 10) = .ok (.athrow, 1)) (hRf : 5 < R.frames) (hRl : (st.map fun v => v.category).sum + 82 ≤ R.locals) (hRc : k + 1 ≤ R.cells ∧ n + 6 ≤ R.slots) :
    JJ p l e R s m args below meth c (vx_MQ below Qc (xxX (BC Wf) A σ 1) args s (k + 1) (n + 6) A) A nL (Wf lay σ) k n pc lo st := by
  intro H locs ls hW hS hl
  obtain ⟨sa, hsa⟩ := K.2.2.1.2.2.2.2.1 _ hs
  have hat1 : ∀ w ∈ vx_atS RX5 ic "java/lang/IndexOutOfBoundsException" xNm, w.before args s = true := fun w hw => by
    rcases hat.1 w hw with ⟨h1, h2⟩ | h1
    · exact C.w (mAW h1 h2)
    · have h3 := K.2.2.1.2.2.2.1 w h1
      simp only [xsC, List.mem_cons, List.not_mem_nil, or_false] at h1
      rcases h1 with rfl | rfl | rfl | rfl | rfl | rfl <;> exact va_Nw.use rfl h3
  have hgood : ∀ w ∈ Cond.classLink RX5 ik "java/lang/IndexOutOfBoundsException" :: Cond.initialized "java/lang/IndexOutOfBoundsException" :: vx_atS RX5 ic "java/lang/IndexOutOfBoundsException" xNm, vx_ot w = true := fun w hw => by
    rcases List.mem_cons.mp hw with rfl | hw
    · rfl
    · rcases List.mem_cons.mp hw with rfl | hw
      · rfl
      · exact hat.2 w hw
  refine vx_throwSW C.1 C.2.1 K.2.2.2 C.2.2.2.1 (by decide) (by decide) (C.w hk) (C.w mw_110) hsa hat1 hgood K.2.2.1.1 K.2.2.1.2.1 hS (hl.1.trans C.2.2.1.symm) d0 d3 d4 d6 d9 (fun x h => (hx x h).elim) hRf hRl hRc.1 hRc.2 M.2 (fun t hvm hz hq => ?_) hS.2.2 (Nat.le_refl _) (Nat.le_refl _)
  exact ⟨σ, rfl, ⟨rfl, lay, hWf lay σ H t.heap hz hq hW⟩, Nat.le_trans hS.1 hz, fun q h1 h2 => (hq q (Nat.lt_of_lt_of_le h1 hS.1)).trans (hS.2.1 q h1 h2)⟩
set_option maxRecDepth 100000 in
theorem jx_2 {p : Program} {l : Launch} {e : Env} {R : Room} {s : State} {m : MethodId} {args : Array Value} {below : List Frame} {meth : Method} {c : Code} {A : Nat → Prop} {nL : Nat} {k n pc : Nat} {lo : List (Nat × Value)} {st : List Value} {cc : ByteArray} {S : Type} {Wf : (Nat → Nat) → S → Heap → Prop} {g : GG} {lay : Nat → Nat} {σ : S} {ret : Option FieldType} {Qc : Array Value → State → Outcome → State → Prop} (C : KX p m c cc nL s args RX5) (K : KC l g A s) (M : KM meth ret) (hx : ∀ x ∈ c.exceptionTable.toList, False) (hWf : ∀ (lay : Nat → Nat) (σ : S) (H H1 : Heap), H.size ≤ H1.size → (∀ q : Nat, q < H.size → H1[q]? = H[q]?) → Wf lay σ H → Wf lay σ H1) {ik is ic : Nat} {text : String} (hk : Cond.classLink RX5 ik "java/lang/IllegalArgumentException" ∈ AW) (hs : (is, text) ∈ xsS) (hat : xatW ic "java/lang/IllegalArgumentException") (d0 : decode cc pc = .ok (.new ik, 3)) (d3 : decode cc (pc + 3) = .ok (.dup, 1)) (d4 : decode cc (pc + 4) = .ok (.ldc is, 2)) (d6 : decode cc (pc + 6) = .ok (.invokespecial ic, 3)) (d9 : decode cc (pc + 9) = .ok (.athrow, 1)) (hRf : 5 < R.frames) (hRl : (st.map fun v => v.category).sum + 82 ≤ R.locals) (hRc : k + 1 ≤ R.cells ∧ n + 6 ≤ R.slots) :
    JJ p l e R s m args below meth c (vx_MQ below Qc (xxX (BC Wf) A σ 2) args s (k + 1) (n + 6) A) A nL (Wf lay σ) k n pc lo st := by
  intro H locs ls hW hS hl
  obtain ⟨sa, hsa⟩ := K.2.2.1.2.2.2.2.1 _ hs
  have hat1 : ∀ w ∈ vx_atS RX5 ic "java/lang/IllegalArgumentException" xNm, w.before args s = true := fun w hw => by
    rcases hat.1 w hw with ⟨h1, h2⟩ | h1
    · exact C.w (mAW h1 h2)
    · have h3 := K.2.2.1.2.2.2.1 w h1
      simp only [xsC, List.mem_cons, List.not_mem_nil, or_false] at h1
      rcases h1 with rfl | rfl | rfl | rfl | rfl | rfl <;> exact va_Nw.use rfl h3
  have hgood : ∀ w ∈ Cond.classLink RX5 ik "java/lang/IllegalArgumentException" :: Cond.initialized "java/lang/IllegalArgumentException" :: vx_atS RX5 ic "java/lang/IllegalArgumentException" xNm, vx_ot w = true := fun w hw => by
    rcases List.mem_cons.mp hw with rfl | hw
    · rfl
    · rcases List.mem_cons.mp hw with rfl | hw
      · rfl
      · exact hat.2 w hw
  refine vx_throwS C.1 C.2.1 K.2.2.2 C.2.2.2.1 (by decide) (by decide) (C.w hk) (C.w mw_109) hsa hat1 hgood K.2.2.1.1 K.2.2.1.2.1 hS (hl.1.trans C.2.2.1.symm) d0 d3 d4 d6 d9 (fun x h => (hx x h).elim) hRf hRl hRc.1 hRc.2 M.2 (fun t hvm hz hq => ?_) hS.2.2 (Nat.le_refl _) (Nat.le_refl _)
  exact ⟨σ, rfl, ⟨rfl, lay, hWf lay σ H t.heap hz hq hW⟩, Nat.le_trans hS.1 hz, fun q h1 h2 => (hq q (Nat.lt_of_lt_of_le h1 hS.1)).trans (hS.2.1 q h1 h2)⟩
set_option maxRecDepth 100000 in
theorem jx_w2 {p : Program} {l : Launch} {e : Env} {R : Room} {s : State} {m : MethodId} {args : Array Value} {below : List Frame} {meth : Method} {c : Code} {A : Nat → Prop} {nL : Nat} {k n pc : Nat} {lo : List (Nat × Value)} {st : List Value} {cc : ByteArray} {S : Type} {Wf : (Nat → Nat) → S → Heap → Prop} {g : GG} {lay : Nat → Nat} {σ : S} {ret : Option FieldType} {Qc : Array Value → State → Outcome → State → Prop} (C : KX p m c cc nL s args RX5) (K : KC l g A s) (M : KM meth ret) (hx : ∀ x ∈ c.exceptionTable.toList, False) (hWf : ∀ (lay : Nat → Nat) (σ : S) (H H1 : Heap), H.size ≤ H1.size → (∀ q : Nat, q < H.size → H1[q]? = H[q]?) → Wf lay σ H → Wf lay σ H1) {ik is ic : Nat} {text : String} (hk : Cond.classLink RX5 ik "java/lang/IllegalArgumentException" ∈ AW) (hs : (is, text) ∈ xsS) (hat : xatW ic "java/lang/IllegalArgumentException") (d0 : decode cc pc = .ok (.new ik, 3)) (d3 : decode cc (pc + 3) = .ok (.dup, 1)) (d4 : decode cc (pc + 4) = .ok (.ldc_w is, 3)) (d6 : decode cc (pc + 7) = .ok (.invokespecial ic, 3)) (d9 : decode cc (pc + 10) = .ok (.athrow, 1)) (hRf : 5 < R.frames) (hRl : (st.map fun v => v.category).sum + 82 ≤ R.locals) (hRc : k + 1 ≤ R.cells ∧ n + 6 ≤ R.slots) :
    JJ p l e R s m args below meth c (vx_MQ below Qc (xxX (BC Wf) A σ 2) args s (k + 1) (n + 6) A) A nL (Wf lay σ) k n pc lo st := by
  intro H locs ls hW hS hl
  obtain ⟨sa, hsa⟩ := K.2.2.1.2.2.2.2.1 _ hs
  have hat1 : ∀ w ∈ vx_atS RX5 ic "java/lang/IllegalArgumentException" xNm, w.before args s = true := fun w hw => by
    rcases hat.1 w hw with ⟨h1, h2⟩ | h1
    · exact C.w (mAW h1 h2)
    · have h3 := K.2.2.1.2.2.2.1 w h1
      simp only [xsC, List.mem_cons, List.not_mem_nil, or_false] at h1
      rcases h1 with rfl | rfl | rfl | rfl | rfl | rfl <;> exact va_Nw.use rfl h3
  have hgood : ∀ w ∈ Cond.classLink RX5 ik "java/lang/IllegalArgumentException" :: Cond.initialized "java/lang/IllegalArgumentException" :: vx_atS RX5 ic "java/lang/IllegalArgumentException" xNm, vx_ot w = true := fun w hw => by
    rcases List.mem_cons.mp hw with rfl | hw
    · rfl
    · rcases List.mem_cons.mp hw with rfl | hw
      · rfl
      · exact hat.2 w hw
  refine vx_throwSW C.1 C.2.1 K.2.2.2 C.2.2.2.1 (by decide) (by decide) (C.w hk) (C.w mw_109) hsa hat1 hgood K.2.2.1.1 K.2.2.1.2.1 hS (hl.1.trans C.2.2.1.symm) d0 d3 d4 d6 d9 (fun x h => (hx x h).elim) hRf hRl hRc.1 hRc.2 M.2 (fun t hvm hz hq => ?_) hS.2.2 (Nat.le_refl _) (Nat.le_refl _)
  exact ⟨σ, rfl, ⟨rfl, lay, hWf lay σ H t.heap hz hq hW⟩, Nat.le_trans hS.1 hz, fun q h1 h2 => (hq q (Nat.lt_of_lt_of_le h1 hS.1)).trans (hS.2.1 q h1 h2)⟩
set_option maxRecDepth 100000 in
theorem jx_3 {p : Program} {l : Launch} {e : Env} {R : Room} {s : State} {m : MethodId} {args : Array Value} {below : List Frame} {meth : Method} {c : Code} {A : Nat → Prop} {nL : Nat} {k n pc : Nat} {lo : List (Nat × Value)} {st : List Value} {cc : ByteArray} {S : Type} {Wf : (Nat → Nat) → S → Heap → Prop} {g : GG} {lay : Nat → Nat} {σ : S} {ret : Option FieldType} {Qc : Array Value → State → Outcome → State → Prop} (C : KX p m c cc nL s args RX5) (K : KC l g A s) (M : KM meth ret) (hx : ∀ x ∈ c.exceptionTable.toList, False) (hWf : ∀ (lay : Nat → Nat) (σ : S) (H H1 : Heap), H.size ≤ H1.size → (∀ q : Nat, q < H.size → H1[q]? = H[q]?) → Wf lay σ H → Wf lay σ H1) {ik is ic : Nat} {text : String} (hk : Cond.classLink RX5 ik "java/lang/IllegalStateException" ∈ AW) (hs : (is, text) ∈ xsS) (hat : xatW ic "java/lang/IllegalStateException") (d0 : decode cc pc = .ok (.new ik, 3)) (d3 : decode cc (pc + 3) = .ok (.dup, 1)) (d4 : decode cc (pc + 4) = .ok (.ldc is, 2)) (d6 : decode cc (pc + 6) = .ok (.invokespecial ic, 3)) (d9 : decode cc (pc + 9) = .ok (.athrow, 1)) (hRf : 5 < R.frames) (hRl : (st.map fun v => v.category).sum + 82 ≤ R.locals) (hRc : k + 1 ≤ R.cells ∧ n + 6 ≤ R.slots) :
    JJ p l e R s m args below meth c (vx_MQ below Qc (xxX (BC Wf) A σ 3) args s (k + 1) (n + 6) A) A nL (Wf lay σ) k n pc lo st := by
  intro H locs ls hW hS hl
  obtain ⟨sa, hsa⟩ := K.2.2.1.2.2.2.2.1 _ hs
  have hat1 : ∀ w ∈ vx_atS RX5 ic "java/lang/IllegalStateException" xNm, w.before args s = true := fun w hw => by
    rcases hat.1 w hw with ⟨h1, h2⟩ | h1
    · exact C.w (mAW h1 h2)
    · have h3 := K.2.2.1.2.2.2.1 w h1
      simp only [xsC, List.mem_cons, List.not_mem_nil, or_false] at h1
      rcases h1 with rfl | rfl | rfl | rfl | rfl | rfl <;> exact va_Nw.use rfl h3
  have hgood : ∀ w ∈ Cond.classLink RX5 ik "java/lang/IllegalStateException" :: Cond.initialized "java/lang/IllegalStateException" :: vx_atS RX5 ic "java/lang/IllegalStateException" xNm, vx_ot w = true := fun w hw => by
    rcases List.mem_cons.mp hw with rfl | hw
    · rfl
    · rcases List.mem_cons.mp hw with rfl | hw
      · rfl
      · exact hat.2 w hw
  refine vx_throwS C.1 C.2.1 K.2.2.2 C.2.2.2.1 (by decide) (by decide) (C.w hk) (C.w mw_111) hsa hat1 hgood K.2.2.1.1 K.2.2.1.2.1 hS (hl.1.trans C.2.2.1.symm) d0 d3 d4 d6 d9 (fun x h => (hx x h).elim) hRf hRl hRc.1 hRc.2 M.2 (fun t hvm hz hq => ?_) hS.2.2 (Nat.le_refl _) (Nat.le_refl _)
  exact ⟨σ, rfl, ⟨rfl, lay, hWf lay σ H t.heap hz hq hW⟩, Nat.le_trans hS.1 hz, fun q h1 h2 => (hq q (Nat.lt_of_lt_of_le h1 hS.1)).trans (hS.2.1 q h1 h2)⟩
set_option maxRecDepth 100000 in
theorem jx_w3 {p : Program} {l : Launch} {e : Env} {R : Room} {s : State} {m : MethodId} {args : Array Value} {below : List Frame} {meth : Method} {c : Code} {A : Nat → Prop} {nL : Nat} {k n pc : Nat} {lo : List (Nat × Value)} {st : List Value} {cc : ByteArray} {S : Type} {Wf : (Nat → Nat) → S → Heap → Prop} {g : GG} {lay : Nat → Nat} {σ : S} {ret : Option FieldType} {Qc : Array Value → State → Outcome → State → Prop} (C : KX p m c cc nL s args RX5) (K : KC l g A s) (M : KM meth ret) (hx : ∀ x ∈ c.exceptionTable.toList, False) (hWf : ∀ (lay : Nat → Nat) (σ : S) (H H1 : Heap), H.size ≤ H1.size → (∀ q : Nat, q < H.size → H1[q]? = H[q]?) → Wf lay σ H → Wf lay σ H1) {ik is ic : Nat} {text : String} (hk : Cond.classLink RX5 ik "java/lang/IllegalStateException" ∈ AW) (hs : (is, text) ∈ xsS) (hat : xatW ic "java/lang/IllegalStateException") (d0 : decode cc pc = .ok (.new ik, 3)) (d3 : decode cc (pc + 3) = .ok (.dup, 1)) (d4 : decode cc (pc + 4) = .ok (.ldc_w is, 3)) (d6 : decode cc (pc + 7) = .ok (.invokespecial ic, 3)) (d9 : decode cc (pc + 10) = .ok (.athrow, 1)) (hRf : 5 < R.frames) (hRl : (st.map fun v => v.category).sum + 82 ≤ R.locals) (hRc : k + 1 ≤ R.cells ∧ n + 6 ≤ R.slots) :
    JJ p l e R s m args below meth c (vx_MQ below Qc (xxX (BC Wf) A σ 3) args s (k + 1) (n + 6) A) A nL (Wf lay σ) k n pc lo st := by
  intro H locs ls hW hS hl
  obtain ⟨sa, hsa⟩ := K.2.2.1.2.2.2.2.1 _ hs
  have hat1 : ∀ w ∈ vx_atS RX5 ic "java/lang/IllegalStateException" xNm, w.before args s = true := fun w hw => by
    rcases hat.1 w hw with ⟨h1, h2⟩ | h1
    · exact C.w (mAW h1 h2)
    · have h3 := K.2.2.1.2.2.2.1 w h1
      simp only [xsC, List.mem_cons, List.not_mem_nil, or_false] at h1
      rcases h1 with rfl | rfl | rfl | rfl | rfl | rfl <;> exact va_Nw.use rfl h3
  have hgood : ∀ w ∈ Cond.classLink RX5 ik "java/lang/IllegalStateException" :: Cond.initialized "java/lang/IllegalStateException" :: vx_atS RX5 ic "java/lang/IllegalStateException" xNm, vx_ot w = true := fun w hw => by
    rcases List.mem_cons.mp hw with rfl | hw
    · rfl
    · rcases List.mem_cons.mp hw with rfl | hw
      · rfl
      · exact hat.2 w hw
  refine vx_throwSW C.1 C.2.1 K.2.2.2 C.2.2.2.1 (by decide) (by decide) (C.w hk) (C.w mw_111) hsa hat1 hgood K.2.2.1.1 K.2.2.1.2.1 hS (hl.1.trans C.2.2.1.symm) d0 d3 d4 d6 d9 (fun x h => (hx x h).elim) hRf hRl hRc.1 hRc.2 M.2 (fun t hvm hz hq => ?_) hS.2.2 (Nat.le_refl _) (Nat.le_refl _)
  exact ⟨σ, rfl, ⟨rfl, lay, hWf lay σ H t.heap hz hq hW⟩, Nat.le_trans hS.1 hz, fun q h1 h2 => (hq q (Nat.lt_of_lt_of_le h1 hS.1)).trans (hS.2.1 q h1 h2)⟩
theorem CH_kept {g : GG} {A : Nat → Prop} : ∀ (lay : Nat → Nat) (σ : CS) (H H1 : Heap), H.size ≤ H1.size → (∀ q : Nat, q < H.size → H1[q]? = H[q]?) → CH g A lay σ H → CH g A lay σ H1 := fun lay σ H H1 _ hq h => ⟨h.1.kept (fun k q hk => hq q.1 ((h.1 k q hk).lt)), h.2⟩
