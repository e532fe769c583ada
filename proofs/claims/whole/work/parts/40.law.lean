/-! ===== the law: calls over a part of a plain world ===== -/
def Lx {S : Type} (g : GG) (wx : (Nat → Nat) → S → va_W) (A : Nat → Prop) (lay : Nat → Nat) (σ : S) (H : Heap) : Prop := va_P g.1 vwCl (wx lay σ) H ∧ va_D A (wx lay σ)
def outc (g : GG) (qo : Nat) (v : Int64) : Nat × va_E := (qo, .inl (gJ g, (1, .inr (.inl (fun _ => v)))))
def oW (g : GG) (qo : Nat) (lay : Nat → Nat) (σ : CS × Int64) : va_W := [outc g qo σ.2] ++ cW g lay σ.1
def rX (g : GG) (_ : Nat → Nat) (ρ : RS) : va_W := rW g ρ
theorem LW_sub {g : GG} {A : Nat → Prop} {ly lay : Nat → Nat} {w0 wc : va_W} {H : Heap} (hW : LW g A ly (w0 ++ wc) H) : va_P g.1 vwCl wc H ∧ va_D (va_A wc H.size) wc := by
  have hi : ∀ (k : Nat) (q : Nat × va_E), wc[k]? = some q → (w0 ++ wc)[w0.length + k]? = some q := fun k q h => by
    rw [List.getElem?_append_right (by omega), Nat.add_sub_cancel_left]; exact h
  exact ⟨fun k q hq => hW.1 _ q (hi k q hq), fun i j p q h1 h2 e => by have := hW.2.1 _ _ p q (hi i p h1) (hi j q h2) e; omega, fun k q hq => va_A.in hq⟩
theorem LW_comm {g : GG} {A : Nat → Prop} {ly lay' : Nat → Nat} {w0 wc : va_W} {H : Heap} (hW : LW g A ly (w0 ++ wc) H) : LW g A lay' (wc ++ w0) H := by
  have lo : ∀ (k : Nat) (q : Nat × va_E), w0[k]? = some q → (w0 ++ wc)[k]? = some q := fun k q h => by
    rw [List.getElem?_append_left (List.getElem?_eq_some_iff.mp h).1]; exact h
  have hi : ∀ (k : Nat) (q : Nat × va_E), wc[k]? = some q → (w0 ++ wc)[w0.length + k]? = some q := fun k q h => by
    rw [List.getElem?_append_right (by omega), Nat.add_sub_cancel_left]; exact h
  refine ⟨va_P.app (fun k q hq => hW.1 _ q (hi k q hq)) (fun k q hq => hW.1 _ q (lo k q hq)), va_D.app ⟨fun i j p q h1 h2 e => by have := hW.2.1 _ _ p q (hi i p h1) (hi j q h2) e; omega, fun k q hq => hW.2.2 _ q (hi k q hq)⟩ ⟨fun i j p q h1 h2 e => hW.2.1 _ _ p q (lo i p h1) (lo j q h2) e, fun k q hq => hW.2.2 _ q (lo k q hq)⟩ (fun i j x y hx hy hxy => ?_)⟩
  have := hW.2.1 _ _ x y (hi i x hx) (lo j y hy) hxy
  have := (List.getElem?_eq_some_iff.mp hy).1
  omega
theorem LW_assoc {g : GG} {A : Nat → Prop} {ly : Nat → Nat} {w0 w1 wc : va_W} {H : Heap} : LW g A ly (w0 ++ (w1 ++ wc)) H ↔ LW g A ly ((w0 ++ w1) ++ wc) H := by rw [List.append_assoc]
def MIw {S : Type} (l : Launch) (y : MethodName) (cc : ByteArray) (nl : Nat) (hh : List (Nat × Nat × Nat × Nat)) (fr lc mc ms : Nat) (av : List Value) (Wf : (Nat → Nat) → S → Heap → Prop) (g : GG) (A : Nat → Prop) (lay : Nat → Nat) (σ σ' : S) (r : Int32) : Prop := Met l y (Cond.codeWith y cc nl (some .int) hh :: AW) (rmk fr lc mc ms) (va_Pc av (PC Wf g A lay σ)) (va_Qi (fun (r0 : Int32) (u : S) => r0 = r ∧ u = σ') (BC Wf) A) mc ms A
theorem Met_of2W {l : Launch} {y : MethodName} {ws ws' : List Cond} {rm : Room} {Pc : Array Value → State → Prop} {Qc : Array Value → State → Outcome → State → Prop} {mc ms : Nat} {free : Addr → Prop} {cc : ByteArray} {maxL : Nat} {ret : Option FieldType} {hh : List (Nat × Nat × Nat × Nat)}
    (hy : plainFor y = true) (hw : ws = Cond.codeWith y cc maxL ret hh :: ws')
    (body : ∀ p e s m args below meth c s₁, BodyLoose p l y (headSpec ws rm) cc maxL ret e s m args below meth c s₁ → c.maxLocals = maxL → c.exceptionTable.toList = tableOf hh → Pc args s →
      W p l e (headSpec ws rm).room s m args below meth c s.heap [] 0 0 (MQ below Qc args s mc ms free) (entryFrame m args maxL)) : Met l y ws rm Pc Qc mc ms free := by
  refine MetFree.of_bodySF (code := cc) (maxLocals := maxL) (ret := ret) hy ?_ ?_
  · intro args s m h hn
    obtain ⟨m9, meth, c, hn9, h1, h2, h3, h4, -, h5, h6, -⟩ := Cond.codeWith_spec (atoms_spec (ws := ws) h _ (by rw [hw]; exact List.mem_cons_self))
    cases hn.symm.trans hn9
    exact ⟨meth, c, h1, h2, h3, h4, h5, h6⟩
  · intro p e s m args below meth c s₁ B hml hP _
    have hh0 : s₁.heap = s.heap := by rw [B.state]; rfl
    have ht : c.exceptionTable.toList = tableOf hh := vx_table (x := y) B (atoms_spec (ws := ws) B.pre _ (by rw [hw]; exact List.mem_cons_self))
    obtain ⟨t, a1, o, b1, b2, b3⟩ := body p e s m args below meth c s₁ B hml ht hP s₁ hh0 (Stand.of_body B)
    exact ⟨t, o, a1, b1, b2, ⟨b3.1, b3.2⟩⟩
theorem e_iw {S : Type} {l : Launch} {y : MethodName} {cc : ByteArray} {nl : Nat} {hh : List (Nat × Nat × Nat × Nat)} {fr lc mc ms : Nat} {av : List Value} {Wf : (Nat → Nat) → S → Heap → Prop} {g : GG} {A : Nat → Prop} {lay : Nat → Nat} {σ σ' : S} {r : Int32} {own : String} {lo : List (Nat × Value)} (hst : l.stackTraces = false) (hy : plainFor y = true) (ho : y.cls = own) (hlo : lv_args 0 av = lo) (hlen : (lg_sl av).length ≤ nl)
    (body : ∀ (p : Program) (e : Env) (s : State) (m : MethodId) (args : Array Value) (below : List Frame) (meth : Method) (c : Code), KX p m c cc nl s args own → KC l g A s → KM meth (some .int) → c.exceptionTable.toList = tableOf hh → JJ p l e (rmk fr lc mc ms) s m args below meth c (MQ below (va_Qi (fun (r0 : Int32) (u : S) => r0 = r ∧ u = σ') (BC Wf) A) args s mc ms A) A nl (Wf lay σ) 0 0 0 lo []) : MIw l y cc nl hh fr lc mc ms av Wf g A lay σ σ' r := by
  refine Met_of2W (cc := cc) (maxL := nl) (ret := (some .int)) (hh := hh) hy rfl ?_
  intro p e s m args below meth c s₁ B hml hxt hv
  obtain ⟨rfl, hA, hW, hK, hX⟩ := hv
  have hown : s.vm.findClass own = some m.cls := by rw [← ho]; exact findClass_of_methodNamed B.named
  have hts : ∀ w ∈ AW, w.before av.toArray s = true := fun w hw => atoms_spec (ws := Cond.codeWith y cc nl (some .int) hh :: AW) B.pre w (List.mem_cons_of_mem _ hw)
  have hl := lv_entry av (n := nl) hlen
  rw [hlo] at hl
  rw [lg_entry_eq]
  exact body p e s m av.toArray below meth c ⟨B.exec, B.bytes, hml, hown, hts⟩ ⟨hA, hK, hX, hst⟩ ⟨B.returns, B.notSynchronized⟩ hxt s.heap [] _ hW va_S.rf hl
section LKC
variable {p : Program} {l : Launch} {e : Env} {R : Room} {s : State} {m : MethodId} {args : Array Value} {below : List Frame} {meth : Method} {c : Code} {Q : State → Prop} {A : Nat → Prop} {nL : Nat} {k n pc : Nat} {lo : List (Nat × Value)} {st : List Value} {cc : ByteArray} {own : String} {g : GG} {ly lay : Nat → Nat} {w0 : va_W}
variable {S : Type} {wx : (Nat → Nat) → S → va_W} {σ σ' : S} {y : MethodName} {bytes : ByteArray} {nl fr lc mc ms np index : Nat} {As stk : List Value} {b : Nat} {Cn : String}
theorem lk_F (K : KC l g A s) {wc : va_W} {H : Heap} {locs : List Loc} (hW : LW g A ly (w0 ++ wc) H) (hS : va_S A s.heap H locs) : ∀ q, va_A wc H.size q → A q := fun q h => by
  rcases h with ⟨k, e, h⟩ | h
  · exact hW.2.2 (w0.length + k) (q, e) (by rw [List.getElem?_append_right (by omega), Nat.add_sub_cancel_left]; exact h)
  · exact K.1 q (Nat.le_trans hS.1 h)
theorem lk_pre {H : Heap} {locs : List Loc} {U : State} (K : KC l g A s) (hW : LW g A ly (w0 ++ wx lay σ) H) (hS : va_S A s.heap H locs) (hU : U.heap = H) (hWm : s.WarmedH U.vm) : PC (Lx g wx (va_A (wx lay σ) H.size)) g (va_A (wx lay σ) H.size) lay σ U :=
  ⟨fun q hq => Or.inr (by rw [← hU]; exact hq), by rw [hU]; exact LW_sub (lay := lay) hW, va_K.moved hWm.alike K.2.1, by rw [hU]; exact (XS.warm hWm (K.2.2.1.kept hS.2.1)).narrow (lk_F K hW hS)⟩
theorem lk_Vi (q : Nat) (C : KX p m c cc nL s args own) (K : KC l g A s) {rt : FieldType} {r : Int32} (hM : ∀ A1 : Nat → Prop, MI l y bytes nl rt fr lc mc ms (.ref b :: As) (Lx g wx A1) g A1 lay σ σ' r) (P : CPv y bytes nl (some rt) Cn np) (hr : ∀ A1 : Nat → Prop, RCV (Lx g wx A1) g σ b Cn) (hw : Cond.methodLink own index y ∈ AW) (hd : decode cc pc = .ok (.invokevirtual index, 3)) (hn : As.length = np) (hstk : stk = As.reverse ++ .ref b :: st) (hsum : (st.map fun v => v.category).sum ≤ 8) (hR : fr + 1 ≤ R.frames ∧ 8 + (nl + 11) + lc ≤ R.locals) (hc : k + mc ≤ R.cells ∧ n + ms ≤ R.slots) (hq : pc + 3 = q)
    (KK : ∀ lay' : Nat → Nat, JJ p l e R s m args below meth c Q A nL (LW g A ly (w0 ++ wx lay' σ')) (k + mc) (n + ms) q lo (.int r :: st)) : JJ p l e R s m args below meth c Q A nL (LW g A ly (w0 ++ wx lay σ)) k n pc lo stk := by
  subst hq
  subst hstk
  intro H locs ls hW hS hl
  obtain ⟨p1, p2, p3, p4, rfl, p6, p7, p8⟩ := P
  have cb := callB_of (R := R) (rm := rmk fr lc mc ms) np C.2.2.2.2 (goodAW p4) rfl rfl rfl (C.w p3) (C.w hw) ⟨p6, p7, p8⟩ hR
  have hF := lk_F K hW hS
  refine va_calli (va_runV (As := As) (rest := st) C (hM (va_A (wx lay σ) H.size)) ⟨cb, C.w p1, C.w p2⟩ ⟨PC.blind, hr (va_A (wx lay σ) H.size) lay H s (LW_sub (lay := lay) hW) K.2.1, fun U hU hWm => ⟨rfl, lk_pre K hW hS hU hWm⟩⟩ rfl hn hl.1 rfl (lv_room hsum) hd hc) hS (fun q _ h => hF q h) hF (fun r0 u t H1 locs1 ht hvm hp hB hz hk hS1 => ?_)
  obtain ⟨rfl, rfl⟩ := hp
  obtain ⟨lay1, hB⟩ := hB
  rw [ht] at hB
  exact KK lay1 H1 locs1 ls (LW_join hW.1 hW.2 hk hF hB.1 hB.2) hS1 hl
theorem lk_Vl (q : Nat) (C : KX p m c cc nL s args own) (K : KC l g A s) {r : Int64} (hM : ∀ A1 : Nat → Prop, ML l y bytes nl fr lc mc ms (.ref b :: As) (Lx g wx A1) g A1 lay σ σ' r) (P : CPv y bytes nl (some .long) Cn np) (hr : ∀ A1 : Nat → Prop, RCV (Lx g wx A1) g σ b Cn) (hw : Cond.methodLink own index y ∈ AW) (hd : decode cc pc = .ok (.invokevirtual index, 3)) (hn : As.length = np) (hstk : stk = As.reverse ++ .ref b :: st) (hsum : (st.map fun v => v.category).sum ≤ 8) (hR : fr + 1 ≤ R.frames ∧ 8 + (nl + 11) + lc ≤ R.locals) (hc : k + mc ≤ R.cells ∧ n + ms ≤ R.slots) (hq : pc + 3 = q)
    (KK : ∀ lay' : Nat → Nat, JJ p l e R s m args below meth c Q A nL (LW g A ly (w0 ++ wx lay' σ')) (k + mc) (n + ms) q lo (.long r :: st)) : JJ p l e R s m args below meth c Q A nL (LW g A ly (w0 ++ wx lay σ)) k n pc lo stk := by
  subst hq
  subst hstk
  intro H locs ls hW hS hl
  obtain ⟨p1, p2, p3, p4, rfl, p6, p7, p8⟩ := P
  have cb := callB_of (R := R) (rm := rmk fr lc mc ms) np C.2.2.2.2 (goodAW p4) rfl rfl rfl (C.w p3) (C.w hw) ⟨p6, p7, p8⟩ hR
  have hF := lk_F K hW hS
  refine va_calll (va_runV (As := As) (rest := st) C (hM (va_A (wx lay σ) H.size)) ⟨cb, C.w p1, C.w p2⟩ ⟨PC.blind, hr (va_A (wx lay σ) H.size) lay H s (LW_sub (lay := lay) hW) K.2.1, fun U hU hWm => ⟨rfl, lk_pre K hW hS hU hWm⟩⟩ rfl hn hl.1 rfl (lv_room hsum) hd hc) hS (fun q _ h => hF q h) hF (fun r0 u t H1 locs1 ht hvm hp hB hz hk hS1 => ?_)
  obtain ⟨rfl, rfl⟩ := hp
  obtain ⟨lay1, hB⟩ := hB
  rw [ht] at hB
  exact KK lay1 H1 locs1 ls (LW_join hW.1 hW.2 hk hF hB.1 hB.2) hS1 hl
theorem lk_Vf (q : Nat) (C : KX p m c cc nL s args own) (K : KC l g A s) {r : UInt32} (hM : ∀ A1 : Nat → Prop, MF l y bytes nl fr lc mc ms (.ref b :: As) (Lx g wx A1) g A1 lay σ σ' r) (P : CPv y bytes nl (some .float) Cn np) (hr : ∀ A1 : Nat → Prop, RCV (Lx g wx A1) g σ b Cn) (hw : Cond.methodLink own index y ∈ AW) (hd : decode cc pc = .ok (.invokevirtual index, 3)) (hn : As.length = np) (hstk : stk = As.reverse ++ .ref b :: st) (hsum : (st.map fun v => v.category).sum ≤ 8) (hR : fr + 1 ≤ R.frames ∧ 8 + (nl + 11) + lc ≤ R.locals) (hc : k + mc ≤ R.cells ∧ n + ms ≤ R.slots) (hq : pc + 3 = q)
    (KK : ∀ lay' : Nat → Nat, JJ p l e R s m args below meth c Q A nL (LW g A ly (w0 ++ wx lay' σ')) (k + mc) (n + ms) q lo (.float r :: st)) : JJ p l e R s m args below meth c Q A nL (LW g A ly (w0 ++ wx lay σ)) k n pc lo stk := by
  subst hq
  subst hstk
  intro H locs ls hW hS hl
  obtain ⟨p1, p2, p3, p4, rfl, p6, p7, p8⟩ := P
  have cb := callB_of (R := R) (rm := rmk fr lc mc ms) np C.2.2.2.2 (goodAW p4) rfl rfl rfl (C.w p3) (C.w hw) ⟨p6, p7, p8⟩ hR
  have hF := lk_F K hW hS
  refine va_callf (va_runV (As := As) (rest := st) C (hM (va_A (wx lay σ) H.size)) ⟨cb, C.w p1, C.w p2⟩ ⟨PC.blind, hr (va_A (wx lay σ) H.size) lay H s (LW_sub (lay := lay) hW) K.2.1, fun U hU hWm => ⟨rfl, lk_pre K hW hS hU hWm⟩⟩ rfl hn hl.1 rfl (lv_room hsum) hd hc) hS (fun q _ h => hF q h) hF (fun r0 u t H1 locs1 ht hvm hp hB hz hk hS1 => ?_)
  obtain ⟨rfl, rfl⟩ := hp
  obtain ⟨lay1, hB⟩ := hB
  rw [ht] at hB
  exact KK lay1 H1 locs1 ls (LW_join hW.1 hW.2 hk hF hB.1 hB.2) hS1 hl
theorem lk_Vd (q : Nat) (C : KX p m c cc nL s args own) (K : KC l g A s) {r : UInt64} (hM : ∀ A1 : Nat → Prop, MD l y bytes nl fr lc mc ms (.ref b :: As) (Lx g wx A1) g A1 lay σ σ' r) (P : CPv y bytes nl (some .double) Cn np) (hr : ∀ A1 : Nat → Prop, RCV (Lx g wx A1) g σ b Cn) (hw : Cond.methodLink own index y ∈ AW) (hd : decode cc pc = .ok (.invokevirtual index, 3)) (hn : As.length = np) (hstk : stk = As.reverse ++ .ref b :: st) (hsum : (st.map fun v => v.category).sum ≤ 8) (hR : fr + 1 ≤ R.frames ∧ 8 + (nl + 11) + lc ≤ R.locals) (hc : k + mc ≤ R.cells ∧ n + ms ≤ R.slots) (hq : pc + 3 = q)
    (KK : ∀ lay' : Nat → Nat, JJ p l e R s m args below meth c Q A nL (LW g A ly (w0 ++ wx lay' σ')) (k + mc) (n + ms) q lo (.double r :: st)) : JJ p l e R s m args below meth c Q A nL (LW g A ly (w0 ++ wx lay σ)) k n pc lo stk := by
  subst hq
  subst hstk
  intro H locs ls hW hS hl
  obtain ⟨p1, p2, p3, p4, rfl, p6, p7, p8⟩ := P
  have cb := callB_of (R := R) (rm := rmk fr lc mc ms) np C.2.2.2.2 (goodAW p4) rfl rfl rfl (C.w p3) (C.w hw) ⟨p6, p7, p8⟩ hR
  have hF := lk_F K hW hS
  refine va_calld (va_runV (As := As) (rest := st) C (hM (va_A (wx lay σ) H.size)) ⟨cb, C.w p1, C.w p2⟩ ⟨PC.blind, hr (va_A (wx lay σ) H.size) lay H s (LW_sub (lay := lay) hW) K.2.1, fun U hU hWm => ⟨rfl, lk_pre K hW hS hU hWm⟩⟩ rfl hn hl.1 rfl (lv_room hsum) hd hc) hS (fun q _ h => hF q h) hF (fun r0 u t H1 locs1 ht hvm hp hB hz hk hS1 => ?_)
  obtain ⟨rfl, rfl⟩ := hp
  obtain ⟨lay1, hB⟩ := hB
  rw [ht] at hB
  exact KK lay1 H1 locs1 ls (LW_join hW.1 hW.2 hk hF hB.1 hB.2) hS1 hl
/-- a call that throws, and a row of the table that takes it -/
theorem lk_Xi (C : KX p m c cc nL s args own) (K : KC l g A s) {rt : FieldType} {ex : Nat} (hM : ∀ A1 : Nat → Prop, XI l y bytes nl rt fr lc (.ref b :: As) (Lx g wx A1) g A1 lay σ σ' ex) (P : CPv y bytes nl (some rt) Cn np) (hr : ∀ A1 : Nat → Prop, RCV (Lx g wx A1) g σ b Cn) (hw : Cond.methodLink own index y ∈ AW) (hd : decode cc pc = .ok (.invokevirtual index, 3)) (hn : As.length = np) (hstk : stk = As.reverse ++ .ref b :: st) (hsum : (st.map fun v => v.category).sum ≤ 8) (hR : fr + 1 ≤ R.frames ∧ 8 + (nl + 11) + lc ≤ R.locals) (hc : k + 1 ≤ R.cells ∧ n + 6 ≤ R.slots)
    {tbl : List ExceptionTableEntry} (ht : c.exceptionTable.toList = tbl) (pre : List ExceptionTableEntry) (x : ExceptionTableEntry) (suf : List ExceptionTableEntry) (hsplit : tbl = pre ++ x :: suf)
    (hpass : ∀ z ∈ pre, covers z pc = false ∨ (z.catchType ≠ 0 ∧ ∃ nm : String, (Cond.classLink own z.catchType nm).before args s = true ∧ va_Nc (exn ex) nm s)) (hx : covers x pc = true) (h0 : x.catchType ≠ 0) (hlink : Cond.classLink own x.catchType (exn ex) ∈ AW) (hcast : (Cond.castable (exn ex) (exn ex)).before args s = true)
    (KK : ∀ (lay' : Nat → Nat) (q9 : Nat), JJ p l e R s m args below meth c Q A nL (LW g A ly (w0 ++ wx lay' σ')) (k + 1) (n + 6) x.handlerPc lo [.ref q9]) : JJ p l e R s m args below meth c Q A nL (LW g A ly (w0 ++ wx lay σ)) k n pc lo stk := by
  subst hstk
  subst ht
  intro H locs ls hW hS hl
  obtain ⟨p1, p2, p3, p4, rfl, p6, p7, p8⟩ := P
  have cb := callB_of (R := R) (rm := rmk fr lc 1 6) np C.2.2.2.2 (goodAW p4) rfl rfl rfl (C.w p3) (C.w hw) ⟨p6, p7, p8⟩ hR
  have hF := lk_F K hW hS
  refine vx_calli (vx_runV (As := As) (rest := st) C (hM (va_A (wx lay σ) H.size)) ⟨cb, C.w p1, C.w p2⟩ ⟨PC.blind, hr (va_A (wx lay σ) H.size) lay H s (LW_sub (lay := lay) hW) K.2.1, fun U hU hWm => ⟨rfl, lk_pre K hW hS hU hWm⟩⟩ rfl hn hl.1 rfl (lv_room hsum) hd hc) hS (fun q _ h => hF q h) hF (fun q _ h => hF q h) (fun E ce q9 u t H1 locs1 ht hvm hp hB hz hk hS1 hce hcv hcl => ?_) (fun r0 u t H1 locs1 ht hvm hp hB hz hk hS1 => hp.elim)
  subst hp
  obtain ⟨rfl, lay1, hB⟩ := hB
  rw [ht] at hB
  exact vx_catch C.2.2.2.1 pre x suf hsplit hpass hx h0 (C.w hlink) hcast hce hcv hcl (KK lay1 q9 H1 locs1 ls (LW_join hW.1 hW.2 hk hF hB.1 hB.2) hS1 hl)
/-- a static call of a wrapper -/
theorem lk_Sw (q : Nat) (C : KX p m c cc nL s args own) (K : KC l g A s) {hh : List (Nat × Nat × Nat × Nat)} {r : Int32} (hM : ∀ A1 : Nat → Prop, MIw l y bytes nl hh fr lc mc ms As (Lx g wx A1) g A1 lay σ σ' r) (p1 : Cond.static y ∈ AW) (p3 : Cond.initialized y.cls ∈ AW) (p4 : Cond.codeWith y bytes nl (some .int) hh ∈ AW) (p6 : y.cls ≠ "java/lang/invoke/MethodHandle" ∧ y.cls ≠ "java/lang/invoke/VarHandle" ∧ (parseMethodDescriptor y.desc).map (fun d => d.parameters.length) = some np) (hw : Cond.methodLink own index y ∈ AW) (hd : decode cc pc = .ok (.invokestatic index, 3)) (hn : As.length = np) (hstk : stk = As.reverse ++ st) (hsum : (st.map fun v => v.category).sum ≤ 8) (hR : fr + 1 ≤ R.frames ∧ 8 + (nl + 11) + lc ≤ R.locals) (hc : k + mc ≤ R.cells ∧ n + ms ≤ R.slots) (hq : pc + 3 = q)
    (KK : ∀ lay' : Nat → Nat, JJ p l e R s m args below meth c Q A nL (LW g A ly (w0 ++ wx lay' σ')) (k + mc) (n + ms) q lo (.int r :: st)) : JJ p l e R s m args below meth c Q A nL (LW g A ly (w0 ++ wx lay σ)) k n pc lo stk := by
  subst hq
  subst hstk
  intro H locs ls hW hS hl
  have hG : GoodIn AW (va_wsS own index y (Cond.codeWith y bytes nl (some .int) hh :: AW)) := fun v hv => by
    rcases List.mem_append.mp hv with h | h
    · have h2 : v ∈ AW := by
        simp only [List.mem_cons, List.not_mem_nil, or_false] at h
        rcases h with rfl | rfl | rfl
        · exact hw
        · exact p1
        · exact p3
      exact ⟨h2, good_of_word (AW_good h2)⟩
    · exact goodAW p4 v h
  have cw := vx_cwSW (R := R) (rm := rmk fr lc mc ms) np C.2.2.2.2 hG rfl rfl rfl p6 hR
  have hF := lk_F K hW hS
  refine va_calli (vx_runSW (As := As) (rest := st) C (hM (va_A (wx lay σ) H.size)) cw ⟨PC.blind, fun U hU hWm => ⟨rfl, lk_pre K hW hS hU hWm⟩⟩ rfl hn hl.1 rfl (lv_room hsum) hd hc) hS (fun q _ h => hF q h) hF (fun r0 u t H1 locs1 ht hvm hp hB hz hk hS1 => ?_)
  obtain ⟨rfl, rfl⟩ := hp
  obtain ⟨lay1, hB⟩ := hB
  rw [ht] at hB
  exact KK lay1 H1 locs1 ls (LW_join hW.1 hW.2 hk hF hB.1 hB.2) hS1 hl
theorem lk_last (q : Nat) (C : KX p m c cc nL s args own) (K : KC l g A s) {qo : Nat} {v x : Int64} {wc : va_W} (hd : decode cc pc = .ok (.lastore, 1)) (hq : pc + 1 = q) (KK : JJ p l e R s m args below meth c Q A nL (LW g A ly ([outc g qo x] ++ wc)) k n q lo st) : JJ p l e R s m args below meth c Q A nL (LW g A ly ([outc g qo v] ++ wc)) k n pc lo (.long x :: .int (0 : Int32) :: .ref qo :: st) := by
  subst hq
  intro H locs ls hW hS hl
  refine va_last C.1 C.2.1 K.2.1 hW.1 hW.2 hS 0 4 (ws := [outc g qo v] ++ wc) (cA := gJ g) (n := 1) (f := fun _ => v) rfl rfl (by intro h; rcases h with h | h; exact absurd h (by decide); exact absurd h (by decide)) hd (fun H1 locs1 hP hD hS1 => ?_)
  refine KK H1 locs1 ls ⟨?_, ?_⟩ hS1 hl
  · intro k0 q0 hq0
    cases k0 with
    | zero =>
      have e0 : q0 = outc g qo x := (Option.some.inj hq0).symm
      subst e0
      have h1 := hP 0 _ rfl
      have h2 : vp_cell (gJ g) (1, .inr (.inl (vp_updL (fun _ => v) (0 : Int32).toNatClampNeg x))) = vp_cell (gJ g) (1, .inr (.inl (fun _ => x))) := by
        rw [vp_cell_l, vp_cell_l]
        exact arrV_cong (fun j hj => by
          have : j = 0 := by omega
          subst this
          rfl)
      show H1[qo]? = some (vp_cell (gJ g) (1, .inr (.inl (fun _ => x))))
      rw [← h2]
      exact h1
    | succ k0 => exact hP (k0 + 1) q0 hq0
  · refine ⟨fun i j a b ha hb e => ?_, fun k0 q0 hq0 => ?_⟩
    · have up : ∀ (k0 : Nat) (q0 : Nat × va_E), ([outc g qo x] ++ wc)[k0]? = some q0 → ∃ q1 : Nat × va_E, ([outc g qo v] ++ wc)[k0]? = some q1 ∧ q1.1 = q0.1 := fun k0 q0 h => by
        cases k0 with
        | zero => cases (Option.some.inj h); exact ⟨_, rfl, rfl⟩
        | succ k0 => exact ⟨q0, h, rfl⟩
      obtain ⟨a1, ha1, ea⟩ := up i a ha
      obtain ⟨b1, hb1, eb⟩ := up j b hb
      exact hW.2.1 i j a1 b1 ha1 hb1 (by rw [ea, eb]; exact e)
    · cases k0 with
      | zero => cases (Option.some.inj hq0); exact hW.2.2 0 (outc g qo v) rfl
      | succ k0 => exact hW.2.2 (k0 + 1) q0 hq0
end LKC
theorem xc_1 {A : Nat → Prop} {s : State} {H : Heap} {args : Array Value} (h : XS A s H) : (Cond.castable (exn 1) (exn 1)).before args s = true := va_Nw.use rfl (h.2.2.2.1 (Jvm.Cond.castable "java/lang/IndexOutOfBoundsException" "java/lang/IndexOutOfBoundsException") (by simp [xsC]))
theorem xc_2 {A : Nat → Prop} {s : State} {H : Heap} {args : Array Value} (h : XS A s H) : (Cond.castable (exn 2) (exn 2)).before args s = true := va_Nw.use rfl (h.2.2.2.1 (Jvm.Cond.castable "java/lang/IllegalArgumentException" "java/lang/IllegalArgumentException") (by simp [xsC]))
theorem xc_3 {A : Nat → Prop} {s : State} {H : Heap} {args : Array Value} (h : XS A s H) : (Cond.castable (exn 3) (exn 3)).before args s = true := va_Nw.use rfl (h.2.2.2.1 (Jvm.Cond.castable "java/lang/IllegalStateException" "java/lang/IllegalStateException") (by simp [xsC]))
