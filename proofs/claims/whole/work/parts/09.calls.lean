/-! ===== what a method of the class is given beside its world: words that may not stand in its list, the statics that a throw reads ===== -/
def xsM : List Cond := [(Jvm.Cond.methodLinkNest "FreshDisks" (30 : Nat) ({ cls := "FreshDisks$EventReader", name := "<init>", desc := "()V" } : Jvm.MethodName) "FreshDisks"), (Jvm.Cond.methodLinkNest "FreshDisks$Node" (23 : Nat) ({ cls := "FreshDisks$Writes", name := "<init>", desc := "()V" } : Jvm.MethodName) "FreshDisks"), (Jvm.Cond.methodLinkNest "FreshDisks" (42 : Nat) ({ cls := "FreshDisks$Decision", name := "<init>", desc := "()V" } : Jvm.MethodName) "FreshDisks"), (Jvm.Cond.methodLinkNest "FreshDisks$Disk" (34 : Nat) ({ cls := "FreshDisks", name := "asNumber", desc := "(Z)I" } : Jvm.MethodName) "FreshDisks")]
def xsC : List Cond := [(Jvm.Cond.castable "java/lang/IllegalArgumentException" "java/lang/IllegalArgumentException"), (Jvm.Cond.declares ({ cls := "java/lang/RuntimeException", name := "<init>", desc := "(Ljava/lang/String;)V" } : Jvm.MethodName)), (Jvm.Cond.declares ({ cls := "java/lang/Exception", name := "<init>", desc := "(Ljava/lang/String;)V" } : Jvm.MethodName)), (Jvm.Cond.declares ({ cls := "java/lang/Throwable", name := "<init>", desc := "(Ljava/lang/String;)V" } : Jvm.MethodName)), (Jvm.Cond.castable "java/lang/IndexOutOfBoundsException" "java/lang/IndexOutOfBoundsException"), (Jvm.Cond.castable "java/lang/IllegalStateException" "java/lang/IllegalStateException")]
def xsS : List (Nat × String) := [(183, "what is not 0 to 11"), (324, "the node does not exist"), (221, "what is not 0 to 8"), (329, "the slot does not exist"), (229, "what is not 0 to 3"), (233, "the write does not exist"), (241, "what is not 0 to 2"), (342, "the node has no open round"), (266, "what is not 0 to 6"), (56, "nodes is not 3 to 7"), (61, "slots is not 1 to 4"), (331, "reached is out of range"), (82, "the node is down, or has not joined"), (92, "value is not 0 to 9"), (335, "the node is down"), (333, "lost is less than 0"), (337, "the node is up"), (126, "the node is down, or has joined"), (131, "code is not 32 to 126"), (136, "the buffer is full"), (144, "the buffer is not a complete text"), (282, "the slot is not decided")]
theorem xsM_in : ∀ w ∈ xsM, w ∈ lw_tbl := by
  intro w h
  simp only [xsM, List.mem_cons, List.not_mem_nil, or_false] at h
  rcases h with rfl | rfl | rfl | rfl
  · exact mt_155
  · exact mt_196
  · exact mt_259
  · exact mt_823
theorem xsC_in : ∀ w ∈ xsC, w ∈ lw_tbl := by
  intro w h
  simp only [xsC, List.mem_cons, List.not_mem_nil, or_false] at h
  rcases h with rfl | rfl | rfl | rfl | rfl | rfl
  · exact mt_434
  · exact mt_436
  · exact mt_438
  · exact mt_440
  · exact mt_518
  · exact mt_611
def XS (A : Nat → Prop) (U : State) (H : Heap) : Prop := vx_Zq Bundle.tN "UNASSIGNED_STACK" Bundle.steD A U H ∧ vx_Zq Bundle.tN "SUPPRESSED_SENTINEL" Bundle.listD A U H ∧ (∀ w ∈ xsM, va_Nw w U) ∧ (∀ w ∈ xsC, va_Nw w U) ∧ (∀ q ∈ xsS, ∃ a, vk_R RX5 q.1 q.2 a U) ∧ va_AO RX3 U ∧ va_AO RX0 U ∧ va_Nc "java/lang/IllegalArgumentException" "java/lang/IndexOutOfBoundsException" U ∧ va_Nc "java/lang/IllegalStateException" "java/lang/IndexOutOfBoundsException" U ∧ va_Nc "java/lang/IllegalStateException" "java/lang/IllegalArgumentException" U
theorem xsM_warm {s U : State} (hW : s.WarmedH U.vm) (h : ∀ w ∈ xsM, va_Nw w s) : ∀ w ∈ xsM, va_Nw w U := by
  intro w hw
  have h1 := h w hw
  simp only [xsM, List.mem_cons, List.not_mem_nil, or_false] at hw
  rcases hw with rfl | rfl | rfl | rfl <;> exact va_Nw.warmM hW h1
theorem xsC_warm {s U : State} (hW : s.WarmedH U.vm) (h : ∀ w ∈ xsC, va_Nw w s) : ∀ w ∈ xsC, va_Nw w U := by
  intro w hw
  have h1 := h w hw
  simp only [xsC, List.mem_cons, List.not_mem_nil, or_false] at hw
  rcases hw with rfl | rfl | rfl | rfl | rfl | rfl <;> first | exact va_Nw.warmC hW h1 | exact va_Nw.warmD hW h1
theorem xsM_same {s U : State} (hv : s.vm = U.vm) (h : ∀ w ∈ xsM, va_Nw w s) : ∀ w ∈ xsM, va_Nw w U := by
  intro w hw
  have h1 := h w hw
  simp only [xsM, List.mem_cons, List.not_mem_nil, or_false] at hw
  rcases hw with rfl | rfl | rfl | rfl <;> exact va_Nw.same rfl hv h1
theorem xsC_same {s U : State} (hv : s.vm = U.vm) (h : ∀ w ∈ xsC, va_Nw w s) : ∀ w ∈ xsC, va_Nw w U := by
  intro w hw
  have h1 := h w hw
  simp only [xsC, List.mem_cons, List.not_mem_nil, or_false] at hw
  rcases hw with rfl | rfl | rfl | rfl | rfl | rfl <;> exact va_Nw.same rfl hv h1
theorem XS.warm {A : Nat → Prop} {s U : State} {H : Heap} (hW : s.WarmedH U.vm) (h : XS A s H) : XS A U H := ⟨vx_Zq.moved hW.alike h.1, vx_Zq.moved hW.alike h.2.1, xsM_warm hW h.2.2.1, xsC_warm hW h.2.2.2.1, fun q hq => by obtain ⟨a, ha⟩ := h.2.2.2.2.1 q hq; exact ⟨a, vk_R.warm hW ha⟩, va_AO.moved hW.alike h.2.2.2.2.2.1, va_AO.moved hW.alike h.2.2.2.2.2.2.1, va_Nc.moved hW.alike h.2.2.2.2.2.2.2.1, va_Nc.moved hW.alike h.2.2.2.2.2.2.2.2.1, va_Nc.moved hW.alike h.2.2.2.2.2.2.2.2.2⟩
theorem XS.kept {A : Nat → Prop} {U : State} {H H1 : Heap} (h : XS A U H) (hq : ∀ a : Nat, a < H.size → ¬ A a → H1[a]? = H[a]?) : XS A U H1 := ⟨vx_Zq.kept h.1 hq, vx_Zq.kept h.2.1 hq, h.2.2⟩
theorem XS.narrow {A B : Nat → Prop} {U : State} {H : Heap} (h : XS A U H) (hAB : ∀ q, B q → A q) : XS B U H := ⟨vx_Zq.narrow h.1 hAB, vx_Zq.narrow h.2.1 hAB, h.2.2⟩
theorem XS.same {A : Nat → Prop} {U V : State} {H : Heap} (hv : U.vm = V.vm) (h : XS A U H) : XS A V H := ⟨vx_Zq.moved (by rw [hv]; exact Vm.Alike.refl _) h.1, vx_Zq.moved (by rw [hv]; exact Vm.Alike.refl _) h.2.1, xsM_same hv h.2.2.1, xsC_same hv h.2.2.2.1, fun q hq => by obtain ⟨a, ha⟩ := h.2.2.2.2.1 q hq; exact ⟨a, vk_R.same hv.symm ha⟩, va_AO.moved (by rw [hv]; exact Vm.Alike.refl _) h.2.2.2.2.2.1, va_AO.moved (by rw [hv]; exact Vm.Alike.refl _) h.2.2.2.2.2.2.1, va_Nc.moved (by rw [hv]; exact Vm.Alike.refl _) h.2.2.2.2.2.2.2.1, va_Nc.moved (by rw [hv]; exact Vm.Alike.refl _) h.2.2.2.2.2.2.2.2.1, va_Nc.moved (by rw [hv]; exact Vm.Alike.refl _) h.2.2.2.2.2.2.2.2.2⟩
/-! ===== contracts over a world Wf lay σ ===== -/
def WY (y : MethodName) (cc : ByteArray) (nl : Nat) (ret : Option FieldType) : List Cond := Cond.code y cc nl ret :: AW
abbrev rmk (fr lc mc ms : Nat) : Room := { frames := fr, cells := mc, slots := ms, locals := lc }
theorem Met_of2 {l : Launch} {y : MethodName} {ws ws' : List Cond} {rm : Room} {Pc : Array Value → State → Prop} {Qc : Array Value → State → Outcome → State → Prop} {mc ms : Nat} {free : Addr → Prop} {cc : ByteArray} {maxL : Nat} {ret : Option FieldType}
    (hy : plainFor y = true) (hw : ws = Cond.code y cc maxL ret :: ws')
    (body : ∀ p e s m args below meth c s₁, BodyLoose p l y (headSpec ws rm) cc maxL ret e s m args below meth c s₁ → c.maxLocals = maxL → Pc args s →
      W p l e (headSpec ws rm).room s m args below meth c s.heap [] 0 0 (MQ below Qc args s mc ms free) (entryFrame m args maxL)) : Met l y ws rm Pc Qc mc ms free := by
  refine MetFree.of_bodySF (code := cc) (maxLocals := maxL) (ret := ret) hy ?_ ?_
  · intro args s m h hn
    obtain ⟨meth, c, h1, h2, h3, h4, h5, h6, -, -⟩ := Cond.code_spec hn (atoms_spec (ws := ws) h _ (by rw [hw]; exact List.mem_cons_self))
    exact ⟨meth, c, h1, h2, h3, h4, h5, h6⟩
  · intro p e s m args below meth c s₁ B hml hP _
    have hh0 : s₁.heap = s.heap := by rw [B.state]; rfl
    obtain ⟨t, a1, o, b1, b2, b3⟩ := body p e s m args below meth c s₁ B hml hP s₁ hh0 (Stand.of_body B)
    exact ⟨t, o, a1, b1, b2, ⟨b3.1, b3.2⟩⟩
section CON
variable {S : Type}
def PC (Wf : (Nat → Nat) → S → Heap → Prop) (g : GG) (A : Nat → Prop) (lay : Nat → Nat) (σ : S) (U : State) : Prop := (∀ q, U.heap.size ≤ q → A q) ∧ Wf lay σ U.heap ∧ va_K g.1 vwCl (gtys g) U ∧ XS A U U.heap
def BC (Wf : (Nat → Nat) → S → Heap → Prop) (σ : S) (t : State) : Prop := ∃ lay, Wf lay σ t.heap
theorem PC.blind {Wf : (Nat → Nat) → S → Heap → Prop} {g : GG} {A : Nat → Prop} {lay : Nat → Nat} {σ : S} {av : List Value} : FrameBlind (va_Pc av (PC Wf g A lay σ)) := fun a U f mk h => ⟨h.1, h.2.1, h.2.2.1, va_K.moved (u := U) (U := U.calling f mk a) (Vm.Alike.refl U.vm) h.2.2.2.1, XS.same (U := U) (V := U.calling f mk a) rfl h.2.2.2.2⟩
def KC (l : Launch) (g : GG) (A : Nat → Prop) (s : State) : Prop := (∀ q, s.heap.size ≤ q → A q) ∧ va_K g.1 vwCl (gtys g) s ∧ XS A s s.heap ∧ l.stackTraces = false
def KM (meth : Method) (ret : Option FieldType) : Prop := meth.sig.returnType = ret ∧ meth.locks = false
def CPv (y : MethodName) (cc : ByteArray) (nl : Nat) (ret : Option FieldType) (Cn : String) (n : Nat) : Prop := Cond.instanceMethod y ∈ AW ∧ Cond.selects Cn y y ∈ AW ∧ Cond.initialized Cn ∈ AW ∧ Cond.code y cc nl ret ∈ AW ∧ y.cls = Cn ∧ y.cls ≠ "java/lang/invoke/MethodHandle" ∧ y.cls ≠ "java/lang/invoke/VarHandle" ∧ (parseMethodDescriptor y.desc).map (fun d => d.parameters.length) = some n
def CPs (y : MethodName) (cc : ByteArray) (nl : Nat) (ret : Option FieldType) (n : Nat) : Prop := Cond.static y ∈ AW ∧ Cond.initialized y.cls ∈ AW ∧ Cond.code y cc nl ret ∈ AW ∧ y.cls ≠ "java/lang/invoke/MethodHandle" ∧ y.cls ≠ "java/lang/invoke/VarHandle" ∧ (parseMethodDescriptor y.desc).map (fun d => d.parameters.length) = some n
/-- where an object of class Cn stands in the world -/
def RCV (Wf : (Nat → Nat) → S → Heap → Prop) (g : GG) (σ : S) (b : Nat) (Cn : String) : Prop := ∀ (lay : Nat → Nat) (H : Heap) (s : State), Wf lay σ H → va_K g.1 vwCl (gtys g) s → ∃ cell : Cell, H[b]? = some cell ∧ cell.vm.isStatics = false ∧ s.vm.findClass Cn = some cell.cls
def MV (l : Launch) (y : MethodName) (cc : ByteArray) (nl : Nat) (fr lc mc ms : Nat) (av : List Value) (Wf : (Nat → Nat) → S → Heap → Prop) (g : GG) (A : Nat → Prop) (lay : Nat → Nat) (σ σ' : S) : Prop := Met l y (WY y cc nl none) (rmk fr lc mc ms) (va_Pc av (PC Wf g A lay σ)) (va_Qv (fun u : S => u = σ') (BC Wf) A) mc ms A
theorem e_v {l : Launch} {y : MethodName} {cc : ByteArray} {nl : Nat} {fr lc mc ms : Nat} {av : List Value} {Wf : (Nat → Nat) → S → Heap → Prop} {g : GG} {A : Nat → Prop} {lay : Nat → Nat} {σ σ' : S} {own : String} {lo : List (Nat × Value)} (hst : l.stackTraces = false) (hy : plainFor y = true) (ho : y.cls = own) (hlo : lv_args 0 av = lo) (hlen : (lg_sl av).length ≤ nl)
    (body : ∀ (p : Program) (e : Env) (s : State) (m : MethodId) (args : Array Value) (below : List Frame) (meth : Method) (c : Code), KX p m c cc nl s args own → KC l g A s → KM meth none → JJ p l e (rmk fr lc mc ms) s m args below meth c (MQ below (va_Qv (fun u : S => u = σ') (BC Wf) A) args s mc ms A) A nl (Wf lay σ) 0 0 0 lo []) : MV l y cc nl fr lc mc ms av Wf g A lay σ σ' := by
  refine Met_of2 (cc := cc) (maxL := nl) (ret := none) hy rfl ?_
  intro p e s m args below meth c s₁ B hml hv
  obtain ⟨rfl, hA, hW, hK, hX⟩ := hv
  have hown : s.vm.findClass own = some m.cls := by rw [← ho]; exact findClass_of_methodNamed B.named
  have hts : ∀ w ∈ AW, w.before av.toArray s = true := fun w hw => atoms_spec (ws := WY y cc nl none) B.pre w (List.mem_cons_of_mem _ hw)
  have hl := lv_entry av (n := nl) hlen
  rw [hlo] at hl
  rw [lg_entry_eq]
  exact body p e s m av.toArray below meth c ⟨B.exec, B.bytes, hml, hown, hts⟩ ⟨hA, hK, hX, hst⟩ ⟨B.returns, B.notSynchronized⟩ s.heap [] _ hW va_S.rf hl
def MI (l : Launch) (y : MethodName) (cc : ByteArray) (nl : Nat) (rt : FieldType) (fr lc mc ms : Nat) (av : List Value) (Wf : (Nat → Nat) → S → Heap → Prop) (g : GG) (A : Nat → Prop) (lay : Nat → Nat) (σ σ' : S) (r : Int32) : Prop := Met l y (WY y cc nl (some rt)) (rmk fr lc mc ms) (va_Pc av (PC Wf g A lay σ)) (va_Qi (fun (r0 : Int32) (u : S) => r0 = r ∧ u = σ') (BC Wf) A) mc ms A
theorem e_i {l : Launch} {y : MethodName} {cc : ByteArray} {nl : Nat} {rt : FieldType} {fr lc mc ms : Nat} {av : List Value} {Wf : (Nat → Nat) → S → Heap → Prop} {g : GG} {A : Nat → Prop} {lay : Nat → Nat} {σ σ' : S} {r : Int32} {own : String} {lo : List (Nat × Value)} (hst : l.stackTraces = false) (hy : plainFor y = true) (ho : y.cls = own) (hlo : lv_args 0 av = lo) (hlen : (lg_sl av).length ≤ nl)
    (body : ∀ (p : Program) (e : Env) (s : State) (m : MethodId) (args : Array Value) (below : List Frame) (meth : Method) (c : Code), KX p m c cc nl s args own → KC l g A s → KM meth (some rt) → JJ p l e (rmk fr lc mc ms) s m args below meth c (MQ below (va_Qi (fun (r0 : Int32) (u : S) => r0 = r ∧ u = σ') (BC Wf) A) args s mc ms A) A nl (Wf lay σ) 0 0 0 lo []) : MI l y cc nl rt fr lc mc ms av Wf g A lay σ σ' r := by
  refine Met_of2 (cc := cc) (maxL := nl) (ret := (some rt)) hy rfl ?_
  intro p e s m args below meth c s₁ B hml hv
  obtain ⟨rfl, hA, hW, hK, hX⟩ := hv
  have hown : s.vm.findClass own = some m.cls := by rw [← ho]; exact findClass_of_methodNamed B.named
  have hts : ∀ w ∈ AW, w.before av.toArray s = true := fun w hw => atoms_spec (ws := WY y cc nl (some rt)) B.pre w (List.mem_cons_of_mem _ hw)
  have hl := lv_entry av (n := nl) hlen
  rw [hlo] at hl
  rw [lg_entry_eq]
  exact body p e s m av.toArray below meth c ⟨B.exec, B.bytes, hml, hown, hts⟩ ⟨hA, hK, hX, hst⟩ ⟨B.returns, B.notSynchronized⟩ s.heap [] _ hW va_S.rf hl
def ML (l : Launch) (y : MethodName) (cc : ByteArray) (nl : Nat) (fr lc mc ms : Nat) (av : List Value) (Wf : (Nat → Nat) → S → Heap → Prop) (g : GG) (A : Nat → Prop) (lay : Nat → Nat) (σ σ' : S) (r : Int64) : Prop := Met l y (WY y cc nl (some .long)) (rmk fr lc mc ms) (va_Pc av (PC Wf g A lay σ)) (va_Ql (fun (r0 : Int64) (u : S) => r0 = r ∧ u = σ') (BC Wf) A) mc ms A
theorem e_l {l : Launch} {y : MethodName} {cc : ByteArray} {nl : Nat} {fr lc mc ms : Nat} {av : List Value} {Wf : (Nat → Nat) → S → Heap → Prop} {g : GG} {A : Nat → Prop} {lay : Nat → Nat} {σ σ' : S} {r : Int64} {own : String} {lo : List (Nat × Value)} (hst : l.stackTraces = false) (hy : plainFor y = true) (ho : y.cls = own) (hlo : lv_args 0 av = lo) (hlen : (lg_sl av).length ≤ nl)
    (body : ∀ (p : Program) (e : Env) (s : State) (m : MethodId) (args : Array Value) (below : List Frame) (meth : Method) (c : Code), KX p m c cc nl s args own → KC l g A s → KM meth (some .long) → JJ p l e (rmk fr lc mc ms) s m args below meth c (MQ below (va_Ql (fun (r0 : Int64) (u : S) => r0 = r ∧ u = σ') (BC Wf) A) args s mc ms A) A nl (Wf lay σ) 0 0 0 lo []) : ML l y cc nl fr lc mc ms av Wf g A lay σ σ' r := by
  refine Met_of2 (cc := cc) (maxL := nl) (ret := (some .long)) hy rfl ?_
  intro p e s m args below meth c s₁ B hml hv
  obtain ⟨rfl, hA, hW, hK, hX⟩ := hv
  have hown : s.vm.findClass own = some m.cls := by rw [← ho]; exact findClass_of_methodNamed B.named
  have hts : ∀ w ∈ AW, w.before av.toArray s = true := fun w hw => atoms_spec (ws := WY y cc nl (some .long)) B.pre w (List.mem_cons_of_mem _ hw)
  have hl := lv_entry av (n := nl) hlen
  rw [hlo] at hl
  rw [lg_entry_eq]
  exact body p e s m av.toArray below meth c ⟨B.exec, B.bytes, hml, hown, hts⟩ ⟨hA, hK, hX, hst⟩ ⟨B.returns, B.notSynchronized⟩ s.heap [] _ hW va_S.rf hl
def MF (l : Launch) (y : MethodName) (cc : ByteArray) (nl : Nat) (fr lc mc ms : Nat) (av : List Value) (Wf : (Nat → Nat) → S → Heap → Prop) (g : GG) (A : Nat → Prop) (lay : Nat → Nat) (σ σ' : S) (r : UInt32) : Prop := Met l y (WY y cc nl (some .float)) (rmk fr lc mc ms) (va_Pc av (PC Wf g A lay σ)) (va_Qf (fun (r0 : UInt32) (u : S) => r0 = r ∧ u = σ') (BC Wf) A) mc ms A
theorem e_f {l : Launch} {y : MethodName} {cc : ByteArray} {nl : Nat} {fr lc mc ms : Nat} {av : List Value} {Wf : (Nat → Nat) → S → Heap → Prop} {g : GG} {A : Nat → Prop} {lay : Nat → Nat} {σ σ' : S} {r : UInt32} {own : String} {lo : List (Nat × Value)} (hst : l.stackTraces = false) (hy : plainFor y = true) (ho : y.cls = own) (hlo : lv_args 0 av = lo) (hlen : (lg_sl av).length ≤ nl)
    (body : ∀ (p : Program) (e : Env) (s : State) (m : MethodId) (args : Array Value) (below : List Frame) (meth : Method) (c : Code), KX p m c cc nl s args own → KC l g A s → KM meth (some .float) → JJ p l e (rmk fr lc mc ms) s m args below meth c (MQ below (va_Qf (fun (r0 : UInt32) (u : S) => r0 = r ∧ u = σ') (BC Wf) A) args s mc ms A) A nl (Wf lay σ) 0 0 0 lo []) : MF l y cc nl fr lc mc ms av Wf g A lay σ σ' r := by
  refine Met_of2 (cc := cc) (maxL := nl) (ret := (some .float)) hy rfl ?_
  intro p e s m args below meth c s₁ B hml hv
  obtain ⟨rfl, hA, hW, hK, hX⟩ := hv
  have hown : s.vm.findClass own = some m.cls := by rw [← ho]; exact findClass_of_methodNamed B.named
  have hts : ∀ w ∈ AW, w.before av.toArray s = true := fun w hw => atoms_spec (ws := WY y cc nl (some .float)) B.pre w (List.mem_cons_of_mem _ hw)
  have hl := lv_entry av (n := nl) hlen
  rw [hlo] at hl
  rw [lg_entry_eq]
  exact body p e s m av.toArray below meth c ⟨B.exec, B.bytes, hml, hown, hts⟩ ⟨hA, hK, hX, hst⟩ ⟨B.returns, B.notSynchronized⟩ s.heap [] _ hW va_S.rf hl
def MD (l : Launch) (y : MethodName) (cc : ByteArray) (nl : Nat) (fr lc mc ms : Nat) (av : List Value) (Wf : (Nat → Nat) → S → Heap → Prop) (g : GG) (A : Nat → Prop) (lay : Nat → Nat) (σ σ' : S) (r : UInt64) : Prop := Met l y (WY y cc nl (some .double)) (rmk fr lc mc ms) (va_Pc av (PC Wf g A lay σ)) (va_Qd (fun (r0 : UInt64) (u : S) => r0 = r ∧ u = σ') (BC Wf) A) mc ms A
theorem e_d {l : Launch} {y : MethodName} {cc : ByteArray} {nl : Nat} {fr lc mc ms : Nat} {av : List Value} {Wf : (Nat → Nat) → S → Heap → Prop} {g : GG} {A : Nat → Prop} {lay : Nat → Nat} {σ σ' : S} {r : UInt64} {own : String} {lo : List (Nat × Value)} (hst : l.stackTraces = false) (hy : plainFor y = true) (ho : y.cls = own) (hlo : lv_args 0 av = lo) (hlen : (lg_sl av).length ≤ nl)
    (body : ∀ (p : Program) (e : Env) (s : State) (m : MethodId) (args : Array Value) (below : List Frame) (meth : Method) (c : Code), KX p m c cc nl s args own → KC l g A s → KM meth (some .double) → JJ p l e (rmk fr lc mc ms) s m args below meth c (MQ below (va_Qd (fun (r0 : UInt64) (u : S) => r0 = r ∧ u = σ') (BC Wf) A) args s mc ms A) A nl (Wf lay σ) 0 0 0 lo []) : MD l y cc nl fr lc mc ms av Wf g A lay σ σ' r := by
  refine Met_of2 (cc := cc) (maxL := nl) (ret := (some .double)) hy rfl ?_
  intro p e s m args below meth c s₁ B hml hv
  obtain ⟨rfl, hA, hW, hK, hX⟩ := hv
  have hown : s.vm.findClass own = some m.cls := by rw [← ho]; exact findClass_of_methodNamed B.named
  have hts : ∀ w ∈ AW, w.before av.toArray s = true := fun w hw => atoms_spec (ws := WY y cc nl (some .double)) B.pre w (List.mem_cons_of_mem _ hw)
  have hl := lv_entry av (n := nl) hlen
  rw [hlo] at hl
  rw [lg_entry_eq]
  exact body p e s m av.toArray below meth c ⟨B.exec, B.bytes, hml, hown, hts⟩ ⟨hA, hK, hX, hst⟩ ⟨B.returns, B.notSynchronized⟩ s.heap [] _ hW va_S.rf hl
section CALLS
variable {p : Program} {l : Launch} {e : Env} {R : Room} {s : State} {m : MethodId} {args : Array Value} {below : List Frame} {meth : Method} {c : Code} {A : Nat → Prop} {nL : Nat} {k n pc : Nat} {lo : List (Nat × Value)} {st : List Value} {cc : ByteArray} {own : String} {Wf : (Nat → Nat) → S → Heap → Prop} {g : GG} {lay : Nat → Nat} {σ σ' : S}
theorem x_v (C : KX p m c cc nL s args own) (M : KM meth none) (hd : decode cc pc = .ok (.return_, 1)) : JJ p l e R s m args below meth c (MQ below (va_Qv (fun u : S => u = σ) (BC Wf) A) args s k n A) A nL (Wf lay σ) k n pc lo [] := fun H locs ls hW hS hl => W.vret C.1 C.2.1 M.1 (fun t ht _ => ⟨⟨σ, rfl, rfl, lay, by rw [ht]; exact hW⟩, hS.F ht⟩) hS.2.2 hd M.2
theorem x_i (C : KX p m c cc nL s args own) (M : KM meth (some .int)) (hd : decode cc pc = .ok (.ireturn, 1)) {r : Int32} : JJ p l e R s m args below meth c (MQ below (va_Qi (fun (r0 : Int32) (u : S) => r0 = r ∧ u = σ) (BC Wf) A) args s k n A) A nL (Wf lay σ) k n pc lo [.int r] := fun H locs ls hW hS hl => W.iret C.1 C.2.1 M.1 (fun t ht _ => ⟨⟨r, σ, rfl, ⟨rfl, rfl⟩, lay, by rw [ht]; exact hW⟩, hS.F ht⟩) hS.2.2 hd M.2
theorem x_z (C : KX p m c cc nL s args own) (M : KM meth (some .boolean)) (hd : decode cc pc = .ok (.ireturn, 1)) {r : Int32} (hb : isb r = true) : JJ p l e R s m args below meth c (MQ below (va_Qi (fun (r0 : Int32) (u : S) => r0 = r ∧ u = σ) (BC Wf) A) args s k n A) A nL (Wf lay σ) k n pc lo [.int r] := fun H locs ls hW hS hl => W.zret C.1 C.2.1 M.1 (isb_n hb) (fun t ht _ => ⟨⟨r, σ, rfl, ⟨rfl, rfl⟩, lay, by rw [ht]; exact hW⟩, hS.F ht⟩) hS.2.2 hd M.2
theorem x_l (C : KX p m c cc nL s args own) (M : KM meth (some .long)) (hd : decode cc pc = .ok (.lreturn, 1)) {r : Int64} : JJ p l e R s m args below meth c (MQ below (va_Ql (fun (r0 : Int64) (u : S) => r0 = r ∧ u = σ) (BC Wf) A) args s k n A) A nL (Wf lay σ) k n pc lo [.long r] := fun H locs ls hW hS hl => W.lret C.1 C.2.1 M.1 (fun t ht _ => ⟨⟨r, σ, rfl, ⟨rfl, rfl⟩, lay, by rw [ht]; exact hW⟩, hS.F ht⟩) hS.2.2 hd M.2
theorem x_f (C : KX p m c cc nL s args own) (M : KM meth (some .float)) (hd : decode cc pc = .ok (.freturn, 1)) {r : UInt32} : JJ p l e R s m args below meth c (MQ below (va_Qf (fun (r0 : UInt32) (u : S) => r0 = r ∧ u = σ) (BC Wf) A) args s k n A) A nL (Wf lay σ) k n pc lo [.float r] := fun H locs ls hW hS hl => W.fret C.1 C.2.1 M.1 (fun t ht _ => ⟨⟨r, σ, rfl, ⟨rfl, rfl⟩, lay, by rw [ht]; exact hW⟩, hS.F ht⟩) hS.2.2 hd M.2
theorem x_d (C : KX p m c cc nL s args own) (M : KM meth (some .double)) (hd : decode cc pc = .ok (.dreturn, 1)) {r : UInt64} : JJ p l e R s m args below meth c (MQ below (va_Qd (fun (r0 : UInt64) (u : S) => r0 = r ∧ u = σ) (BC Wf) A) args s k n A) A nL (Wf lay σ) k n pc lo [.double r] := fun H locs ls hW hS hl => W.dret C.1 C.2.1 M.1 (fun t ht _ => ⟨⟨r, σ, rfl, ⟨rfl, rfl⟩, lay, by rw [ht]; exact hW⟩, hS.F ht⟩) hS.2.2 hd M.2
variable {Q : State → Prop} {y : MethodName} {bytes : ByteArray} {nl fr lc mc ms np index : Nat} {As stk : List Value} {b : Nat} {Cn : String}
theorem k_Vv (q : Nat) (C : KX p m c cc nL s args own) (K : KC l g A s) (hM : MV l y bytes nl fr lc mc ms (.ref b :: As) Wf g A lay σ σ') (P : CPv y bytes nl none Cn np) (hr : RCV Wf g σ b Cn) (hw : Cond.methodLink own index y ∈ AW) (hd : decode cc pc = .ok (.invokevirtual index, 3)) (hn : As.length = np) (hstk : stk = As.reverse ++ .ref b :: st) (hsum : (st.map fun v => v.category).sum ≤ 8) (hR : fr + 1 ≤ R.frames ∧ 8 + (nl + 11) + lc ≤ R.locals) (hc : k + mc ≤ R.cells ∧ n + ms ≤ R.slots) (hq : pc + 3 = q)
    (KK : ∀ lay' : Nat → Nat, JJ p l e R s m args below meth c Q A nL (Wf lay' σ') (k + mc) (n + ms) q lo st) : JJ p l e R s m args below meth c Q A nL (Wf lay σ) k n pc lo stk := by
  subst hq
  subst hstk
  intro H locs ls hW hS hl
  obtain ⟨p1, p2, p3, p4, rfl, p6, p7, p8⟩ := P
  have cb := callB_of (R := R) (rm := rmk fr lc mc ms) np C.2.2.2.2 (goodAW p4) rfl rfl rfl (C.w p3) (C.w hw) ⟨p6, p7, p8⟩ hR
  refine va_callv (va_runV (As := As) (rest := st) C hM ⟨cb, C.w p1, C.w p2⟩ ⟨PC.blind, hr lay H s hW K.2.1, fun U hU hWm => ⟨rfl, fun q hq => K.1 q (Nat.le_trans hS.1 (by rw [← hU]; exact hq)), by rw [hU]; exact hW, va_K.moved hWm.alike K.2.1, by rw [hU]; exact XS.warm hWm (K.2.2.1.kept hS.2.1)⟩⟩ rfl hn hl.1 rfl (lv_room hsum) hd hc) hS (fun q _ h => h) (fun q h => h) (fun u t H1 locs1 ht hvm hp hB hz hk hS1 => ?_)
  obtain rfl := hp
  obtain ⟨lay1, hB⟩ := hB
  rw [ht] at hB
  exact KK lay1 H1 locs1 ls hB hS1 hl
theorem k_Sv (q : Nat) (C : KX p m c cc nL s args own) (K : KC l g A s) (hM : MV l y bytes nl fr lc mc ms As Wf g A lay σ σ') (P : CPs y bytes nl none np) (hw : Cond.methodLink own index y ∈ AW) (hd : decode cc pc = .ok (.invokestatic index, 3)) (hn : As.length = np) (hstk : stk = As.reverse ++ st) (hsum : (st.map fun v => v.category).sum ≤ 8) (hR : fr + 1 ≤ R.frames ∧ 8 + (nl + 11) + lc ≤ R.locals) (hc : k + mc ≤ R.cells ∧ n + ms ≤ R.slots) (hq : pc + 3 = q)
    (KK : ∀ lay' : Nat → Nat, JJ p l e R s m args below meth c Q A nL (Wf lay' σ') (k + mc) (n + ms) q lo st) : JJ p l e R s m args below meth c Q A nL (Wf lay σ) k n pc lo stk := by
  subst hq
  subst hstk
  intro H locs ls hW hS hl
  obtain ⟨p1, p3, p4, p6, p7, p8⟩ := P
  have cb := callB_of (R := R) (rm := rmk fr lc mc ms) np C.2.2.2.2 (goodAW p4) rfl rfl rfl (C.w p3) (C.w hw) ⟨p6, p7, p8⟩ hR
  refine va_callv (va_runS (As := As) (rest := st) C hM ⟨cb, C.w p1⟩ ⟨PC.blind, fun U hU hWm => ⟨rfl, fun q hq => K.1 q (Nat.le_trans hS.1 (by rw [← hU]; exact hq)), by rw [hU]; exact hW, va_K.moved hWm.alike K.2.1, by rw [hU]; exact XS.warm hWm (K.2.2.1.kept hS.2.1)⟩⟩ rfl hn hl.1 rfl (lv_room hsum) hd hc) hS (fun q _ h => h) (fun q h => h) (fun u t H1 locs1 ht hvm hp hB hz hk hS1 => ?_)
  obtain rfl := hp
  obtain ⟨lay1, hB⟩ := hB
  rw [ht] at hB
  exact KK lay1 H1 locs1 ls hB hS1 hl
theorem k_Vi (q : Nat) (C : KX p m c cc nL s args own) (K : KC l g A s) {rt : FieldType} {r : Int32} (hM : MI l y bytes nl rt fr lc mc ms (.ref b :: As) Wf g A lay σ σ' r) (P : CPv y bytes nl (some rt) Cn np) (hr : RCV Wf g σ b Cn) (hw : Cond.methodLink own index y ∈ AW) (hd : decode cc pc = .ok (.invokevirtual index, 3)) (hn : As.length = np) (hstk : stk = As.reverse ++ .ref b :: st) (hsum : (st.map fun v => v.category).sum ≤ 8) (hR : fr + 1 ≤ R.frames ∧ 8 + (nl + 11) + lc ≤ R.locals) (hc : k + mc ≤ R.cells ∧ n + ms ≤ R.slots) (hq : pc + 3 = q)
    (KK : ∀ lay' : Nat → Nat, JJ p l e R s m args below meth c Q A nL (Wf lay' σ') (k + mc) (n + ms) q lo (.int r :: st)) : JJ p l e R s m args below meth c Q A nL (Wf lay σ) k n pc lo stk := by
  subst hq
  subst hstk
  intro H locs ls hW hS hl
  obtain ⟨p1, p2, p3, p4, rfl, p6, p7, p8⟩ := P
  have cb := callB_of (R := R) (rm := rmk fr lc mc ms) np C.2.2.2.2 (goodAW p4) rfl rfl rfl (C.w p3) (C.w hw) ⟨p6, p7, p8⟩ hR
  refine va_calli (va_runV (As := As) (rest := st) C hM ⟨cb, C.w p1, C.w p2⟩ ⟨PC.blind, hr lay H s hW K.2.1, fun U hU hWm => ⟨rfl, fun q hq => K.1 q (Nat.le_trans hS.1 (by rw [← hU]; exact hq)), by rw [hU]; exact hW, va_K.moved hWm.alike K.2.1, by rw [hU]; exact XS.warm hWm (K.2.2.1.kept hS.2.1)⟩⟩ rfl hn hl.1 rfl (lv_room hsum) hd hc) hS (fun q _ h => h) (fun q h => h) (fun r0 u t H1 locs1 ht hvm hp hB hz hk hS1 => ?_)
  obtain ⟨rfl, rfl⟩ := hp
  obtain ⟨lay1, hB⟩ := hB
  rw [ht] at hB
  exact KK lay1 H1 locs1 ls hB hS1 hl
theorem k_Si (q : Nat) (C : KX p m c cc nL s args own) (K : KC l g A s) {rt : FieldType} {r : Int32} (hM : MI l y bytes nl rt fr lc mc ms As Wf g A lay σ σ' r) (P : CPs y bytes nl (some rt) np) (hw : Cond.methodLink own index y ∈ AW) (hd : decode cc pc = .ok (.invokestatic index, 3)) (hn : As.length = np) (hstk : stk = As.reverse ++ st) (hsum : (st.map fun v => v.category).sum ≤ 8) (hR : fr + 1 ≤ R.frames ∧ 8 + (nl + 11) + lc ≤ R.locals) (hc : k + mc ≤ R.cells ∧ n + ms ≤ R.slots) (hq : pc + 3 = q)
    (KK : ∀ lay' : Nat → Nat, JJ p l e R s m args below meth c Q A nL (Wf lay' σ') (k + mc) (n + ms) q lo (.int r :: st)) : JJ p l e R s m args below meth c Q A nL (Wf lay σ) k n pc lo stk := by
  subst hq
  subst hstk
  intro H locs ls hW hS hl
  obtain ⟨p1, p3, p4, p6, p7, p8⟩ := P
  have cb := callB_of (R := R) (rm := rmk fr lc mc ms) np C.2.2.2.2 (goodAW p4) rfl rfl rfl (C.w p3) (C.w hw) ⟨p6, p7, p8⟩ hR
  refine va_calli (va_runS (As := As) (rest := st) C hM ⟨cb, C.w p1⟩ ⟨PC.blind, fun U hU hWm => ⟨rfl, fun q hq => K.1 q (Nat.le_trans hS.1 (by rw [← hU]; exact hq)), by rw [hU]; exact hW, va_K.moved hWm.alike K.2.1, by rw [hU]; exact XS.warm hWm (K.2.2.1.kept hS.2.1)⟩⟩ rfl hn hl.1 rfl (lv_room hsum) hd hc) hS (fun q _ h => h) (fun q h => h) (fun r0 u t H1 locs1 ht hvm hp hB hz hk hS1 => ?_)
  obtain ⟨rfl, rfl⟩ := hp
  obtain ⟨lay1, hB⟩ := hB
  rw [ht] at hB
  exact KK lay1 H1 locs1 ls hB hS1 hl
theorem k_Vl (q : Nat) (C : KX p m c cc nL s args own) (K : KC l g A s) {r : Int64} (hM : ML l y bytes nl fr lc mc ms (.ref b :: As) Wf g A lay σ σ' r) (P : CPv y bytes nl (some .long) Cn np) (hr : RCV Wf g σ b Cn) (hw : Cond.methodLink own index y ∈ AW) (hd : decode cc pc = .ok (.invokevirtual index, 3)) (hn : As.length = np) (hstk : stk = As.reverse ++ .ref b :: st) (hsum : (st.map fun v => v.category).sum ≤ 8) (hR : fr + 1 ≤ R.frames ∧ 8 + (nl + 11) + lc ≤ R.locals) (hc : k + mc ≤ R.cells ∧ n + ms ≤ R.slots) (hq : pc + 3 = q)
    (KK : ∀ lay' : Nat → Nat, JJ p l e R s m args below meth c Q A nL (Wf lay' σ') (k + mc) (n + ms) q lo (.long r :: st)) : JJ p l e R s m args below meth c Q A nL (Wf lay σ) k n pc lo stk := by
  subst hq
  subst hstk
  intro H locs ls hW hS hl
  obtain ⟨p1, p2, p3, p4, rfl, p6, p7, p8⟩ := P
  have cb := callB_of (R := R) (rm := rmk fr lc mc ms) np C.2.2.2.2 (goodAW p4) rfl rfl rfl (C.w p3) (C.w hw) ⟨p6, p7, p8⟩ hR
  refine va_calll (va_runV (As := As) (rest := st) C hM ⟨cb, C.w p1, C.w p2⟩ ⟨PC.blind, hr lay H s hW K.2.1, fun U hU hWm => ⟨rfl, fun q hq => K.1 q (Nat.le_trans hS.1 (by rw [← hU]; exact hq)), by rw [hU]; exact hW, va_K.moved hWm.alike K.2.1, by rw [hU]; exact XS.warm hWm (K.2.2.1.kept hS.2.1)⟩⟩ rfl hn hl.1 rfl (lv_room hsum) hd hc) hS (fun q _ h => h) (fun q h => h) (fun r0 u t H1 locs1 ht hvm hp hB hz hk hS1 => ?_)
  obtain ⟨rfl, rfl⟩ := hp
  obtain ⟨lay1, hB⟩ := hB
  rw [ht] at hB
  exact KK lay1 H1 locs1 ls hB hS1 hl
theorem k_Sl (q : Nat) (C : KX p m c cc nL s args own) (K : KC l g A s) {r : Int64} (hM : ML l y bytes nl fr lc mc ms As Wf g A lay σ σ' r) (P : CPs y bytes nl (some .long) np) (hw : Cond.methodLink own index y ∈ AW) (hd : decode cc pc = .ok (.invokestatic index, 3)) (hn : As.length = np) (hstk : stk = As.reverse ++ st) (hsum : (st.map fun v => v.category).sum ≤ 8) (hR : fr + 1 ≤ R.frames ∧ 8 + (nl + 11) + lc ≤ R.locals) (hc : k + mc ≤ R.cells ∧ n + ms ≤ R.slots) (hq : pc + 3 = q)
    (KK : ∀ lay' : Nat → Nat, JJ p l e R s m args below meth c Q A nL (Wf lay' σ') (k + mc) (n + ms) q lo (.long r :: st)) : JJ p l e R s m args below meth c Q A nL (Wf lay σ) k n pc lo stk := by
  subst hq
  subst hstk
  intro H locs ls hW hS hl
  obtain ⟨p1, p3, p4, p6, p7, p8⟩ := P
  have cb := callB_of (R := R) (rm := rmk fr lc mc ms) np C.2.2.2.2 (goodAW p4) rfl rfl rfl (C.w p3) (C.w hw) ⟨p6, p7, p8⟩ hR
  refine va_calll (va_runS (As := As) (rest := st) C hM ⟨cb, C.w p1⟩ ⟨PC.blind, fun U hU hWm => ⟨rfl, fun q hq => K.1 q (Nat.le_trans hS.1 (by rw [← hU]; exact hq)), by rw [hU]; exact hW, va_K.moved hWm.alike K.2.1, by rw [hU]; exact XS.warm hWm (K.2.2.1.kept hS.2.1)⟩⟩ rfl hn hl.1 rfl (lv_room hsum) hd hc) hS (fun q _ h => h) (fun q h => h) (fun r0 u t H1 locs1 ht hvm hp hB hz hk hS1 => ?_)
  obtain ⟨rfl, rfl⟩ := hp
  obtain ⟨lay1, hB⟩ := hB
  rw [ht] at hB
  exact KK lay1 H1 locs1 ls hB hS1 hl
theorem k_Vf (q : Nat) (C : KX p m c cc nL s args own) (K : KC l g A s) {r : UInt32} (hM : MF l y bytes nl fr lc mc ms (.ref b :: As) Wf g A lay σ σ' r) (P : CPv y bytes nl (some .float) Cn np) (hr : RCV Wf g σ b Cn) (hw : Cond.methodLink own index y ∈ AW) (hd : decode cc pc = .ok (.invokevirtual index, 3)) (hn : As.length = np) (hstk : stk = As.reverse ++ .ref b :: st) (hsum : (st.map fun v => v.category).sum ≤ 8) (hR : fr + 1 ≤ R.frames ∧ 8 + (nl + 11) + lc ≤ R.locals) (hc : k + mc ≤ R.cells ∧ n + ms ≤ R.slots) (hq : pc + 3 = q)
    (KK : ∀ lay' : Nat → Nat, JJ p l e R s m args below meth c Q A nL (Wf lay' σ') (k + mc) (n + ms) q lo (.float r :: st)) : JJ p l e R s m args below meth c Q A nL (Wf lay σ) k n pc lo stk := by
  subst hq
  subst hstk
  intro H locs ls hW hS hl
  obtain ⟨p1, p2, p3, p4, rfl, p6, p7, p8⟩ := P
  have cb := callB_of (R := R) (rm := rmk fr lc mc ms) np C.2.2.2.2 (goodAW p4) rfl rfl rfl (C.w p3) (C.w hw) ⟨p6, p7, p8⟩ hR
  refine va_callf (va_runV (As := As) (rest := st) C hM ⟨cb, C.w p1, C.w p2⟩ ⟨PC.blind, hr lay H s hW K.2.1, fun U hU hWm => ⟨rfl, fun q hq => K.1 q (Nat.le_trans hS.1 (by rw [← hU]; exact hq)), by rw [hU]; exact hW, va_K.moved hWm.alike K.2.1, by rw [hU]; exact XS.warm hWm (K.2.2.1.kept hS.2.1)⟩⟩ rfl hn hl.1 rfl (lv_room hsum) hd hc) hS (fun q _ h => h) (fun q h => h) (fun r0 u t H1 locs1 ht hvm hp hB hz hk hS1 => ?_)
  obtain ⟨rfl, rfl⟩ := hp
  obtain ⟨lay1, hB⟩ := hB
  rw [ht] at hB
  exact KK lay1 H1 locs1 ls hB hS1 hl
theorem k_Sf (q : Nat) (C : KX p m c cc nL s args own) (K : KC l g A s) {r : UInt32} (hM : MF l y bytes nl fr lc mc ms As Wf g A lay σ σ' r) (P : CPs y bytes nl (some .float) np) (hw : Cond.methodLink own index y ∈ AW) (hd : decode cc pc = .ok (.invokestatic index, 3)) (hn : As.length = np) (hstk : stk = As.reverse ++ st) (hsum : (st.map fun v => v.category).sum ≤ 8) (hR : fr + 1 ≤ R.frames ∧ 8 + (nl + 11) + lc ≤ R.locals) (hc : k + mc ≤ R.cells ∧ n + ms ≤ R.slots) (hq : pc + 3 = q)
    (KK : ∀ lay' : Nat → Nat, JJ p l e R s m args below meth c Q A nL (Wf lay' σ') (k + mc) (n + ms) q lo (.float r :: st)) : JJ p l e R s m args below meth c Q A nL (Wf lay σ) k n pc lo stk := by
  subst hq
  subst hstk
  intro H locs ls hW hS hl
  obtain ⟨p1, p3, p4, p6, p7, p8⟩ := P
  have cb := callB_of (R := R) (rm := rmk fr lc mc ms) np C.2.2.2.2 (goodAW p4) rfl rfl rfl (C.w p3) (C.w hw) ⟨p6, p7, p8⟩ hR
  refine va_callf (va_runS (As := As) (rest := st) C hM ⟨cb, C.w p1⟩ ⟨PC.blind, fun U hU hWm => ⟨rfl, fun q hq => K.1 q (Nat.le_trans hS.1 (by rw [← hU]; exact hq)), by rw [hU]; exact hW, va_K.moved hWm.alike K.2.1, by rw [hU]; exact XS.warm hWm (K.2.2.1.kept hS.2.1)⟩⟩ rfl hn hl.1 rfl (lv_room hsum) hd hc) hS (fun q _ h => h) (fun q h => h) (fun r0 u t H1 locs1 ht hvm hp hB hz hk hS1 => ?_)
  obtain ⟨rfl, rfl⟩ := hp
  obtain ⟨lay1, hB⟩ := hB
  rw [ht] at hB
  exact KK lay1 H1 locs1 ls hB hS1 hl
theorem k_Vd (q : Nat) (C : KX p m c cc nL s args own) (K : KC l g A s) {r : UInt64} (hM : MD l y bytes nl fr lc mc ms (.ref b :: As) Wf g A lay σ σ' r) (P : CPv y bytes nl (some .double) Cn np) (hr : RCV Wf g σ b Cn) (hw : Cond.methodLink own index y ∈ AW) (hd : decode cc pc = .ok (.invokevirtual index, 3)) (hn : As.length = np) (hstk : stk = As.reverse ++ .ref b :: st) (hsum : (st.map fun v => v.category).sum ≤ 8) (hR : fr + 1 ≤ R.frames ∧ 8 + (nl + 11) + lc ≤ R.locals) (hc : k + mc ≤ R.cells ∧ n + ms ≤ R.slots) (hq : pc + 3 = q)
    (KK : ∀ lay' : Nat → Nat, JJ p l e R s m args below meth c Q A nL (Wf lay' σ') (k + mc) (n + ms) q lo (.double r :: st)) : JJ p l e R s m args below meth c Q A nL (Wf lay σ) k n pc lo stk := by
  subst hq
  subst hstk
  intro H locs ls hW hS hl
  obtain ⟨p1, p2, p3, p4, rfl, p6, p7, p8⟩ := P
  have cb := callB_of (R := R) (rm := rmk fr lc mc ms) np C.2.2.2.2 (goodAW p4) rfl rfl rfl (C.w p3) (C.w hw) ⟨p6, p7, p8⟩ hR
  refine va_calld (va_runV (As := As) (rest := st) C hM ⟨cb, C.w p1, C.w p2⟩ ⟨PC.blind, hr lay H s hW K.2.1, fun U hU hWm => ⟨rfl, fun q hq => K.1 q (Nat.le_trans hS.1 (by rw [← hU]; exact hq)), by rw [hU]; exact hW, va_K.moved hWm.alike K.2.1, by rw [hU]; exact XS.warm hWm (K.2.2.1.kept hS.2.1)⟩⟩ rfl hn hl.1 rfl (lv_room hsum) hd hc) hS (fun q _ h => h) (fun q h => h) (fun r0 u t H1 locs1 ht hvm hp hB hz hk hS1 => ?_)
  obtain ⟨rfl, rfl⟩ := hp
  obtain ⟨lay1, hB⟩ := hB
  rw [ht] at hB
  exact KK lay1 H1 locs1 ls hB hS1 hl
theorem k_Sd (q : Nat) (C : KX p m c cc nL s args own) (K : KC l g A s) {r : UInt64} (hM : MD l y bytes nl fr lc mc ms As Wf g A lay σ σ' r) (P : CPs y bytes nl (some .double) np) (hw : Cond.methodLink own index y ∈ AW) (hd : decode cc pc = .ok (.invokestatic index, 3)) (hn : As.length = np) (hstk : stk = As.reverse ++ st) (hsum : (st.map fun v => v.category).sum ≤ 8) (hR : fr + 1 ≤ R.frames ∧ 8 + (nl + 11) + lc ≤ R.locals) (hc : k + mc ≤ R.cells ∧ n + ms ≤ R.slots) (hq : pc + 3 = q)
    (KK : ∀ lay' : Nat → Nat, JJ p l e R s m args below meth c Q A nL (Wf lay' σ') (k + mc) (n + ms) q lo (.double r :: st)) : JJ p l e R s m args below meth c Q A nL (Wf lay σ) k n pc lo stk := by
  subst hq
  subst hstk
  intro H locs ls hW hS hl
  obtain ⟨p1, p3, p4, p6, p7, p8⟩ := P
  have cb := callB_of (R := R) (rm := rmk fr lc mc ms) np C.2.2.2.2 (goodAW p4) rfl rfl rfl (C.w p3) (C.w hw) ⟨p6, p7, p8⟩ hR
  refine va_calld (va_runS (As := As) (rest := st) C hM ⟨cb, C.w p1⟩ ⟨PC.blind, fun U hU hWm => ⟨rfl, fun q hq => K.1 q (Nat.le_trans hS.1 (by rw [← hU]; exact hq)), by rw [hU]; exact hW, va_K.moved hWm.alike K.2.1, by rw [hU]; exact XS.warm hWm (K.2.2.1.kept hS.2.1)⟩⟩ rfl hn hl.1 rfl (lv_room hsum) hd hc) hS (fun q _ h => h) (fun q h => h) (fun r0 u t H1 locs1 ht hvm hp hB hz hk hS1 => ?_)
  obtain ⟨rfl, rfl⟩ := hp
  obtain ⟨lay1, hB⟩ := hB
  rw [ht] at hB
  exact KK lay1 H1 locs1 ls hB hS1 hl
end CALLS
end CON
