/-! ===== worlds as plain lists: what constructors build ===== -/
def LW (g : GG) (A : Nat → Prop) (_ : Nat → Nat) (ws : va_W) (H : Heap) : Prop := va_P g.1 vwCl ws H ∧ va_D A ws
theorem LW_join {A0 : Nat → Prop} {D : va_G} {cl : List vw_C} {w0 wc w1 : va_W} {H H1 : Heap} (hP : va_P D cl (w0 ++ wc) H) (hD : va_D A0 (w0 ++ wc))
    (hk : ∀ q : Nat, q < H.size → ¬ va_A wc H.size q → H1[q]? = H[q]?) (hF : ∀ q, va_A wc H.size q → A0 q) (hP1 : va_P D cl w1 H1) (hD1 : va_D (va_A wc H.size) w1) : va_P D cl (w0 ++ w1) H1 ∧ va_D A0 (w0 ++ w1) := by
  have lo : ∀ (k : Nat) (q : Nat × va_E), w0[k]? = some q → (w0 ++ wc)[k]? = some q := fun k q h => by
    rw [List.getElem?_append_left (List.getElem?_eq_some_iff.mp h).1]; exact h
  have hi : ∀ (k : Nat) (q : Nat × va_E), wc[k]? = some q → (w0 ++ wc)[w0.length + k]? = some q := fun k q h => by
    rw [List.getElem?_append_right (by omega), Nat.add_sub_cancel_left]; exact h
  have apart : ∀ (k : Nat) (q : Nat × va_E), w0[k]? = some q → q.1 < H.size ∧ ¬ va_A wc H.size q.1 := by
    intro k q hq
    have hl := (hP k q (lo k q hq)).lt
    refine ⟨hl, fun h => ?_⟩
    rcases h with ⟨k2, e, h⟩ | h
    · have hij := hD.1 k (w0.length + k2) q (q.1, e) (lo k q hq) (hi k2 _ h) rfl
      have := (List.getElem?_eq_some_iff.mp hq).1
      omega
    · omega
  refine ⟨va_P.app (fun k q hq => ?_) hP1, va_D.app ⟨fun i j p q h1 h2 e => hD.1 i j p q (lo i p h1) (lo j q h2) e, fun k q hq => hD.2 k q (lo k q hq)⟩ (hD1.weaken (fun k q _ h => hF q.1 h)) (fun i j x y hx hy hxy => ?_)⟩
  · obtain ⟨g1, g2⟩ := apart k q hq
    exact (hP k q (lo k q hq)).kept (hk q.1 g1 g2)
  · exact (apart i x hx).2 (by rw [hxy]; exact hD1.2 j y hy)
section CONP
variable {S : Type}
def MVp (l : Launch) (y : MethodName) (cc : ByteArray) (nl : Nat) (fr lc mc ms : Nat) (av : List Value) (Wf : (Nat → Nat) → S → Heap → Prop) (g : GG) (A : Nat → Prop) (lay : Nat → Nat) (σ : S) (post : S → Prop) : Prop := Met l y (WY y cc nl none) (rmk fr lc mc ms) (va_Pc av (PC Wf g A lay σ)) (va_Qv post (BC Wf) A) mc ms A
theorem e_vp {l : Launch} {y : MethodName} {cc : ByteArray} {nl : Nat} {fr lc mc ms : Nat} {av : List Value} {Wf : (Nat → Nat) → S → Heap → Prop} {g : GG} {A : Nat → Prop} {lay : Nat → Nat} {σ : S} {post : S → Prop} {own : String} {lo : List (Nat × Value)} (hst : l.stackTraces = false) (hy : plainFor y = true) (ho : y.cls = own) (hlo : lv_args 0 av = lo) (hlen : (lg_sl av).length ≤ nl)
    (body : ∀ (p : Program) (e : Env) (s : State) (m : MethodId) (args : Array Value) (below : List Frame) (meth : Method) (c : Code), KX p m c cc nl s args own → KC l g A s → KM meth none → meth.name = y.name → JJ p l e (rmk fr lc mc ms) s m args below meth c (MQ below (va_Qv post (BC Wf) A) args s mc ms A) A nl (Wf lay σ) 0 0 0 lo []) : MVp l y cc nl fr lc mc ms av Wf g A lay σ post := by
  refine Met_of2 (cc := cc) (maxL := nl) (ret := none) hy rfl ?_
  intro p e s m args below meth c s₁ B hml hv
  obtain ⟨rfl, hA, hW, hK, hX⟩ := hv
  have hown : s.vm.findClass own = some m.cls := by rw [← ho]; exact findClass_of_methodNamed B.named
  have hts : ∀ w ∈ AW, w.before av.toArray s = true := fun w hw => atoms_spec (ws := WY y cc nl none) B.pre w (List.mem_cons_of_mem _ hw)
  have hl := lv_entry av (n := nl) hlen
  rw [hlo] at hl
  rw [lg_entry_eq]
  exact body p e s m av.toArray below meth c ⟨B.exec, B.bytes, hml, hown, hts⟩ ⟨hA, hK, hX, hst⟩ ⟨B.returns, B.notSynchronized⟩ (name_of_methodNamed B.named B.method).1 s.heap [] _ hW va_S.rf hl
theorem x_vp {p : Program} {l : Launch} {e : Env} {R : Room} {s : State} {m : MethodId} {args : Array Value} {below : List Frame} {meth : Method} {c : Code} {A : Nat → Prop} {nL : Nat} {k n pc : Nat} {lo : List (Nat × Value)} {cc : ByteArray} {own : String} {Wf : (Nat → Nat) → S → Heap → Prop} {lay : Nat → Nat} {σ : S} {post : S → Prop} (C : KX p m c cc nL s args own) (M : KM meth none) (hp : post σ) (hd : decode cc pc = .ok (.return_, 1)) : JJ p l e R s m args below meth c (MQ below (va_Qv post (BC Wf) A) args s k n A) A nL (Wf lay σ) k n pc lo [] := fun H locs ls hW hS hl => W.vret C.1 C.2.1 M.1 (fun t ht _ => ⟨⟨σ, rfl, hp, lay, by rw [ht]; exact hW⟩, hS.F ht⟩) hS.2.2 hd M.2
end CONP
def CPi (y : MethodName) (cc : ByteArray) (nl : Nat) (n : Nat) : Prop := Cond.instanceMethod y ∈ AW ∧ Cond.initialized y.cls ∈ AW ∧ Cond.code y cc nl none ∈ AW ∧ y.name = "<init>" ∧ y.cls ≠ "java/lang/invoke/MethodHandle" ∧ y.cls ≠ "java/lang/invoke/VarHandle" ∧ (parseMethodDescriptor y.desc).map (fun d => d.parameters.length) = some n
section LRO
variable {p : Program} {l : Launch} {e : Env} {R : Room} {s : State} {m : MethodId} {args : Array Value} {below : List Frame} {meth : Method} {c : Code} {Q : State → Prop} {A : Nat → Prop} {nL : Nat} {k n pc : Nat} {lo : List (Nat × Value)} {st : List Value} {cc : ByteArray} {own : String} {g : GG} {lay : Nat → Nat} {ws : va_W}
theorem l_obj (q : Nat) (C : KX p m c cc nL s args own) {Wd : Heap → Prop} {idx a : Nat} (hw : Cond.methodLink own idx Lib.objectInit ∈ AW) (hd : decode cc pc = .ok (.invokespecial idx, 3)) (h1 : 1 ≤ R.frames) (h2 : (st.map fun v => v.category).sum + 12 ≤ R.locals) (hq : pc + 3 = q) (K : JJ p l e R s m args below meth c Q A nL Wd k n q lo st) : JJ p l e R s m args below meth c Q A nL Wd k n pc lo (.ref a :: st) := by
  subst hq
  intro H locs ls hW hS hl
  refine W.objInit C.1 C.2.1 C.2.2.2.1 (C.w hw) (C.w (show Cond.instanceMethod Lib.objectInit ∈ AW from mw_123)) (C.w (show Cond.code Lib.objectInit ⟨#[0xb1]⟩ 1 none ∈ AW from mw_124)) rfl (hl.1.trans C.2.2.1.symm) rfl hd h1 (by show 2 * 0 + _ + 12 ≤ _; omega) ?_
  exact K H locs ls hW hS hl
theorem l_get (q : Nat) (C : KX p m c cc nL s args own) (K : KC l g A s) (t ci : Nat) {Cn : String} {T : u_T} {N a : Nat} {fs : List Value} (he : ws[t]? = some (a, .inr (ci, fs))) (hcl : vwCl[ci]? = some (Cn, T, N)) (hin : ∀ w ∈ u_ws Cn T N, w ∈ AW) (j : Nat) (hj : j < N) {index : Nat} {v : Value} (hw : Cond.fieldLink own index (T j).1 (T j).2.1 (T j).2.2.1 ∈ AW) (hv : fs[j]? = some v) (hd : decode cc pc = .ok (.getfield index, 3)) (hq : pc + 3 = q) (KK : JJ p l e R s m args below meth c Q A nL (LW g A lay ws) k n q lo (v :: st)) : JJ p l e R s m args below meth c Q A nL (LW g A lay ws) k n pc lo (.ref a :: st) := by
  subst hq
  exact fun H locs ls hW hS hl => va_get C.1 C.2.1 C.2.2.2.2 hin C.2.2.2.1 K.2.1 hW.1 t he hcl j hj (C.w hw) (fun _ h => h) hv hd (KK H locs ls hW hS hl)
theorem l_put (q : Nat) (C : KX p m c cc nL s args own) (K : KC l g A s) (t ci : Nat) {Cn : String} {T : u_T} {N a : Nat} {fs : List Value} (he : ws[t]? = some (a, .inr (ci, fs))) (hcl : vwCl[ci]? = some (Cn, T, N)) (hin : ∀ w ∈ u_ws Cn T N, w ∈ AW) (ty0 : Nat → FieldType) (hty : ∀ k, k < N → parseFieldDescriptor (T k).2.2.1 = some (ty0 k)) (hnm : ∀ a, a < N → ∀ b, b < N → a ≠ b → (T a).2.1 ≠ (T b).2.1) (j : Nat) (hj : j < N) {index : Nat} {v : Value} (hw : Cond.fieldLink own index (T j).1 (T j).2.1 (T j).2.2.1 ∈ AW) (hfin : (T j).2.2.2 = false) (hn : narrow (ty0 j) v = v) (hfit : fits (ty0 j) v = true) (hlen : j < fs.length) (hd : decode cc pc = .ok (.putfield index, 3)) (hq : pc + 3 = q) {ws' : va_W} (hws : ws.set t (a, .inr (ci, fs.set j v)) = ws') (KK : JJ p l e R s m args below meth c Q A nL (LW g A lay ws') k n q lo (st)) : JJ p l e R s m args below meth c Q A nL (LW g A lay ws) k n pc lo (v :: .ref a :: st) := by
  subst hq
  subst hws
  intro H locs ls hW hS hl
  exact va_put C.1 C.2.1 C.2.2.2.2 hin ty0 hty hnm C.2.2.2.1 K.2.1 hW.1 hW.2 hS t he hcl j hj (C.w hw) (fun _ h => h) hfin (hty j hj) hn hfit hlen hd (fun H1 locs1 hP hD hS1 => KK H1 locs1 ls ⟨hP, hD⟩ hS1 hl)
theorem l_putF (q : Nat) (C : KX p m c cc nL s args own) (K : KC l g A s) (t ci : Nat) {Cn : String} {T : u_T} {N a : Nat} {fs : List Value} (he : ws[t]? = some (a, .inr (ci, fs))) (hcl : vwCl[ci]? = some (Cn, T, N)) (hin : ∀ w ∈ u_ws Cn T N, w ∈ AW) (ty0 : Nat → FieldType) (hty : ∀ k, k < N → parseFieldDescriptor (T k).2.2.1 = some (ty0 k)) (hnm : ∀ a, a < N → ∀ b, b < N → a ≠ b → (T a).2.1 ≠ (T b).2.1) (j : Nat) (hj : j < N) {index : Nat} {v : Value} (hw : Cond.fieldLink own index (T j).1 (T j).2.1 (T j).2.2.1 ∈ AW) (hfin : (T j).2.2.2 = true) (hnm2 : meth.name = "<init>") (hdecl : (T j).1 = own) (hn : narrow (ty0 j) v = v) (hfit : fits (ty0 j) v = true) (hlen : j < fs.length) (hd : decode cc pc = .ok (.putfield index, 3)) (hq : pc + 3 = q) {ws' : va_W} (hws : ws.set t (a, .inr (ci, fs.set j v)) = ws') (KK : JJ p l e R s m args below meth c Q A nL (LW g A lay ws') k n q lo (st)) : JJ p l e R s m args below meth c Q A nL (LW g A lay ws) k n pc lo (v :: .ref a :: st) := by
  subst hq
  subst hws
  intro H locs ls hW hS hl
  exact va_putF C.1 C.2.1 C.2.2.2.2 hin ty0 hty hnm C.2.2.2.1 K.2.1 hW.1 hW.2 hS t he hcl j hj (C.w hw) (fun _ h => h) hfin hnm2 hdecl (hty j hj) hn hfit hlen hd (fun H1 locs1 hP hD hS1 => KK H1 locs1 ls ⟨hP, hD⟩ hS1 hl)
theorem l_new (q : Nat) (C : KX p m c cc nL s args own) (K : KC l g A s) (ci : Nat) {Cn : String} {T : u_T} {N index : Nat} (hcl : vwCl[ci]? = some (Cn, T, N)) (hin : ∀ w ∈ u_ws Cn T N, w ∈ AW) (ty0 : Nat → FieldType) (hty : ∀ k, k < N → parseFieldDescriptor (T k).2.2.1 = some (ty0 k)) (hk : Cond.classLink own index Cn ∈ AW) (hinst : Cond.instantiable Cn N ∈ AW) (hini : Cond.initialized Cn ∈ AW) (fs : List Value) (hfs : ∀ j, j < N → defaultValue (ty0 j) = vp_V fs j) (hd : decode cc pc = .ok (.new index, 3)) (hc : k + 1 ≤ R.cells ∧ n + N ≤ R.slots) (hq : pc + 3 = q) (KK : ∀ qa : Nat, JJ p l e R s m args below meth c Q A nL (LW g A lay (ws ++ [(qa, .inr (ci, fs))])) (k + 1) (n + N) q lo (.ref qa :: st)) : JJ p l e R s m args below meth c Q A nL (LW g A lay ws) k n pc lo (st) := by
  subst hq
  intro H locs ls hW hS hl
  exact va_new C.1 C.2.1 C.2.2.2.2 hin ty0 hty C.2.2.2.1 (C.w hk) (C.w hinst) (C.w hini) K.2.1 hW.1 hW.2 hS K.1 hcl hfs hc.1 hc.2 hd (fun qa H1 hP hD hS1 => KK qa H1 locs ls ⟨hP, hD⟩ hS1 hl)
theorem l_newi (q : Nat) (C : KX p m c cc nL s args own) (K : KC l g A s) (N : Nat) {x : Int32} (hx : ¬ x < 0) (hN : x.toNatClampNeg = N) (hb : N ≤ 100000) (hd : decode cc pc = .ok (.newarray .int, 2)) (hc : k + 1 ≤ R.cells ∧ n + N ≤ R.slots) (hq : pc + 2 = q) (KK : ∀ qa : Nat, JJ p l e R s m args below meth c Q A nL (LW g A lay (ws ++ [(qa, .inl (gI g, (N, .inl (fun _ => 0))))])) (k + 1) (n + N) q lo (.ref qa :: st)) : JJ p l e R s m args below meth c Q A nL (LW g A lay ws) k n pc lo (.int x :: st) := by
  subst hq
  intro H locs ls hW hS hl
  refine va_newa (atype := .int) (a0 := (N, .inl (fun _ => 0))) C.1 C.2.1 (C.w mw_152) rfl K.2.1 hW.1 hW.2 hS K.1 (fun _ => rfl) hx hN (by show N * 4 ≤ _; omega) hc.1 hc.2 hd (fun qa cA H1 hK1 hP hD hS1 => ?_)
  have h5 : cA = gI g := by
    have a1 := (hK1.2 5 (cA, .int) rfl).2
    have a2 := (K.2.1.2 0 (gI g, .int) rfl).2
    exact Option.some.inj (a1.symm.trans a2)
  subst h5
  exact KK qa H1 locs ls ⟨hP, hD⟩ hS1 hl
theorem l_newz (q : Nat) (C : KX p m c cc nL s args own) (K : KC l g A s) (N : Nat) {x : Int32} (hx : ¬ x < 0) (hN : x.toNatClampNeg = N) (hb : N ≤ 100000) (hd : decode cc pc = .ok (.newarray .boolean, 2)) (hc : k + 1 ≤ R.cells ∧ n + N ≤ R.slots) (hq : pc + 2 = q) (KK : ∀ qa : Nat, JJ p l e R s m args below meth c Q A nL (LW g A lay (ws ++ [(qa, .inl (gZ g, (N, .inl (fun _ => 0))))])) (k + 1) (n + N) q lo (.ref qa :: st)) : JJ p l e R s m args below meth c Q A nL (LW g A lay ws) k n pc lo (.int x :: st) := by
  subst hq
  intro H locs ls hW hS hl
  refine va_newa (atype := .boolean) (a0 := (N, .inl (fun _ => 0))) C.1 C.2.1 (C.w mw_1069) rfl K.2.1 hW.1 hW.2 hS K.1 (fun _ => rfl) hx hN (by show N * 1 ≤ _; omega) hc.1 hc.2 hd (fun qa cA H1 hK1 hP hD hS1 => ?_)
  have h5 : cA = gZ g := by
    have a1 := (hK1.2 5 (cA, .boolean) rfl).2
    have a2 := (K.2.1.2 1 (gZ g, .boolean) rfl).2
    exact Option.some.inj (a1.symm.trans a2)
  subst h5
  exact KK qa H1 locs ls ⟨hP, hD⟩ hS1 hl
theorem l_newqN (q : Nat) (C : KX p m c cc nL s args own) (K : KC l g A s) (hover : va_AO RX3 s) {index : Nat} (hk : Cond.classLink own index RX3 ∈ AW) (N : Nat) {x : Int32} (hx : ¬ x < 0) (hN : x.toNatClampNeg = N) (hb : N ≤ 100000) (hd : decode cc pc = .ok (.anewarray index, 3)) (hc : k + 1 ≤ R.cells ∧ n + N ≤ R.slots) (hq : pc + 3 = q) (KK : ∀ qa : Nat, JJ p l e R s m args below meth c Q A nL (LW g A lay (ws ++ [(qa, .inl (gN g, (N, .inr (.inr (.inr (.inr (fun _ => none)))))))])) (k + 1) (n + N) q lo (.ref qa :: st)) : JJ p l e R s m args below meth c Q A nL (LW g A lay ws) k n pc lo (.int x :: st) := by
  subst hq
  intro H locs ls hW hS hl
  refine va_newq C.1 C.2.1 C.2.2.2.1 (C.w hk) hover K.2.1 hW.1 hW.2 hS K.1 hx hN (by omega) hc.1 hc.2 hd (fun qa cA H1 hK1 hP hD hS1 => ?_)
  have h5 : cA = gN g := by
    obtain ⟨_, _, _, _, _, a1⟩ := (hK1.2 5 (cA, .object RX3) rfl).2
    obtain ⟨_, _, _, _, _, a2⟩ := (K.2.1.2 2 (gN g, .object RX3) rfl).2
    exact Option.some.inj (a1.symm.trans a2)
  subst h5
  exact KK qa H1 locs ls ⟨hP, hD⟩ hS1 hl
theorem l_astN (q : Nat) (C : KX p m c cc nL s args own) (K : KC l g A s) (t qk ci : Nat) {T : u_T} {NN a v N : Nat} {vs : List Value} {f : Nat → Option Nat} (ha : ws[t]? = some (a, .inl (gN g, (N, .inr (.inr (.inr (.inr f))))))) (hv : ws[qk]? = some (v, .inr (ci, vs))) (hcl : vwCl[ci]? = some (RX3, T, NN)) {x : Int32} (hin : inb x N = true) (hd : decode cc pc = .ok (.aastore, 1)) (hq : pc + 1 = q) {ws' : va_W} (hws : ws.set t (a, .inl (gN g, (N, .inr (.inr (.inr (.inr (va_up f (tn x) (some v)))))))) = ws') (KK : JJ p l e R s m args below meth c Q A nL (LW g A lay ws') k n q lo (st)) : JJ p l e R s m args below meth c Q A nL (LW g A lay ws) k n pc lo (.ref v :: .int x :: .ref a :: st) := by
  subst hq
  subst hws
  intro H locs ls hW hS hl
  exact va_astq C.1 C.2.1 K.2.1 hW.1 hW.2 hS t 2 qk ci ha rfl hv hcl (inb_in hin) hd (fun H1 locs1 hP hD hS1 => KK H1 locs1 ls ⟨hP, hD⟩ hS1 hl)
theorem l_newqE (q : Nat) (C : KX p m c cc nL s args own) (K : KC l g A s) (hover : va_AO RX0 s) {index : Nat} (hk : Cond.classLink own index RX0 ∈ AW) (N : Nat) {x : Int32} (hx : ¬ x < 0) (hN : x.toNatClampNeg = N) (hb : N ≤ 100000) (hd : decode cc pc = .ok (.anewarray index, 3)) (hc : k + 1 ≤ R.cells ∧ n + N ≤ R.slots) (hq : pc + 3 = q) (KK : ∀ qa : Nat, JJ p l e R s m args below meth c Q A nL (LW g A lay (ws ++ [(qa, .inl (gE g, (N, .inr (.inr (.inr (.inr (fun _ => none)))))))])) (k + 1) (n + N) q lo (.ref qa :: st)) : JJ p l e R s m args below meth c Q A nL (LW g A lay ws) k n pc lo (.int x :: st) := by
  subst hq
  intro H locs ls hW hS hl
  refine va_newq C.1 C.2.1 C.2.2.2.1 (C.w hk) hover K.2.1 hW.1 hW.2 hS K.1 hx hN (by omega) hc.1 hc.2 hd (fun qa cA H1 hK1 hP hD hS1 => ?_)
  have h5 : cA = gE g := by
    obtain ⟨_, _, _, _, _, a1⟩ := (hK1.2 5 (cA, .object RX0) rfl).2
    obtain ⟨_, _, _, _, _, a2⟩ := (K.2.1.2 3 (gE g, .object RX0) rfl).2
    exact Option.some.inj (a1.symm.trans a2)
  subst h5
  exact KK qa H1 locs ls ⟨hP, hD⟩ hS1 hl
theorem l_astE (q : Nat) (C : KX p m c cc nL s args own) (K : KC l g A s) (t qk ci : Nat) {T : u_T} {NN a v N : Nat} {vs : List Value} {f : Nat → Option Nat} (ha : ws[t]? = some (a, .inl (gE g, (N, .inr (.inr (.inr (.inr f))))))) (hv : ws[qk]? = some (v, .inr (ci, vs))) (hcl : vwCl[ci]? = some (RX0, T, NN)) {x : Int32} (hin : inb x N = true) (hd : decode cc pc = .ok (.aastore, 1)) (hq : pc + 1 = q) {ws' : va_W} (hws : ws.set t (a, .inl (gE g, (N, .inr (.inr (.inr (.inr (va_up f (tn x) (some v)))))))) = ws') (KK : JJ p l e R s m args below meth c Q A nL (LW g A lay ws') k n q lo (st)) : JJ p l e R s m args below meth c Q A nL (LW g A lay ws) k n pc lo (.ref v :: .int x :: .ref a :: st) := by
  subst hq
  subst hws
  intro H locs ls hW hS hl
  exact va_astq C.1 C.2.1 K.2.1 hW.1 hW.2 hS t 3 qk ci ha rfl hv hcl (inb_in hin) hd (fun H1 locs1 hP hD hS1 => KK H1 locs1 ls ⟨hP, hD⟩ hS1 hl)
variable {w0 wc : va_W} {post : va_W → Prop} {y : MethodName} {bytes : ByteArray} {nl fr lc mc ms np index : Nat} {As stk : List Value} {b : Nat} {host : String}
theorem l_pre {A1 : Nat → Prop} {H : Heap} {locs : List Loc} {U : State} (K : KC l g A s) (hW : LW g A lay (w0 ++ wc) H) (hS : va_S A s.heap H locs) (hU : U.heap = H) (hWm : s.WarmedH U.vm) (hA1 : A1 = va_A wc H.size) (hF : ∀ q, A1 q → A q) : PC (LW g A1) g A1 lay wc U := by
  have hi : ∀ (k : Nat) (q : Nat × va_E), wc[k]? = some q → (w0 ++ wc)[w0.length + k]? = some q := fun k q h => by
    rw [List.getElem?_append_right (by omega), Nat.add_sub_cancel_left]; exact h
  refine ⟨fun q hq => ?_, ⟨?_, ?_, ?_⟩, va_K.moved hWm.alike K.2.1, ?_⟩
  · rw [hA1]; exact Or.inr (by rw [← hU]; exact hq)
  · rw [hU]; exact fun k q hq => hW.1 _ q (hi k q hq)
  · exact fun i j p q h1 h2 e => by have := hW.2.1 _ _ p q (hi i p h1) (hi j q h2) e; omega
  · exact fun k q hq => by rw [hA1]; exact va_A.in hq
  · rw [hU]; exact (XS.warm hWm (K.2.2.1.kept hS.2.1)).narrow hF
theorem l_callI (q : Nat) (C : KX p m c cc nL s args own) (K : KC l g A s) (hM : ∀ A1 : Nat → Prop, MVp l y bytes nl fr lc mc ms (.ref b :: As) (LW g A1) g A1 lay wc post) (P : CPi y bytes nl np) (hw : Cond.methodLink own index y ∈ AW) (hd : decode cc pc = .ok (.invokespecial index, 3)) (hn : As.length = np) (hstk : stk = As.reverse ++ .ref b :: st) (hsum : (st.map fun v => v.category).sum ≤ 8) (hR : fr + 1 ≤ R.frames ∧ 8 + (nl + 11) + lc ≤ R.locals) (hc : k + mc ≤ R.cells ∧ n + ms ≤ R.slots) (hq : pc + 3 = q)
    (KK : ∀ w1 : va_W, post w1 → JJ p l e R s m args below meth c Q A nL (LW g A lay (w0 ++ w1)) (k + mc) (n + ms) q lo st) : JJ p l e R s m args below meth c Q A nL (LW g A lay (w0 ++ wc)) k n pc lo stk := by
  subst hq
  subst hstk
  intro H locs ls hW hS hl
  obtain ⟨p1, p3, p4, p5, p6, p7, p8⟩ := P
  have cb := callB_of (R := R) (rm := rmk fr lc mc ms) np C.2.2.2.2 (goodAW p4) rfl rfl rfl (C.w p3) (C.w hw) ⟨p6, p7, p8⟩ hR
  have hF : ∀ q, va_A wc H.size q → A q := fun q h => by
    rcases h with ⟨k, e, h⟩ | h
    · exact hW.2.2 (w0.length + k) (q, e) (by rw [List.getElem?_append_right (by omega), Nat.add_sub_cancel_left]; exact h)
    · exact K.1 q (Nat.le_trans hS.1 h)
  refine va_callv (va_runI (As := As) (rest := st) C (hM (va_A wc H.size)) ⟨cb, p5, C.w p1⟩ ⟨PC.blind, fun U hU hWm => ⟨rfl, l_pre K hW hS hU hWm rfl hF⟩⟩ rfl hn hl.1 rfl (lv_room hsum) hd hc) hS (fun q _ h => hF q h) hF (fun u t H1 locs1 ht hvm hp hB hz hk hS1 => ?_)
  obtain ⟨lay1, hB⟩ := hB
  rw [ht] at hB
  exact KK u hp H1 locs1 ls (LW_join hW.1 hW.2 hk hF hB.1 hB.2) hS1 hl
theorem l_callIN (q : Nat) (C : KX p m c cc nL s args own) (K : KC l g A s) (hM : ∀ A1 : Nat → Prop, MVp l y bytes nl fr lc mc ms (.ref b :: As) (LW g A1) g A1 lay wc post) (P : CPi y bytes nl np) (hw : va_Nw (.methodLinkNest own index y host) s) (hd : decode cc pc = .ok (.invokespecial index, 3)) (hn : As.length = np) (hstk : stk = As.reverse ++ .ref b :: st) (hsum : (st.map fun v => v.category).sum ≤ 8) (hR : fr + 1 ≤ R.frames ∧ 8 + (nl + 11) + lc ≤ R.locals) (hc : k + mc ≤ R.cells ∧ n + ms ≤ R.slots) (hq : pc + 3 = q)
    (KK : ∀ w1 : va_W, post w1 → JJ p l e R s m args below meth c Q A nL (LW g A lay (w0 ++ w1)) (k + mc) (n + ms) q lo st) : JJ p l e R s m args below meth c Q A nL (LW g A lay (w0 ++ wc)) k n pc lo stk := by
  subst hq
  subst hstk
  intro H locs ls hW hS hl
  obtain ⟨p1, p3, p4, p5, p6, p7, p8⟩ := P
  have cb := va_cnB (R := R) (args := args) (rm := rmk fr lc mc ms) np C.2.2.2.2 (goodAW p4) rfl rfl rfl hw (C.w p3) ⟨p6, p7, p8⟩ hR
  have hF : ∀ q, va_A wc H.size q → A q := fun q h => by
    rcases h with ⟨k, e, h⟩ | h
    · exact hW.2.2 (w0.length + k) (q, e) (by rw [List.getElem?_append_right (by omega), Nat.add_sub_cancel_left]; exact h)
    · exact K.1 q (Nat.le_trans hS.1 h)
  refine va_callv (va_runIN (As := As) (rest := st) C (hM (va_A wc H.size)) ⟨cb, p5, C.w p1⟩ ⟨PC.blind, fun U hU hWm => ⟨rfl, l_pre K hW hS hU hWm rfl hF⟩⟩ rfl hn hl.1 rfl (lv_room hsum) hd hc) hS (fun q _ h => hF q h) hF (fun u t H1 locs1 ht hvm hp hB hz hk hS1 => ?_)
  obtain ⟨lay1, hB⟩ := hB
  rw [ht] at hB
  exact KK u hp H1 locs1 ls (LW_join hW.1 hW.2 hk hF hB.1 hB.2) hS1 hl
end LRO
/-- Arrays.fill over a row of a plain world -/
def lfl (f : Nat → Int32) (v : Int32) (j : Nat) : Nat → Int32 := fun i => if i < j then v else f i
theorem lfl_succ (f : Nat → Int32) (v : Int32) (j : Nat) : upd (lfl f v j) j v = lfl f v (j + 1) := by
  funext i
  simp only [upd, lfl]
  by_cases h1 : i = j
  · subst h1; simp
  · by_cases h2 : i < j
    · simp [h1, h2, Nat.lt_succ_of_lt h2]
    · have h3 : ¬ i < j + 1 := by omega
      simp [h1, h2, h3]
theorem lfl_0 (f : Nat → Int32) (v : Int32) : lfl f v 0 = f := by funext i; simp [lfl]
set_option maxHeartbeats 4000000 in
theorem lfill_loop {l : Launch} {p : Program} {e : Env} {s : State} {m : MethodId} {args : Array Value} {below : List Frame} {meth : Method} {c : Code} {g : GG} {A : Nat → Prop} (C : KX p m c cJ7_fill_53178 4 s args RJ7) (K : KC l g A s) (M : KM meth none) {lay : Nat → Nat} {ws : va_W} {t len a : Nat} {f : Nat → Int32} {v : Int32} (hlt : t < ws.length) (hlen : len < 2 ^ 31) :
    ∀ (d j : Nat), j + d = len → JJ p l e (rmk 0 0 0 0) s m args below meth c (MQ below (va_Qv (fun u : va_W => u = ws.set t (a, .inl (gI g, (len, .inl (lfl f v len))))) (BC (LW g A)) A) args s 0 0 A) A 4 (LW g A lay (ws.set t (a, .inl (gI g, (len, .inl (lfl f v j)))))) 0 0 5 [(0, .ref a), (1, .int v), (2, .int (nI j)), (3, .int (nI len))] [] := by
  intro d
  induction d with
  | zero =>
    intro j hj
    refine j_iload_n 6 C dJ7_fill_53178_5 2 rfl rfl ?_
    refine j_iload_n 7 C dJ7_fill_53178_6 3 rfl rfl ?_
    refine j_icmp_ge 10 20 C dJ7_fill_53178_7 (by decide) rfl (fun hc => ?_) (fun hc => ?_)
    · have e1 : j = len := by omega
      subst e1
      exact x_v C M dJ7_fill_53178_20
    · exact absurd (nI_le (by omega) (by omega)) hc
  | succ d ih =>
    intro j hj
    refine j_iload_n 6 C dJ7_fill_53178_5 2 rfl rfl ?_
    refine j_iload_n 7 C dJ7_fill_53178_6 3 rfl rfl ?_
    refine j_icmp_ge 10 20 C dJ7_fill_53178_7 (by decide) rfl (fun hc => ?_) (fun hc => ?_)
    · exact absurd hc (nI_ge (by omega) hlen)
    · refine j_aload_n 11 C dJ7_fill_53178_10 0 rfl rfl ?_
      refine j_iload_n 12 C dJ7_fill_53178_11 2 rfl rfl ?_
      refine j_iload_n 13 C dJ7_fill_53178_12 1 rfl rfl ?_
      intro H locs ls hW hS hl
      refine va_iast C.1 C.2.1 K.2.1 hW.1 hW.2 hS t 0 (List.getElem?_set_self hlt) rfl (i := nI j) (vp_in_nI (by omega) hlen) dJ7_fill_53178_13 (fun H1 locs1 hP hD hS1 => ?_)
      rw [List.set_set, show (nI j).toNatClampNeg = j from nI_clamp (by omega), lfl_succ] at hP hD
      have J := ih (j + 1) (by omega)
      have J2 := j_sub (lo := [(2, .int (nI (j + 1))), (0, .ref a), (1, .int v), (3, .int (nI len))]) [1, 2, 0, 3] rfl J
      have J3 := j_goto 5 C (pc := 17) dJ7_fill_53178_17 (by decide) J2
      have J4 := j_iinc 17 C (pc := 14) (lo := [(0, .ref a), (1, .int v), (2, .int (nI j)), (3, .int (nI len))]) dJ7_fill_53178_14 2 rfl (v := nI (j + 1)) ((ii_1 _).trans (nI_1 j)) (by decide) rfl rfl J3
      exact J4 H1 locs1 ls ⟨hP, hD⟩ hS1 hl
set_option maxHeartbeats 4000000 in
theorem lc_fill {l : Launch} (hst : l.stackTraces = false) (g : GG) (A : Nat → Prop) (lay : Nat → Nat) {ws : va_W} {t len a : Nat} {f : Nat → Int32} {v : Int32} (h : ws[t]? = some (a, .inl (gI g, (len, .inl f)))) (hlen : len < 2 ^ 31) : MV l yJ7_fill_53178 cJ7_fill_53178 4 0 0 0 0 [.ref a, .int v] (LW g A) g A lay ws (ws.set t (a, .inl (gI g, (len, .inl (lfl f v len))))) := by
  have hlt : t < ws.length := (List.getElem?_eq_some_iff.mp h).1
  refine e_v (own := RJ7) (lo := [(0, .ref a), (1, .int v)]) hst (plainFor_of_name (by decide)) rfl rfl (Nat.le_of_ble_eq_true rfl) ?_
  intro p e s m args below meth c C K M
  refine j_iconst 1 C dJ7_fill_53178_0 ic_0 rfl ?_
  refine j_istore_n 2 C dJ7_fill_53178_1 (lo' := [(2, .int (0 : Int32)), (0, .ref a), (1, .int v)]) (by decide) rfl rfl ?_
  refine j_aload_n 3 C dJ7_fill_53178_2 1 rfl rfl ?_
  have J := lfill_loop (e := e) (below := below) (lay := lay) (a := a) (f := f) (v := v) C K M hlt hlen len 0 (Nat.zero_add _)
  have e1 : ws.set t (a, .inl (gI g, (len, .inl (lfl f v 0)))) = ws := by
    rw [lfl_0]
    exact List.ext_getElem? fun j => by
      rw [List.getElem?_set]
      by_cases e : t = j
      · subst e; rw [if_pos rfl, if_pos hlt, h]
      · rw [if_neg e]
  rw [e1] at J
  have J2 := j_sub (lo := [(3, .int (nI len)), (2, .int (0 : Int32)), (0, .ref a), (1, .int v)]) [2, 3, 1, 0] rfl J
  have J3 := j_istore_n 5 C (pc := 4) (lo := [(2, .int (0 : Int32)), (0, .ref a), (1, .int v)]) dJ7_fill_53178_4 (by decide) rfl rfl J2
  intro H locs ls hW hS hl
  refine va_alen (x := (len, .inl f)) (ty := .int) C.1 C.2.1 K.2.1 hW.1 t 0 h rfl rfl dJ7_fill_53178_3 ?_
  exact J3 H locs ls hW hS hl
