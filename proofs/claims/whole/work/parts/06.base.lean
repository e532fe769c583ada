/-! ===== the judgement: W over any heap that holds the world Wd ===== -/
section JBA
variable {p : Program} {l : Launch} {e : Env} {R : Room} {s : State} {m : MethodId} {args : Array Value} {below : List Frame} {meth : Method} {c : Code} {Q : State → Prop} {A : Nat → Prop} {nL : Nat} {Wd : Heap → Prop} {k n pc : Nat} {lo : List (Nat × Value)} {st : List Value} {cc : ByteArray} {own : String}
def JJ (p : Program) (l : Launch) (e : Env) (R : Room) (s : State) (m : MethodId) (args : Array Value) (below : List Frame) (meth : Method) (c : Code) (Q : State → Prop) (A : Nat → Prop) (nL : Nat) (Wd : Heap → Prop) (k n pc : Nat) (lo : List (Nat × Value)) (st : List Value) : Prop :=
  ∀ (H : Heap) (locs : List Loc) (ls : Array Slot), Wd H → va_S A s.heap H locs → lv_has ls nL lo → W p l e R s m args below meth c H locs k n Q (F0 m pc ls st)
abbrev KX (p : Program) (m : MethodId) (c : Code) (cc : ByteArray) (nL : Nat) (s : State) (args : Array Value) (own : String) : Prop := CallFix p m c cc nL s args AW own
theorem KX.w (C : KX p m c cc nL s args own) {w : Cond} (h : w ∈ AW) : w.before args s = true := C.2.2.2.2 w h
/-- fewer locals, by their places -/
theorem j_sub (ks : List Nat) {lo' : List (Nat × Value)} (h : lv_pick lo ks = lo') (K : JJ p l e R s m args below meth c Q A nL Wd k n pc lo' st) : JJ p l e R s m args below meth c Q A nL Wd k n pc lo st := fun H locs ls hW hS hl => K H locs ls hW hS (lv_sub hl ks h)
theorem j_widen {k' n' : Nat} (h1 : k ≤ k') (h2 : n ≤ n') (K : JJ p l e R s m args below meth c Q A nL Wd k' n' pc lo st) : JJ p l e R s m args below meth c Q A nL Wd k n pc lo st := fun H locs ls hW hS hl => W.widen h1 h2 (K H locs ls hW hS hl)
theorem j_world {Wd' : Heap → Prop} (h : ∀ H, Wd H → Wd' H) (K : JJ p l e R s m args below meth c Q A nL Wd' k n pc lo st) : JJ p l e R s m args below meth c Q A nL Wd k n pc lo st := fun H locs ls hW hS hl => K H locs ls (h H hW) hS hl
theorem j_st {st' : List Value} (h : st = st') (K : JJ p l e R s m args below meth c Q A nL Wd k n pc lo st') : JJ p l e R s m args below meth c Q A nL Wd k n pc lo st := h ▸ K
theorem j_iload_n (q : Nat) (C : KX p m c cc nL s args own) {i : Fin 4} {x : Int32} (hd : decode cc pc = .ok (.iload_n i, 1)) (j : Nat) (hj : lo[j]? = some ((i : Nat), .int x)) (hq : pc + 1 = q) (K : JJ p l e R s m args below meth c Q A nL Wd k n q lo (.int x :: st)) : JJ p l e R s m args below meth c Q A nL Wd k n pc lo (st) := by
  subst hq
  exact fun H locs ls hW hS hl => lv_iload_n C.1 C.2.1 hd rfl (lv_at hl j hj) (K H locs ls hW hS hl)
theorem j_iload (q : Nat) (C : KX p m c cc nL s args own) {i : Nat} {x : Int32} (hd : decode cc pc = .ok (.iload i, 2)) (j : Nat) (hj : lo[j]? = some (i, .int x)) (hq : pc + 2 = q) (K : JJ p l e R s m args below meth c Q A nL Wd k n q lo (.int x :: st)) : JJ p l e R s m args below meth c Q A nL Wd k n pc lo (st) := by
  subst hq
  exact fun H locs ls hW hS hl => lv_iload C.1 C.2.1 hd (lv_at hl j hj) (K H locs ls hW hS hl)
theorem j_aload_n (q : Nat) (C : KX p m c cc nL s args own) {i : Fin 4} {x : Nat} (hd : decode cc pc = .ok (.aload_n i, 1)) (j : Nat) (hj : lo[j]? = some ((i : Nat), .ref x)) (hq : pc + 1 = q) (K : JJ p l e R s m args below meth c Q A nL Wd k n q lo (.ref x :: st)) : JJ p l e R s m args below meth c Q A nL Wd k n pc lo (st) := by
  subst hq
  exact fun H locs ls hW hS hl => lv_aload_n C.1 C.2.1 hd rfl (lv_at hl j hj) (K H locs ls hW hS hl)
theorem j_aload (q : Nat) (C : KX p m c cc nL s args own) {i : Nat} {x : Nat} (hd : decode cc pc = .ok (.aload i, 2)) (j : Nat) (hj : lo[j]? = some (i, .ref x)) (hq : pc + 2 = q) (K : JJ p l e R s m args below meth c Q A nL Wd k n q lo (.ref x :: st)) : JJ p l e R s m args below meth c Q A nL Wd k n pc lo (st) := by
  subst hq
  exact fun H locs ls hW hS hl => lv_aload C.1 C.2.1 hd (lv_at hl j hj) (K H locs ls hW hS hl)
theorem j_lload_n (q : Nat) (C : KX p m c cc nL s args own) {i : Fin 4} {x : Int64} (hd : decode cc pc = .ok (.lload_n i, 1)) (j : Nat) (hj : lo[j]? = some ((i : Nat), .long x)) (hq : pc + 1 = q) (K : JJ p l e R s m args below meth c Q A nL Wd k n q lo (.long x :: st)) : JJ p l e R s m args below meth c Q A nL Wd k n pc lo (st) := by
  subst hq
  exact fun H locs ls hW hS hl => lv_lload_n C.1 C.2.1 hd rfl (lv_at hl j hj) (K H locs ls hW hS hl)
theorem j_lload (q : Nat) (C : KX p m c cc nL s args own) {i : Nat} {x : Int64} (hd : decode cc pc = .ok (.lload i, 2)) (j : Nat) (hj : lo[j]? = some (i, .long x)) (hq : pc + 2 = q) (K : JJ p l e R s m args below meth c Q A nL Wd k n q lo (.long x :: st)) : JJ p l e R s m args below meth c Q A nL Wd k n pc lo (st) := by
  subst hq
  exact fun H locs ls hW hS hl => lv_lload C.1 C.2.1 hd (lv_at hl j hj) (K H locs ls hW hS hl)
theorem j_fload_n (q : Nat) (C : KX p m c cc nL s args own) {i : Fin 4} {x : UInt32} (hd : decode cc pc = .ok (.fload_n i, 1)) (j : Nat) (hj : lo[j]? = some ((i : Nat), .float x)) (hq : pc + 1 = q) (K : JJ p l e R s m args below meth c Q A nL Wd k n q lo (.float x :: st)) : JJ p l e R s m args below meth c Q A nL Wd k n pc lo (st) := by
  subst hq
  exact fun H locs ls hW hS hl => lv_fload_n C.1 C.2.1 hd rfl (lv_at hl j hj) (K H locs ls hW hS hl)
theorem j_fload (q : Nat) (C : KX p m c cc nL s args own) {i : Nat} {x : UInt32} (hd : decode cc pc = .ok (.fload i, 2)) (j : Nat) (hj : lo[j]? = some (i, .float x)) (hq : pc + 2 = q) (K : JJ p l e R s m args below meth c Q A nL Wd k n q lo (.float x :: st)) : JJ p l e R s m args below meth c Q A nL Wd k n pc lo (st) := by
  subst hq
  exact fun H locs ls hW hS hl => lv_fload C.1 C.2.1 hd (lv_at hl j hj) (K H locs ls hW hS hl)
theorem j_dload_n (q : Nat) (C : KX p m c cc nL s args own) {i : Fin 4} {x : UInt64} (hd : decode cc pc = .ok (.dload_n i, 1)) (j : Nat) (hj : lo[j]? = some ((i : Nat), .double x)) (hq : pc + 1 = q) (K : JJ p l e R s m args below meth c Q A nL Wd k n q lo (.double x :: st)) : JJ p l e R s m args below meth c Q A nL Wd k n pc lo (st) := by
  subst hq
  exact fun H locs ls hW hS hl => lv_dload_n C.1 C.2.1 hd rfl (lv_at hl j hj) (K H locs ls hW hS hl)
theorem j_dload (q : Nat) (C : KX p m c cc nL s args own) {i : Nat} {x : UInt64} (hd : decode cc pc = .ok (.dload i, 2)) (j : Nat) (hj : lo[j]? = some (i, .double x)) (hq : pc + 2 = q) (K : JJ p l e R s m args below meth c Q A nL Wd k n q lo (.double x :: st)) : JJ p l e R s m args below meth c Q A nL Wd k n pc lo (st) := by
  subst hq
  exact fun H locs ls hW hS hl => lv_dload C.1 C.2.1 hd (lv_at hl j hj) (K H locs ls hW hS hl)
theorem j_istore_n (q : Nat) (C : KX p m c cc nL s args own) {i : Fin 4} {x : Int32} {lo' : List (Nat × Value)} (hd : decode cc pc = .ok (.istore_n i, 1)) (hn : (i : Nat) < nL) (hl' : ((i : Nat), Value.int x) :: lo.filter (fun q => !(q.1 == (i : Nat)) && !(q.1 + 1 == (i : Nat) && q.2.category == 2)) = lo') (hq : pc + 1 = q) (K : JJ p l e R s m args below meth c Q A nL Wd k n q lo' st) : JJ p l e R s m args below meth c Q A nL Wd k n pc lo (.int x :: st) := by
  subst hq
  exact fun H locs ls hW hS hl => lv_istore_n C.1 C.2.1 hd rfl hl hn hl' (fun ls hl => K H locs ls hW hS hl)
theorem j_istore (q : Nat) (C : KX p m c cc nL s args own) {i : Nat} {x : Int32} {lo' : List (Nat × Value)} (hd : decode cc pc = .ok (.istore i, 2)) (hn : i < nL) (hl' : (i, Value.int x) :: lo.filter (fun q => !(q.1 == i) && !(q.1 + 1 == i && q.2.category == 2)) = lo') (hq : pc + 2 = q) (K : JJ p l e R s m args below meth c Q A nL Wd k n q lo' st) : JJ p l e R s m args below meth c Q A nL Wd k n pc lo (.int x :: st) := by
  subst hq
  exact fun H locs ls hW hS hl => lv_istore C.1 C.2.1 hd hl hn hl' (fun ls hl => K H locs ls hW hS hl)
theorem j_astore_n (q : Nat) (C : KX p m c cc nL s args own) {i : Fin 4} {x : Nat} {lo' : List (Nat × Value)} (hd : decode cc pc = .ok (.astore_n i, 1)) (hn : (i : Nat) < nL) (hl' : ((i : Nat), Value.ref x) :: lo.filter (fun q => !(q.1 == (i : Nat)) && !(q.1 + 1 == (i : Nat) && q.2.category == 2)) = lo') (hq : pc + 1 = q) (K : JJ p l e R s m args below meth c Q A nL Wd k n q lo' st) : JJ p l e R s m args below meth c Q A nL Wd k n pc lo (.ref x :: st) := by
  subst hq
  exact fun H locs ls hW hS hl => lv_astore_n C.1 C.2.1 hd rfl hl hn hl' (fun ls hl => K H locs ls hW hS hl)
theorem j_astore (q : Nat) (C : KX p m c cc nL s args own) {i : Nat} {x : Nat} {lo' : List (Nat × Value)} (hd : decode cc pc = .ok (.astore i, 2)) (hn : i < nL) (hl' : (i, Value.ref x) :: lo.filter (fun q => !(q.1 == i) && !(q.1 + 1 == i && q.2.category == 2)) = lo') (hq : pc + 2 = q) (K : JJ p l e R s m args below meth c Q A nL Wd k n q lo' st) : JJ p l e R s m args below meth c Q A nL Wd k n pc lo (.ref x :: st) := by
  subst hq
  exact fun H locs ls hW hS hl => lv_astore C.1 C.2.1 hd hl hn hl' (fun ls hl => K H locs ls hW hS hl)
theorem j_lstore_n (q : Nat) (C : KX p m c cc nL s args own) {i : Fin 4} {x : Int64} {lo' : List (Nat × Value)} (hd : decode cc pc = .ok (.lstore_n i, 1)) (hn : (i : Nat) + 1 < nL) (hl' : ((i : Nat), Value.long x) :: lo.filter (fun q => !(q.1 == (i : Nat)) && (!(q.1 == (i : Nat) + 1) && !(q.1 + 1 == (i : Nat) && q.2.category == 2))) = lo') (hq : pc + 1 = q) (K : JJ p l e R s m args below meth c Q A nL Wd k n q lo' st) : JJ p l e R s m args below meth c Q A nL Wd k n pc lo (.long x :: st) := by
  subst hq
  exact fun H locs ls hW hS hl => lv_lstore_n C.1 C.2.1 hd rfl hl hn hl' (fun ls hl => K H locs ls hW hS hl)
theorem j_lstore (q : Nat) (C : KX p m c cc nL s args own) {i : Nat} {x : Int64} {lo' : List (Nat × Value)} (hd : decode cc pc = .ok (.lstore i, 2)) (hn : i + 1 < nL) (hl' : (i, Value.long x) :: lo.filter (fun q => !(q.1 == i) && (!(q.1 == i + 1) && !(q.1 + 1 == i && q.2.category == 2))) = lo') (hq : pc + 2 = q) (K : JJ p l e R s m args below meth c Q A nL Wd k n q lo' st) : JJ p l e R s m args below meth c Q A nL Wd k n pc lo (.long x :: st) := by
  subst hq
  exact fun H locs ls hW hS hl => lv_lstore C.1 C.2.1 hd hl hn hl' (fun ls hl => K H locs ls hW hS hl)
theorem j_fstore_n (q : Nat) (C : KX p m c cc nL s args own) {i : Fin 4} {x : UInt32} {lo' : List (Nat × Value)} (hd : decode cc pc = .ok (.fstore_n i, 1)) (hn : (i : Nat) < nL) (hl' : ((i : Nat), Value.float x) :: lo.filter (fun q => !(q.1 == (i : Nat)) && !(q.1 + 1 == (i : Nat) && q.2.category == 2)) = lo') (hq : pc + 1 = q) (K : JJ p l e R s m args below meth c Q A nL Wd k n q lo' st) : JJ p l e R s m args below meth c Q A nL Wd k n pc lo (.float x :: st) := by
  subst hq
  exact fun H locs ls hW hS hl => lv_fstore_n C.1 C.2.1 hd rfl hl hn hl' (fun ls hl => K H locs ls hW hS hl)
theorem j_fstore (q : Nat) (C : KX p m c cc nL s args own) {i : Nat} {x : UInt32} {lo' : List (Nat × Value)} (hd : decode cc pc = .ok (.fstore i, 2)) (hn : i < nL) (hl' : (i, Value.float x) :: lo.filter (fun q => !(q.1 == i) && !(q.1 + 1 == i && q.2.category == 2)) = lo') (hq : pc + 2 = q) (K : JJ p l e R s m args below meth c Q A nL Wd k n q lo' st) : JJ p l e R s m args below meth c Q A nL Wd k n pc lo (.float x :: st) := by
  subst hq
  exact fun H locs ls hW hS hl => lv_fstore C.1 C.2.1 hd hl hn hl' (fun ls hl => K H locs ls hW hS hl)
theorem j_dstore_n (q : Nat) (C : KX p m c cc nL s args own) {i : Fin 4} {x : UInt64} {lo' : List (Nat × Value)} (hd : decode cc pc = .ok (.dstore_n i, 1)) (hn : (i : Nat) + 1 < nL) (hl' : ((i : Nat), Value.double x) :: lo.filter (fun q => !(q.1 == (i : Nat)) && (!(q.1 == (i : Nat) + 1) && !(q.1 + 1 == (i : Nat) && q.2.category == 2))) = lo') (hq : pc + 1 = q) (K : JJ p l e R s m args below meth c Q A nL Wd k n q lo' st) : JJ p l e R s m args below meth c Q A nL Wd k n pc lo (.double x :: st) := by
  subst hq
  exact fun H locs ls hW hS hl => lv_dstore_n C.1 C.2.1 hd rfl hl hn hl' (fun ls hl => K H locs ls hW hS hl)
theorem j_dstore (q : Nat) (C : KX p m c cc nL s args own) {i : Nat} {x : UInt64} {lo' : List (Nat × Value)} (hd : decode cc pc = .ok (.dstore i, 2)) (hn : i + 1 < nL) (hl' : (i, Value.double x) :: lo.filter (fun q => !(q.1 == i) && (!(q.1 == i + 1) && !(q.1 + 1 == i && q.2.category == 2))) = lo') (hq : pc + 2 = q) (K : JJ p l e R s m args below meth c Q A nL Wd k n q lo' st) : JJ p l e R s m args below meth c Q A nL Wd k n pc lo (.double x :: st) := by
  subst hq
  exact fun H locs ls hW hS hl => lv_dstore C.1 C.2.1 hd hl hn hl' (fun ls hl => K H locs ls hW hS hl)
theorem j_iinc (q : Nat) (C : KX p m c cc nL s args own) {i : Nat} {z : Int} {x v : Int32} {lo' : List (Nat × Value)} (hd : decode cc pc = .ok (.iinc i z, 3)) (j : Nat) (hj : lo[j]? = some (i, .int x)) (hv : x + Int32.ofInt z = v) (hn : i < nL) (hl' : (i, Value.int v) :: lo.filter (fun q => !(q.1 == i) && !(q.1 + 1 == i && q.2.category == 2)) = lo') (hq : pc + 3 = q) (K : JJ p l e R s m args below meth c Q A nL Wd k n q lo' st) : JJ p l e R s m args below meth c Q A nL Wd k n pc lo st := by
  subst hq
  exact fun H locs ls hW hS hl => lv_iinc C.1 C.2.1 hd hl (k := j) hj hv hn hl' (fun ls hl => K H locs ls hW hS hl)
theorem j_iconst (q : Nat) (C : KX p m c cc nL s args own) {z : Int} {v : Int32} (hd : decode cc pc = .ok (.iconst z, 1)) (hv : Int32.ofInt z = v) (hq : pc + 1 = q) (K : JJ p l e R s m args below meth c Q A nL Wd k n q lo (.int v :: st)) : JJ p l e R s m args below meth c Q A nL Wd k n pc lo (st) := by
  subst hq
  exact fun H locs ls hW hS hl => lv_iconst C.1 C.2.1 hd hv (K H locs ls hW hS hl)
theorem j_bipush (q : Nat) (C : KX p m c cc nL s args own) {z : Int} {v : Int32} (hd : decode cc pc = .ok (.bipush z, 2)) (hv : (Int8.ofInt z).toInt32 = v) (hq : pc + 2 = q) (K : JJ p l e R s m args below meth c Q A nL Wd k n q lo (.int v :: st)) : JJ p l e R s m args below meth c Q A nL Wd k n pc lo (st) := by
  subst hq
  exact fun H locs ls hW hS hl => lv_bipush C.1 C.2.1 hd hv (K H locs ls hW hS hl)
theorem j_sipush (q : Nat) (C : KX p m c cc nL s args own) {z : Int} {v : Int32} (hd : decode cc pc = .ok (.sipush z, 3)) (hv : (Int16.ofInt z).toInt32 = v) (hq : pc + 3 = q) (K : JJ p l e R s m args below meth c Q A nL Wd k n q lo (.int v :: st)) : JJ p l e R s m args below meth c Q A nL Wd k n pc lo (st) := by
  subst hq
  exact fun H locs ls hW hS hl => lv_sipush C.1 C.2.1 hd hv (K H locs ls hW hS hl)
theorem j_lconst (q : Nat) (C : KX p m c cc nL s args own) {z : Fin 2} {v : Int64} (hd : decode cc pc = .ok (.lconst z, 1)) (hv : Int64.ofNat (z : Nat) = v) (hq : pc + 1 = q) (K : JJ p l e R s m args below meth c Q A nL Wd k n q lo (.long v :: st)) : JJ p l e R s m args below meth c Q A nL Wd k n pc lo (st) := by
  subst hq
  exact fun H locs ls hW hS hl => lv_lconst C.1 C.2.1 hd hv (K H locs ls hW hS hl)
theorem j_fconst0 (q : Nat) (C : KX p m c cc nL s args own)  (hd : decode cc pc = .ok (.fconst 0, 1))  (hq : pc + 1 = q) (K : JJ p l e R s m args below meth c Q A nL Wd k n q lo (.float FP.fconst0 :: st)) : JJ p l e R s m args below meth c Q A nL Wd k n pc lo (st) := by
  subst hq
  exact fun H locs ls hW hS hl => lv_fconst0 C.1 C.2.1 hd (K H locs ls hW hS hl)
theorem j_fconst1 (q : Nat) (C : KX p m c cc nL s args own)  (hd : decode cc pc = .ok (.fconst 1, 1))  (hq : pc + 1 = q) (K : JJ p l e R s m args below meth c Q A nL Wd k n q lo (.float FP.fconst1 :: st)) : JJ p l e R s m args below meth c Q A nL Wd k n pc lo (st) := by
  subst hq
  exact fun H locs ls hW hS hl => lv_fconst1 C.1 C.2.1 hd (K H locs ls hW hS hl)
theorem j_fconst2 (q : Nat) (C : KX p m c cc nL s args own)  (hd : decode cc pc = .ok (.fconst 2, 1))  (hq : pc + 1 = q) (K : JJ p l e R s m args below meth c Q A nL Wd k n q lo (.float FP.fconst2 :: st)) : JJ p l e R s m args below meth c Q A nL Wd k n pc lo (st) := by
  subst hq
  exact fun H locs ls hW hS hl => lv_fconst2 C.1 C.2.1 hd (K H locs ls hW hS hl)
theorem j_dconst0 (q : Nat) (C : KX p m c cc nL s args own)  (hd : decode cc pc = .ok (.dconst 0, 1))  (hq : pc + 1 = q) (K : JJ p l e R s m args below meth c Q A nL Wd k n q lo (.double FP.dconst0 :: st)) : JJ p l e R s m args below meth c Q A nL Wd k n pc lo (st) := by
  subst hq
  exact fun H locs ls hW hS hl => lv_dconst0 C.1 C.2.1 hd (K H locs ls hW hS hl)
theorem j_dconst1 (q : Nat) (C : KX p m c cc nL s args own)  (hd : decode cc pc = .ok (.dconst 1, 1))  (hq : pc + 1 = q) (K : JJ p l e R s m args below meth c Q A nL Wd k n q lo (.double FP.dconst1 :: st)) : JJ p l e R s m args below meth c Q A nL Wd k n pc lo (st) := by
  subst hq
  exact fun H locs ls hW hS hl => lv_dconst1 C.1 C.2.1 hd (K H locs ls hW hS hl)
theorem j_ldc (q : Nat) (C : KX p m c cc nL s args own) {i : Nat} {v : Int32} (hd : decode cc pc = .ok (.ldc i, 2)) (hw : Cond.constant own i v ∈ AW) (hq : pc + 2 = q) (K : JJ p l e R s m args below meth c Q A nL Wd k n q lo (.int v :: st)) : JJ p l e R s m args below meth c Q A nL Wd k n pc lo (st) := by
  subst hq
  exact fun H locs ls hW hS hl => lv_ldc C.1 C.2.1 C.2.2.2.1 (C.w hw) hd (K H locs ls hW hS hl)
theorem j_ldcf (q : Nat) (C : KX p m c cc nL s args own) {i : Nat} {v : UInt32} (hd : decode cc pc = .ok (.ldc i, 2)) (hw : Cond.constantFloat own i v ∈ AW) (hq : pc + 2 = q) (K : JJ p l e R s m args below meth c Q A nL Wd k n q lo (.float v :: st)) : JJ p l e R s m args below meth c Q A nL Wd k n pc lo (st) := by
  subst hq
  exact fun H locs ls hW hS hl => lv_ldcf C.1 C.2.1 C.2.2.2.1 (C.w hw) hd (K H locs ls hW hS hl)
theorem j_ldc2 (q : Nat) (C : KX p m c cc nL s args own) {i : Nat} {v : Int64} (hd : decode cc pc = .ok (.ldc2_w i, 3)) (hw : Cond.constantLong own i v ∈ AW) (hq : pc + 3 = q) (K : JJ p l e R s m args below meth c Q A nL Wd k n q lo (.long v :: st)) : JJ p l e R s m args below meth c Q A nL Wd k n pc lo (st) := by
  subst hq
  exact fun H locs ls hW hS hl => lv_ldc2 C.1 C.2.1 C.2.2.2.1 (C.w hw) hd (K H locs ls hW hS hl)
theorem j_ldc2d (q : Nat) (C : KX p m c cc nL s args own) {i : Nat} {v : UInt64} (hd : decode cc pc = .ok (.ldc2_w i, 3)) (hw : Cond.constantDouble own i v ∈ AW) (hq : pc + 3 = q) (K : JJ p l e R s m args below meth c Q A nL Wd k n q lo (.double v :: st)) : JJ p l e R s m args below meth c Q A nL Wd k n pc lo (st) := by
  subst hq
  exact fun H locs ls hW hS hl => lv_ldc2d C.1 C.2.1 C.2.2.2.1 (C.w hw) hd (K H locs ls hW hS hl)
theorem j_iadd (q : Nat) (C : KX p m c cc nL s args own) {x y : Int32} (hd : decode cc pc = .ok (.iadd, 1))  (hq : pc + 1 = q) (K : JJ p l e R s m args below meth c Q A nL Wd k n q lo (.int (x + y) :: st)) : JJ p l e R s m args below meth c Q A nL Wd k n pc lo (.int y :: .int x :: st) := by
  subst hq
  exact fun H locs ls hW hS hl => lv_iadd C.1 C.2.1 hd (K H locs ls hW hS hl)
theorem j_isub (q : Nat) (C : KX p m c cc nL s args own) {x y : Int32} (hd : decode cc pc = .ok (.isub, 1))  (hq : pc + 1 = q) (K : JJ p l e R s m args below meth c Q A nL Wd k n q lo (.int (x - y) :: st)) : JJ p l e R s m args below meth c Q A nL Wd k n pc lo (.int y :: .int x :: st) := by
  subst hq
  exact fun H locs ls hW hS hl => lv_isub C.1 C.2.1 hd (K H locs ls hW hS hl)
theorem j_imul (q : Nat) (C : KX p m c cc nL s args own) {x y : Int32} (hd : decode cc pc = .ok (.imul, 1))  (hq : pc + 1 = q) (K : JJ p l e R s m args below meth c Q A nL Wd k n q lo (.int (x * y) :: st)) : JJ p l e R s m args below meth c Q A nL Wd k n pc lo (.int y :: .int x :: st) := by
  subst hq
  exact fun H locs ls hW hS hl => lv_imul C.1 C.2.1 hd (K H locs ls hW hS hl)
theorem j_iand (q : Nat) (C : KX p m c cc nL s args own) {x y : Int32} (hd : decode cc pc = .ok (.iand, 1))  (hq : pc + 1 = q) (K : JJ p l e R s m args below meth c Q A nL Wd k n q lo (.int (x &&& y) :: st)) : JJ p l e R s m args below meth c Q A nL Wd k n pc lo (.int y :: .int x :: st) := by
  subst hq
  exact fun H locs ls hW hS hl => lv_iand C.1 C.2.1 hd (K H locs ls hW hS hl)
theorem j_ior (q : Nat) (C : KX p m c cc nL s args own) {x y : Int32} (hd : decode cc pc = .ok (.ior, 1))  (hq : pc + 1 = q) (K : JJ p l e R s m args below meth c Q A nL Wd k n q lo (.int (x ||| y) :: st)) : JJ p l e R s m args below meth c Q A nL Wd k n pc lo (.int y :: .int x :: st) := by
  subst hq
  exact fun H locs ls hW hS hl => lv_ior C.1 C.2.1 hd (K H locs ls hW hS hl)
theorem j_ixor (q : Nat) (C : KX p m c cc nL s args own) {x y : Int32} (hd : decode cc pc = .ok (.ixor, 1))  (hq : pc + 1 = q) (K : JJ p l e R s m args below meth c Q A nL Wd k n q lo (.int (x ^^^ y) :: st)) : JJ p l e R s m args below meth c Q A nL Wd k n pc lo (.int y :: .int x :: st) := by
  subst hq
  exact fun H locs ls hW hS hl => lv_ixor C.1 C.2.1 hd (K H locs ls hW hS hl)
theorem j_ishl (q : Nat) (C : KX p m c cc nL s args own) {x y : Int32} (hd : decode cc pc = .ok (.ishl, 1))  (hq : pc + 1 = q) (K : JJ p l e R s m args below meth c Q A nL Wd k n q lo (.int (x <<< (y &&& 31)) :: st)) : JJ p l e R s m args below meth c Q A nL Wd k n pc lo (.int y :: .int x :: st) := by
  subst hq
  exact fun H locs ls hW hS hl => lv_ishl C.1 C.2.1 hd (K H locs ls hW hS hl)
theorem j_ishr (q : Nat) (C : KX p m c cc nL s args own) {x y : Int32} (hd : decode cc pc = .ok (.ishr, 1))  (hq : pc + 1 = q) (K : JJ p l e R s m args below meth c Q A nL Wd k n q lo (.int (x >>> (y &&& 31)) :: st)) : JJ p l e R s m args below meth c Q A nL Wd k n pc lo (.int y :: .int x :: st) := by
  subst hq
  exact fun H locs ls hW hS hl => lv_ishr C.1 C.2.1 hd (K H locs ls hW hS hl)
theorem j_idiv (q : Nat) (C : KX p m c cc nL s args own) {x y : Int32} (hd : decode cc pc = .ok (.idiv, 1)) (hne : ¬ y = 0) (hq : pc + 1 = q) (K : JJ p l e R s m args below meth c Q A nL Wd k n q lo (.int (x / y) :: st)) : JJ p l e R s m args below meth c Q A nL Wd k n pc lo (.int y :: .int x :: st) := by
  subst hq
  exact fun H locs ls hW hS hl => lv_idiv C.1 C.2.1 hd hne (K H locs ls hW hS hl)
theorem j_irem (q : Nat) (C : KX p m c cc nL s args own) {x y : Int32} (hd : decode cc pc = .ok (.irem, 1)) (hne : ¬ y = 0) (hq : pc + 1 = q) (K : JJ p l e R s m args below meth c Q A nL Wd k n q lo (.int (x - x / y * y) :: st)) : JJ p l e R s m args below meth c Q A nL Wd k n pc lo (.int y :: .int x :: st) := by
  subst hq
  exact fun H locs ls hW hS hl => lv_irem C.1 C.2.1 hd hne (K H locs ls hW hS hl)
theorem j_ladd (q : Nat) (C : KX p m c cc nL s args own) {x y : Int64} (hd : decode cc pc = .ok (.ladd, 1))  (hq : pc + 1 = q) (K : JJ p l e R s m args below meth c Q A nL Wd k n q lo (.long (x + y) :: st)) : JJ p l e R s m args below meth c Q A nL Wd k n pc lo (.long y :: .long x :: st) := by
  subst hq
  exact fun H locs ls hW hS hl => lv_ladd C.1 C.2.1 hd (K H locs ls hW hS hl)
theorem j_lsub (q : Nat) (C : KX p m c cc nL s args own) {x y : Int64} (hd : decode cc pc = .ok (.lsub, 1))  (hq : pc + 1 = q) (K : JJ p l e R s m args below meth c Q A nL Wd k n q lo (.long (x - y) :: st)) : JJ p l e R s m args below meth c Q A nL Wd k n pc lo (.long y :: .long x :: st) := by
  subst hq
  exact fun H locs ls hW hS hl => lv_lsub C.1 C.2.1 hd (K H locs ls hW hS hl)
theorem j_lmul (q : Nat) (C : KX p m c cc nL s args own) {x y : Int64} (hd : decode cc pc = .ok (.lmul, 1))  (hq : pc + 1 = q) (K : JJ p l e R s m args below meth c Q A nL Wd k n q lo (.long (x * y) :: st)) : JJ p l e R s m args below meth c Q A nL Wd k n pc lo (.long y :: .long x :: st) := by
  subst hq
  exact fun H locs ls hW hS hl => lv_lmul C.1 C.2.1 hd (K H locs ls hW hS hl)
theorem j_lshl (q : Nat) (C : KX p m c cc nL s args own) {x : Int64} {y : Int32} (hd : decode cc pc = .ok (.lshl, 1))  (hq : pc + 1 = q) (K : JJ p l e R s m args below meth c Q A nL Wd k n q lo (.long (x <<< (y.toInt64 &&& 63)) :: st)) : JJ p l e R s m args below meth c Q A nL Wd k n pc lo (.int y :: .long x :: st) := by
  subst hq
  exact fun H locs ls hW hS hl => lv_lshl C.1 C.2.1 hd rfl (K H locs ls hW hS hl)
theorem j_i2l (q : Nat) (C : KX p m c cc nL s args own) {x : Int32} (hd : decode cc pc = .ok (.i2l, 1))  (hq : pc + 1 = q) (K : JJ p l e R s m args below meth c Q A nL Wd k n q lo (.long x.toInt64 :: st)) : JJ p l e R s m args below meth c Q A nL Wd k n pc lo (.int x :: st) := by
  subst hq
  exact fun H locs ls hW hS hl => lv_i2l C.1 C.2.1 hd rfl (K H locs ls hW hS hl)
theorem j_i2f (q : Nat) (C : KX p m c cc nL s args own) {x : Int32} (hd : decode cc pc = .ok (.i2f, 1))  (hq : pc + 1 = q) (K : JJ p l e R s m args below meth c Q A nL Wd k n q lo (.float (FP.i2f x) :: st)) : JJ p l e R s m args below meth c Q A nL Wd k n pc lo (.int x :: st) := by
  subst hq
  exact fun H locs ls hW hS hl => lv_i2f C.1 C.2.1 hd (K H locs ls hW hS hl)
theorem j_i2d (q : Nat) (C : KX p m c cc nL s args own) {x : Int32} (hd : decode cc pc = .ok (.i2d, 1))  (hq : pc + 1 = q) (K : JJ p l e R s m args below meth c Q A nL Wd k n q lo (.double (FP.i2d x) :: st)) : JJ p l e R s m args below meth c Q A nL Wd k n pc lo (.int x :: st) := by
  subst hq
  exact fun H locs ls hW hS hl => lv_i2d C.1 C.2.1 hd (K H locs ls hW hS hl)
theorem j_f2i (q : Nat) (C : KX p m c cc nL s args own) {x : UInt32} (hd : decode cc pc = .ok (.f2i, 1))  (hq : pc + 1 = q) (K : JJ p l e R s m args below meth c Q A nL Wd k n q lo (.int (FP.f2i x) :: st)) : JJ p l e R s m args below meth c Q A nL Wd k n pc lo (.float x :: st) := by
  subst hq
  exact fun H locs ls hW hS hl => lv_f2i C.1 C.2.1 hd (K H locs ls hW hS hl)
theorem j_d2l (q : Nat) (C : KX p m c cc nL s args own) {x : UInt64} (hd : decode cc pc = .ok (.d2l, 1))  (hq : pc + 1 = q) (K : JJ p l e R s m args below meth c Q A nL Wd k n q lo (.long (FP.d2l x) :: st)) : JJ p l e R s m args below meth c Q A nL Wd k n pc lo (.double x :: st) := by
  subst hq
  exact fun H locs ls hW hS hl => lv_d2l C.1 C.2.1 hd (K H locs ls hW hS hl)
theorem j_fdiv (q : Nat) (C : KX p m c cc nL s args own) {x y : UInt32} (hd : decode cc pc = .ok (.fdiv, 1)) (hne : vf_n32 (FP.fdiv x y)) (hq : pc + 1 = q) (K : JJ p l e R s m args below meth c Q A nL Wd k n q lo (.float (FP.fdiv x y) :: st)) : JJ p l e R s m args below meth c Q A nL Wd k n pc lo (.float y :: .float x :: st) := by
  subst hq
  exact fun H locs ls hW hS hl => lv_fdiv C.1 C.2.1 hd hne (K H locs ls hW hS hl)
theorem j_ddiv (q : Nat) (C : KX p m c cc nL s args own) {x y : UInt64} (hd : decode cc pc = .ok (.ddiv, 1)) (hne : vf_n64 (FP.ddiv x y)) (hq : pc + 1 = q) (K : JJ p l e R s m args below meth c Q A nL Wd k n q lo (.double (FP.ddiv x y) :: st)) : JJ p l e R s m args below meth c Q A nL Wd k n pc lo (.double y :: .double x :: st) := by
  subst hq
  exact fun H locs ls hW hS hl => lv_ddiv C.1 C.2.1 hd hne (K H locs ls hW hS hl)
theorem j_fmul (q : Nat) (C : KX p m c cc nL s args own) {x y : UInt32} (hd : decode cc pc = .ok (.fmul, 1)) (hne : vf_n32 (FP.fmul x y)) (hq : pc + 1 = q) (K : JJ p l e R s m args below meth c Q A nL Wd k n q lo (.float (FP.fmul x y) :: st)) : JJ p l e R s m args below meth c Q A nL Wd k n pc lo (.float y :: .float x :: st) := by
  subst hq
  exact fun H locs ls hW hS hl => lv_fmul C.1 C.2.1 hd hne (K H locs ls hW hS hl)
theorem j_dmul (q : Nat) (C : KX p m c cc nL s args own) {x y : UInt64} (hd : decode cc pc = .ok (.dmul, 1)) (hne : vf_n64 (FP.dmul x y)) (hq : pc + 1 = q) (K : JJ p l e R s m args below meth c Q A nL Wd k n q lo (.double (FP.dmul x y) :: st)) : JJ p l e R s m args below meth c Q A nL Wd k n pc lo (.double y :: .double x :: st) := by
  subst hq
  exact fun H locs ls hW hS hl => lv_dmul C.1 C.2.1 hd hne (K H locs ls hW hS hl)
theorem j_fsub (q : Nat) (C : KX p m c cc nL s args own) {x y : UInt32} (hd : decode cc pc = .ok (.fsub, 1)) (hne : vf_n32 (FP.fsub x y)) (hq : pc + 1 = q) (K : JJ p l e R s m args below meth c Q A nL Wd k n q lo (.float (FP.fsub x y) :: st)) : JJ p l e R s m args below meth c Q A nL Wd k n pc lo (.float y :: .float x :: st) := by
  subst hq
  exact fun H locs ls hW hS hl => lv_fsub C.1 C.2.1 hd hne (K H locs ls hW hS hl)
theorem j_dsub (q : Nat) (C : KX p m c cc nL s args own) {x y : UInt64} (hd : decode cc pc = .ok (.dsub, 1)) (hne : vf_n64 (FP.dsub x y)) (hq : pc + 1 = q) (K : JJ p l e R s m args below meth c Q A nL Wd k n q lo (.double (FP.dsub x y) :: st)) : JJ p l e R s m args below meth c Q A nL Wd k n pc lo (.double y :: .double x :: st) := by
  subst hq
  exact fun H locs ls hW hS hl => lv_dsub C.1 C.2.1 hd hne (K H locs ls hW hS hl)
theorem j_fcmp (q : Nat) (C : KX p m c cc nL s args own) {x y : UInt32} {op : CmpOp} (hd : decode cc pc = .ok (.fcmp op, 1))  (hq : pc + 1 = q) (K : JJ p l e R s m args below meth c Q A nL Wd k n q lo (.int (Op.cmpValue (FP.fcmp x y) op) :: st)) : JJ p l e R s m args below meth c Q A nL Wd k n pc lo (.float y :: .float x :: st) := by
  subst hq
  exact fun H locs ls hW hS hl => lv_fcmp C.1 C.2.1 hd (K H locs ls hW hS hl)
theorem j_dcmp (q : Nat) (C : KX p m c cc nL s args own) {x y : UInt64} {op : CmpOp} (hd : decode cc pc = .ok (.dcmp op, 1))  (hq : pc + 1 = q) (K : JJ p l e R s m args below meth c Q A nL Wd k n q lo (.int (Op.cmpValue (FP.dcmp x y) op) :: st)) : JJ p l e R s m args below meth c Q A nL Wd k n pc lo (.double y :: .double x :: st) := by
  subst hq
  exact fun H locs ls hW hS hl => lv_dcmp C.1 C.2.1 hd (K H locs ls hW hS hl)
theorem j_dup (q : Nat) (C : KX p m c cc nL s args own) {v : Value} (hd : decode cc pc = .ok (.dup, 1)) (hv : v.category = 1) (hq : pc + 1 = q) (K : JJ p l e R s m args below meth c Q A nL Wd k n q lo (v :: v :: st)) : JJ p l e R s m args below meth c Q A nL Wd k n pc lo (v :: st) := by
  subst hq
  exact fun H locs ls hW hS hl => lv_dup C.1 C.2.1 hd hv (K H locs ls hW hS hl)
theorem j_pop (q : Nat) (C : KX p m c cc nL s args own) {v : Value} (hd : decode cc pc = .ok (.pop, 1)) (hv : v.category = 1) (hq : pc + 1 = q) (K : JJ p l e R s m args below meth c Q A nL Wd k n q lo (st)) : JJ p l e R s m args below meth c Q A nL Wd k n pc lo (v :: st) := by
  subst hq
  exact fun H locs ls hW hS hl => lv_pop C.1 C.2.1 hd hv (K H locs ls hW hS hl)
theorem j_dup_x1 (q : Nat) (C : KX p m c cc nL s args own) {v w : Value} (hd : decode cc pc = .ok (.dup_x1, 1)) (hv : v.category = 1) (hw : w.category = 1) (hq : pc + 1 = q) (K : JJ p l e R s m args below meth c Q A nL Wd k n q lo (v :: w :: v :: st)) : JJ p l e R s m args below meth c Q A nL Wd k n pc lo (v :: w :: st) := by
  subst hq
  exact fun H locs ls hW hS hl => lv_dup_x1 C.1 C.2.1 hd hv hw (K H locs ls hW hS hl)
theorem j_dup2 (q : Nat) (C : KX p m c cc nL s args own) {v w : Value} (hd : decode cc pc = .ok (.dup2, 1)) (hv : v.category = 1) (hw : w.category = 1) (hq : pc + 1 = q) (K : JJ p l e R s m args below meth c Q A nL Wd k n q lo (v :: w :: v :: w :: st)) : JJ p l e R s m args below meth c Q A nL Wd k n pc lo (v :: w :: st) := by
  subst hq
  exact fun H locs ls hW hS hl => lv_dup2_11 C.1 C.2.1 hd hv hw (K H locs ls hW hS hl)
theorem j_if_eq (q t : Nat) (C : KX p m c cc nL s args own) {x : Int32} {off : Int} (hd : decode cc pc = .ok (.ifCond .eq off, 3)) (ht : (pc : Int) + off = (t : Int)) (hq : pc + 3 = q) (K1 : x = 0 → JJ p l e R s m args below meth c Q A nL Wd k n t lo st) (K2 : ¬ x = 0 → JJ p l e R s m args below meth c Q A nL Wd k n q lo st) : JJ p l e R s m args below meth c Q A nL Wd k n pc lo (.int x :: st) := by
  subst hq
  exact fun H locs ls hW hS hl => lv_if_eq C.1 C.2.1 hd ht (fun h => K1 h H locs ls hW hS hl) (fun h => K2 h H locs ls hW hS hl)
theorem j_icmp_eq (q t : Nat) (C : KX p m c cc nL s args own) {x y : Int32} {off : Int} (hd : decode cc pc = .ok (.if_icmp .eq off, 3)) (ht : (pc : Int) + off = (t : Int)) (hq : pc + 3 = q) (K1 : x = y → JJ p l e R s m args below meth c Q A nL Wd k n t lo st) (K2 : ¬ x = y → JJ p l e R s m args below meth c Q A nL Wd k n q lo st) : JJ p l e R s m args below meth c Q A nL Wd k n pc lo (.int y :: .int x :: st) := by
  subst hq
  exact fun H locs ls hW hS hl => lv_icmp_eq C.1 C.2.1 hd ht (fun h => K1 h H locs ls hW hS hl) (fun h => K2 h H locs ls hW hS hl)
theorem j_if_ne (q t : Nat) (C : KX p m c cc nL s args own) {x : Int32} {off : Int} (hd : decode cc pc = .ok (.ifCond .ne off, 3)) (ht : (pc : Int) + off = (t : Int)) (hq : pc + 3 = q) (K1 : ¬ x = 0 → JJ p l e R s m args below meth c Q A nL Wd k n t lo st) (K2 : x = 0 → JJ p l e R s m args below meth c Q A nL Wd k n q lo st) : JJ p l e R s m args below meth c Q A nL Wd k n pc lo (.int x :: st) := by
  subst hq
  exact fun H locs ls hW hS hl => lv_if_ne C.1 C.2.1 hd ht (fun h => K1 h H locs ls hW hS hl) (fun h => K2 h H locs ls hW hS hl)
theorem j_icmp_ne (q t : Nat) (C : KX p m c cc nL s args own) {x y : Int32} {off : Int} (hd : decode cc pc = .ok (.if_icmp .ne off, 3)) (ht : (pc : Int) + off = (t : Int)) (hq : pc + 3 = q) (K1 : ¬ x = y → JJ p l e R s m args below meth c Q A nL Wd k n t lo st) (K2 : x = y → JJ p l e R s m args below meth c Q A nL Wd k n q lo st) : JJ p l e R s m args below meth c Q A nL Wd k n pc lo (.int y :: .int x :: st) := by
  subst hq
  exact fun H locs ls hW hS hl => lv_icmp_ne C.1 C.2.1 hd ht (fun h => K1 h H locs ls hW hS hl) (fun h => K2 h H locs ls hW hS hl)
theorem j_if_lt (q t : Nat) (C : KX p m c cc nL s args own) {x : Int32} {off : Int} (hd : decode cc pc = .ok (.ifCond .lt off, 3)) (ht : (pc : Int) + off = (t : Int)) (hq : pc + 3 = q) (K1 : x < 0 → JJ p l e R s m args below meth c Q A nL Wd k n t lo st) (K2 : ¬ x < 0 → JJ p l e R s m args below meth c Q A nL Wd k n q lo st) : JJ p l e R s m args below meth c Q A nL Wd k n pc lo (.int x :: st) := by
  subst hq
  exact fun H locs ls hW hS hl => lv_if_lt C.1 C.2.1 hd ht (fun h => K1 h H locs ls hW hS hl) (fun h => K2 h H locs ls hW hS hl)
theorem j_icmp_lt (q t : Nat) (C : KX p m c cc nL s args own) {x y : Int32} {off : Int} (hd : decode cc pc = .ok (.if_icmp .lt off, 3)) (ht : (pc : Int) + off = (t : Int)) (hq : pc + 3 = q) (K1 : x < y → JJ p l e R s m args below meth c Q A nL Wd k n t lo st) (K2 : ¬ x < y → JJ p l e R s m args below meth c Q A nL Wd k n q lo st) : JJ p l e R s m args below meth c Q A nL Wd k n pc lo (.int y :: .int x :: st) := by
  subst hq
  exact fun H locs ls hW hS hl => lv_icmp_lt C.1 C.2.1 hd ht (fun h => K1 h H locs ls hW hS hl) (fun h => K2 h H locs ls hW hS hl)
theorem j_if_ge (q t : Nat) (C : KX p m c cc nL s args own) {x : Int32} {off : Int} (hd : decode cc pc = .ok (.ifCond .ge off, 3)) (ht : (pc : Int) + off = (t : Int)) (hq : pc + 3 = q) (K1 : 0 ≤ x → JJ p l e R s m args below meth c Q A nL Wd k n t lo st) (K2 : ¬ 0 ≤ x → JJ p l e R s m args below meth c Q A nL Wd k n q lo st) : JJ p l e R s m args below meth c Q A nL Wd k n pc lo (.int x :: st) := by
  subst hq
  exact fun H locs ls hW hS hl => lv_if_ge C.1 C.2.1 hd ht (fun h => K1 h H locs ls hW hS hl) (fun h => K2 h H locs ls hW hS hl)
theorem j_icmp_ge (q t : Nat) (C : KX p m c cc nL s args own) {x y : Int32} {off : Int} (hd : decode cc pc = .ok (.if_icmp .ge off, 3)) (ht : (pc : Int) + off = (t : Int)) (hq : pc + 3 = q) (K1 : y ≤ x → JJ p l e R s m args below meth c Q A nL Wd k n t lo st) (K2 : ¬ y ≤ x → JJ p l e R s m args below meth c Q A nL Wd k n q lo st) : JJ p l e R s m args below meth c Q A nL Wd k n pc lo (.int y :: .int x :: st) := by
  subst hq
  exact fun H locs ls hW hS hl => lv_icmp_ge C.1 C.2.1 hd ht (fun h => K1 h H locs ls hW hS hl) (fun h => K2 h H locs ls hW hS hl)
theorem j_if_gt (q t : Nat) (C : KX p m c cc nL s args own) {x : Int32} {off : Int} (hd : decode cc pc = .ok (.ifCond .gt off, 3)) (ht : (pc : Int) + off = (t : Int)) (hq : pc + 3 = q) (K1 : 0 < x → JJ p l e R s m args below meth c Q A nL Wd k n t lo st) (K2 : ¬ 0 < x → JJ p l e R s m args below meth c Q A nL Wd k n q lo st) : JJ p l e R s m args below meth c Q A nL Wd k n pc lo (.int x :: st) := by
  subst hq
  exact fun H locs ls hW hS hl => lv_if_gt C.1 C.2.1 hd ht (fun h => K1 h H locs ls hW hS hl) (fun h => K2 h H locs ls hW hS hl)
theorem j_icmp_gt (q t : Nat) (C : KX p m c cc nL s args own) {x y : Int32} {off : Int} (hd : decode cc pc = .ok (.if_icmp .gt off, 3)) (ht : (pc : Int) + off = (t : Int)) (hq : pc + 3 = q) (K1 : y < x → JJ p l e R s m args below meth c Q A nL Wd k n t lo st) (K2 : ¬ y < x → JJ p l e R s m args below meth c Q A nL Wd k n q lo st) : JJ p l e R s m args below meth c Q A nL Wd k n pc lo (.int y :: .int x :: st) := by
  subst hq
  exact fun H locs ls hW hS hl => lv_icmp_gt C.1 C.2.1 hd ht (fun h => K1 h H locs ls hW hS hl) (fun h => K2 h H locs ls hW hS hl)
theorem j_if_le (q t : Nat) (C : KX p m c cc nL s args own) {x : Int32} {off : Int} (hd : decode cc pc = .ok (.ifCond .le off, 3)) (ht : (pc : Int) + off = (t : Int)) (hq : pc + 3 = q) (K1 : x ≤ 0 → JJ p l e R s m args below meth c Q A nL Wd k n t lo st) (K2 : ¬ x ≤ 0 → JJ p l e R s m args below meth c Q A nL Wd k n q lo st) : JJ p l e R s m args below meth c Q A nL Wd k n pc lo (.int x :: st) := by
  subst hq
  exact fun H locs ls hW hS hl => lv_if_le C.1 C.2.1 hd ht (fun h => K1 h H locs ls hW hS hl) (fun h => K2 h H locs ls hW hS hl)
theorem j_icmp_le (q t : Nat) (C : KX p m c cc nL s args own) {x y : Int32} {off : Int} (hd : decode cc pc = .ok (.if_icmp .le off, 3)) (ht : (pc : Int) + off = (t : Int)) (hq : pc + 3 = q) (K1 : x ≤ y → JJ p l e R s m args below meth c Q A nL Wd k n t lo st) (K2 : ¬ x ≤ y → JJ p l e R s m args below meth c Q A nL Wd k n q lo st) : JJ p l e R s m args below meth c Q A nL Wd k n pc lo (.int y :: .int x :: st) := by
  subst hq
  exact fun H locs ls hW hS hl => lv_icmp_le C.1 C.2.1 hd ht (fun h => K1 h H locs ls hW hS hl) (fun h => K2 h H locs ls hW hS hl)
theorem j_goto (t : Nat) (C : KX p m c cc nL s args own) {off : Int} (hd : decode cc pc = .ok (.goto off, 3)) (ht : (pc : Int) + off = (t : Int)) (K : JJ p l e R s m args below meth c Q A nL Wd k n t lo st) : JJ p l e R s m args below meth c Q A nL Wd k n pc lo st := fun H locs ls hW hS hl => lv_goto C.1 C.2.1 hd ht (K H locs ls hW hS hl)
theorem j_tin (t : Nat) (C : KX p m c cc nL s args own) {dflt lo0 hi : Int} {offs : Array Int} {len : Nat} {x : Int32} {off : Int} (hd : decode cc pc = .ok (.tableswitch dflt lo0 hi offs, len)) (h1 : ¬ x.toInt < lo0) (h2 : ¬ hi < x.toInt) (ho : offs[(x.toInt - lo0).toNat]? = some off) (ht : (pc : Int) + off = (t : Int)) (K : JJ p l e R s m args below meth c Q A nL Wd k n t lo st) : JJ p l e R s m args below meth c Q A nL Wd k n pc lo (.int x :: st) := fun H locs ls hW hS hl => lv_tableIn C.1 C.2.1 hd h1 h2 ho ht (K H locs ls hW hS hl)
theorem j_tout (t : Nat) (C : KX p m c cc nL s args own) {dflt lo0 hi : Int} {offs : Array Int} {len : Nat} {x : Int32} (hd : decode cc pc = .ok (.tableswitch dflt lo0 hi offs, len)) (h : x.toInt < lo0 ∨ hi < x.toInt) (ht : (pc : Int) + dflt = (t : Int)) (K : JJ p l e R s m args below meth c Q A nL Wd k n t lo st) : JJ p l e R s m args below meth c Q A nL Wd k n pc lo (.int x :: st) := fun H locs ls hW hS hl => lv_tableOut C.1 C.2.1 hd h ht (K H locs ls hW hS hl)
theorem j_lookup (t : Nat) (C : KX p m c cc nL s args own) {dflt : Int} {ps : Array (Int × Int)} {len : Nat} {x : Int32} {off : Int} (hd : decode cc pc = .ok (.lookupswitch dflt ps, len)) (hp : (ps.toList.zip (ps.toList.drop 1)).all (fun (a, next) => a.1 < next.1) = true) (ho : Op.lookupswitch.offset ps.toList dflt x.toInt = off) (ht : (pc : Int) + off = (t : Int)) (K : JJ p l e R s m args below meth c Q A nL Wd k n t lo st) : JJ p l e R s m args below meth c Q A nL Wd k n pc lo (.int x :: st) := fun H locs ls hW hS hl => lv_lookup C.1 C.2.1 hd hp ho ht (K H locs ls hW hS hl)
end JBA
