theorem ic_m1 : Int32.ofInt (-1) = (-1) := by decide
theorem ic_0 : Int32.ofInt 0 = 0 := by decide
theorem ic_1 : Int32.ofInt 1 = 1 := by decide
theorem ic_2 : Int32.ofInt 2 = 2 := by decide
theorem ic_3 : Int32.ofInt 3 = 3 := by decide
theorem ic_4 : Int32.ofInt 4 = 4 := by decide
theorem ic_5 : Int32.ofInt 5 = 5 := by decide
theorem bp_6 : (Int8.ofInt 6).toInt32 = 6 := by decide
theorem bp_7 : (Int8.ofInt 7).toInt32 = 7 := by decide
theorem bp_8 : (Int8.ofInt 8).toInt32 = 8 := by decide
theorem bp_9 : (Int8.ofInt 9).toInt32 = 9 := by decide
theorem bp_10 : (Int8.ofInt 10).toInt32 = 10 := by decide
theorem bp_11 : (Int8.ofInt 11).toInt32 = 11 := by decide
theorem bp_12 : (Int8.ofInt 12).toInt32 = 12 := by decide
theorem bp_23 : (Int8.ofInt 23).toInt32 = 23 := by decide
theorem bp_28 : (Int8.ofInt 28).toInt32 = 28 := by decide
theorem bp_31 : (Int8.ofInt 31).toInt32 = 31 := by decide
theorem bp_32 : (Int8.ofInt 32).toInt32 = 32 := by decide
theorem bp_45 : (Int8.ofInt 45).toInt32 = 45 := by decide
theorem bp_48 : (Int8.ofInt 48).toInt32 = 48 := by decide
theorem bp_52 : (Int8.ofInt 52).toInt32 = 52 := by decide
theorem bp_57 : (Int8.ofInt 57).toInt32 = 57 := by decide
theorem bp_59 : (Int8.ofInt 59).toInt32 = 59 := by decide
theorem bp_60 : (Int8.ofInt 60).toInt32 = 60 := by decide
theorem bp_61 : (Int8.ofInt 61).toInt32 = 61 := by decide
theorem bp_62 : (Int8.ofInt 62).toInt32 = 62 := by decide
theorem bp_97 : (Int8.ofInt 97).toInt32 = 97 := by decide
theorem bp_99 : (Int8.ofInt 99).toInt32 = 99 := by decide
theorem bp_102 : (Int8.ofInt 102).toInt32 = 102 := by decide
theorem bp_106 : (Int8.ofInt 106).toInt32 = 106 := by decide
theorem bp_112 : (Int8.ofInt 112).toInt32 = 112 := by decide
theorem bp_114 : (Int8.ofInt 114).toInt32 = 114 := by decide
theorem bp_115 : (Int8.ofInt 115).toInt32 = 115 := by decide
theorem bp_119 : (Int8.ofInt 119).toInt32 = 119 := by decide
theorem bp_126 : (Int8.ofInt 126).toInt32 = 126 := by decide
theorem bp_127 : (Int8.ofInt 127).toInt32 = 127 := by decide
theorem sp_150 : (Int16.ofInt 150).toInt32 = 150 := by decide
theorem sp_512 : (Int16.ofInt 512).toInt32 = 512 := by decide
theorem sp_2048 : (Int16.ofInt 2048).toInt32 = 2048 := by decide
theorem sp_14336 : (Int16.ofInt 14336).toInt32 = 14336 := by decide
theorem ii_m1 (x : Int32) : x + Int32.ofInt (-1) = x + (-1) := by rw [show Int32.ofInt (-1) = (-1) by decide]
theorem ii_1 (x : Int32) : x + Int32.ofInt 1 = x + 1 := by rw [show Int32.ofInt 1 = 1 by decide]
theorem ii_5 (x : Int32) : x + Int32.ofInt 5 = x + 5 := by rw [show Int32.ofInt 5 = 5 by decide]
theorem lo1_s {A1 R : Type} {step : (A1 → Option R) → A1 → Option R} {f : Nat} {a1 : A1} : lo1 step (f + 1) a1 = step (lo1 step f) a1 := rfl
theorem lo2_s {A1 A2 R : Type} {step : (A1 → A2 → Option R) → A1 → A2 → Option R} {f : Nat} {a1 : A1} {a2 : A2} : lo2 step (f + 1) a1 a2 = step (lo2 step f) a1 a2 := rfl
theorem lo3_s {A1 A2 A3 R : Type} {step : (A1 → A2 → A3 → Option R) → A1 → A2 → A3 → Option R} {f : Nat} {a1 : A1} {a2 : A2} {a3 : A3} : lo3 step (f + 1) a1 a2 a3 = step (lo3 step f) a1 a2 a3 := rfl
theorem lo4_s {A1 A2 A3 A4 R : Type} {step : (A1 → A2 → A3 → A4 → Option R) → A1 → A2 → A3 → A4 → Option R} {f : Nat} {a1 : A1} {a2 : A2} {a3 : A3} {a4 : A4} : lo4 step (f + 1) a1 a2 a3 a4 = step (lo4 step f) a1 a2 a3 a4 := rfl
theorem lo5_s {A1 A2 A3 A4 A5 R : Type} {step : (A1 → A2 → A3 → A4 → A5 → Option R) → A1 → A2 → A3 → A4 → A5 → Option R} {f : Nat} {a1 : A1} {a2 : A2} {a3 : A3} {a4 : A4} {a5 : A5} : lo5 step (f + 1) a1 a2 a3 a4 a5 = step (lo5 step f) a1 a2 a3 a4 a5 := rfl
theorem lo6_s {A1 A2 A3 A4 A5 A6 R : Type} {step : (A1 → A2 → A3 → A4 → A5 → A6 → Option R) → A1 → A2 → A3 → A4 → A5 → A6 → Option R} {f : Nat} {a1 : A1} {a2 : A2} {a3 : A3} {a4 : A4} {a5 : A5} {a6 : A6} : lo6 step (f + 1) a1 a2 a3 a4 a5 a6 = step (lo6 step f) a1 a2 a3 a4 a5 a6 := rfl
theorem lo7_s {A1 A2 A3 A4 A5 A6 A7 R : Type} {step : (A1 → A2 → A3 → A4 → A5 → A6 → A7 → Option R) → A1 → A2 → A3 → A4 → A5 → A6 → A7 → Option R} {f : Nat} {a1 : A1} {a2 : A2} {a3 : A3} {a4 : A4} {a5 : A5} {a6 : A6} {a7 : A7} : lo7 step (f + 1) a1 a2 a3 a4 a5 a6 a7 = step (lo7 step f) a1 a2 a3 a4 a5 a6 a7 := rfl
def nz (x : Int32) : Bool := decide (¬ x = 0)
theorem nz_e {x : Int32} (h : nz x = true) : ¬ x = 0 := of_decide_eq_true h
def imax (x y : Int32) : Int32 := if x < y then y else x
def imin (x y : Int32) : Int32 := if y < x then y else x
theorem mmax_s : Cond.static Lib.Math.max.name ∈ AW := mw_537
theorem mmax_c : Cond.code Lib.Math.max.name Lib.Math.max.code 2 (some .int) ∈ AW := mw_538
theorem mmin_s : Cond.static Lib.Math.min.name ∈ AW := mw_727
theorem mmin_c : Cond.code Lib.Math.min.name Lib.Math.min.code 2 (some .int) ∈ AW := mw_728
theorem mm_i : Cond.initialized "java/lang/Math" ∈ AW := mw_112
theorem ac_n : Cond.native arraycopyName ∈ AW := mw_565
theorem ac_s : Cond.static arraycopyName ∈ AW := mw_564
theorem ac_i : Cond.initialized "java/lang/System" ∈ AW := mw_113
section EXT
variable {p : Program} {l : Launch} {e : Env} {R : Room} {s : State} {m : MethodId} {args : Array Value} {below : List Frame} {meth : Method} {c : Code} {Q : State → Prop} {A : Nat → Prop} {nL : Nat} {Wd : Heap → Prop} {k n pc : Nat} {lo : List (Nat × Value)} {st : List Value} {cc : ByteArray} {own : String}
theorem j_lcmp (q : Nat) (C : KX p m c cc nL s args own) {x y : Int64} (hd : decode cc pc = .ok (.lcmp, 1)) (hq : pc + 1 = q) (K : JJ p l e R s m args below meth c Q A nL Wd k n q lo (.int (lg_cmp x y) :: st)) : JJ p l e R s m args below meth c Q A nL Wd k n pc lo (.long y :: .long x :: st) := by
  subst hq
  exact fun H locs ls hW hS hl => W.lcmp C.1 C.2.1 hd (K H locs ls hW hS hl)
theorem j_topi {x : Int32} (K : ∀ y : Int32, y = x → JJ p l e R s m args below meth c Q A nL Wd k n pc lo (.int y :: st)) : JJ p l e R s m args below meth c Q A nL Wd k n pc lo (.int x :: st) := K x rfl
theorem j_topl {x : Int64} (K : ∀ y : Int64, y = x → JJ p l e R s m args below meth c Q A nL Wd k n pc lo (.long y :: st)) : JJ p l e R s m args below meth c Q A nL Wd k n pc lo (.long x :: st) := K x rfl
theorem j_topf {x : UInt32} (K : ∀ y : UInt32, y = x → JJ p l e R s m args below meth c Q A nL Wd k n pc lo (.float y :: st)) : JJ p l e R s m args below meth c Q A nL Wd k n pc lo (.float x :: st) := K x rfl
theorem j_topd {x : UInt64} (K : ∀ y : UInt64, y = x → JJ p l e R s m args below meth c Q A nL Wd k n pc lo (.double y :: st)) : JJ p l e R s m args below meth c Q A nL Wd k n pc lo (.double x :: st) := K x rfl
theorem st_ldcwF {T : State} {locs : List Loc} {cells slots : Nat} (X : Stand p l e R s m args below meth c T locs cells slots) (hexec : p.tables.exec = Jvm.exec) {index : Nat} {v : UInt32} (hown : s.vm.findClass own = some m.cls)
    (hconst : (Cond.constantFloat own index v).before args s = true) {g : JFrame} (hg : g.method = m) (hdg : decode c.code g.pc = .ok (.ldc_w index, 3)) :
    ∀ target, Steps p.tables e below (T.setTop { g with pc := g.pc + 3, stack := .float v :: g.stack }) target → Steps p.tables e below (T.setTop g) target := by
  obtain ⟨k, cf, hk, hcf, hcp⟩ := Cond.constantFloat_spec hown hconst
  obtain ⟨k', hk', he⟩ := X.warmed.alike.2.2 _ _ hk
  intro target hrest
  subst hg
  jvm_step X.here [hexec, hdg, ldc_w.wp_float (s := T) (f := g) X.here.top hk' (by rw [he]; exact hcf) hcp]
  exact hrest
theorem j_ldcwf (q : Nat) (C : KX p m c cc nL s args own) {i : Nat} {v : UInt32} (hd : decode cc pc = .ok (.ldc_w i, 3)) (hw : Cond.constantFloat own i v ∈ AW) (hq : pc + 3 = q) (K : JJ p l e R s m args below meth c Q A nL Wd k n q lo (.float v :: st)) : JJ p l e R s m args below meth c Q A nL Wd k n pc lo st := by
  subst hq
  intro H locs ls hW hS hl T hT X
  obtain ⟨t, a, b⟩ := K H locs ls hW hS hl T hT X
  exact ⟨t, st_ldcwF X C.1 C.2.2.2.1 (C.w hw) (g := F0 m pc ls st) rfl (by rw [C.2.1]; exact hd) t a, b⟩
theorem j_mmax (q : Nat) (C : KX p m c cc nL s args own) {index : Nat} {x y : Int32} (hw : Cond.methodLink own index Lib.Math.max.name ∈ AW) (hd : decode cc pc = .ok (.invokestatic index, 3)) (h1 : 1 ≤ R.frames) (h2 : (st.map fun v => v.category).sum + 13 ≤ R.locals) (h3 : k ≤ R.cells) (h4 : n ≤ R.slots) (hq : pc + 3 = q) (K : JJ p l e R s m args below meth c Q A nL Wd k n q lo (.int (imax x y) :: st)) : JJ p l e R s m args below meth c Q A nL Wd k n pc lo (.int y :: .int x :: st) := by
  subst hq
  exact fun H locs ls hW hS hl => va_mmax C.1 C.2.1 (C.2.2.1.trans hl.1.symm) C.2.2.2.1 (C.w hw) (C.w mmax_s) (C.w mm_i) (C.w mmax_c) h1 h2 h3 h4 hd (K H locs ls hW hS hl)
theorem j_mmin (q : Nat) (C : KX p m c cc nL s args own) {index : Nat} {x y : Int32} (hw : Cond.methodLink own index Lib.Math.min.name ∈ AW) (hd : decode cc pc = .ok (.invokestatic index, 3)) (h1 : 1 ≤ R.frames) (h2 : (st.map fun v => v.category).sum + 13 ≤ R.locals) (h3 : k ≤ R.cells) (h4 : n ≤ R.slots) (hq : pc + 3 = q) (K : JJ p l e R s m args below meth c Q A nL Wd k n q lo (.int (imin x y) :: st)) : JJ p l e R s m args below meth c Q A nL Wd k n pc lo (.int y :: .int x :: st) := by
  subst hq
  exact fun H locs ls hW hS hl => va_mmin C.1 C.2.1 (C.2.2.1.trans hl.1.symm) C.2.2.2.1 (C.w hw) (C.w mmin_s) (C.w mm_i) (C.w mmin_c) h1 h2 h3 h4 hd (K H locs ls hW hS hl)
theorem nest_155 {g : GG} (K : KC l g A s) : va_Nw (Jvm.Cond.methodLinkNest "FreshDisks" (30 : Nat) ({ cls := "FreshDisks$EventReader", name := "<init>", desc := "()V" } : Jvm.MethodName) "FreshDisks") s := K.2.2.1.2.2.1 _ (by simp [xsM])
theorem nest_196 {g : GG} (K : KC l g A s) : va_Nw (Jvm.Cond.methodLinkNest "FreshDisks$Node" (23 : Nat) ({ cls := "FreshDisks$Writes", name := "<init>", desc := "()V" } : Jvm.MethodName) "FreshDisks") s := K.2.2.1.2.2.1 _ (by simp [xsM])
theorem nest_259 {g : GG} (K : KC l g A s) : va_Nw (Jvm.Cond.methodLinkNest "FreshDisks" (42 : Nat) ({ cls := "FreshDisks$Decision", name := "<init>", desc := "()V" } : Jvm.MethodName) "FreshDisks") s := K.2.2.1.2.2.1 _ (by simp [xsM])
theorem nest_823 {g : GG} (K : KC l g A s) : va_Nw (Jvm.Cond.methodLinkNest "FreshDisks$Disk" (34 : Nat) ({ cls := "FreshDisks", name := "asNumber", desc := "(Z)I" } : Jvm.MethodName) "FreshDisks") s := K.2.2.1.2.2.1 _ (by simp [xsM])
variable {S : Type} {Wf : (Nat → Nat) → S → Heap → Prop} {g : GG} {lay : Nat → Nat} {σ σ' : S} {y : MethodName} {bytes : ByteArray} {nl fr lc mc ms np index : Nat} {As stk : List Value} {b : Nat} {Cn host : String}
theorem k_SiN (q : Nat) (C : KX p m c cc nL s args own) (K : KC l g A s) {rt : FieldType} {r : Int32} (hM : MI l y bytes nl rt fr lc mc ms As Wf g A lay σ σ' r) (P : CPs y bytes nl (some rt) np) (hw : va_Nw (.methodLinkNest own index y host) s) (hd : decode cc pc = .ok (.invokestatic index, 3)) (hn : As.length = np) (hstk : stk = As.reverse ++ st) (hsum : (st.map fun v => v.category).sum ≤ 8) (hR : fr + 1 ≤ R.frames ∧ 8 + (nl + 11) + lc ≤ R.locals) (hc : k + mc ≤ R.cells ∧ n + ms ≤ R.slots) (hq : pc + 3 = q)
    (KK : ∀ lay' : Nat → Nat, JJ p l e R s m args below meth c Q A nL (Wf lay' σ') (k + mc) (n + ms) q lo (.int r :: st)) : JJ p l e R s m args below meth c Q A nL (Wf lay σ) k n pc lo stk := by
  subst hq
  subst hstk
  intro H locs ls hW hS hl
  obtain ⟨p1, p3, p4, p6, p7, p8⟩ := P
  have cb := va_cnB (R := R) (args := args) (rm := rmk fr lc mc ms) np C.2.2.2.2 (goodAW p4) rfl rfl rfl hw (C.w p3) ⟨p6, p7, p8⟩ hR
  refine va_calli (va_runSN (As := As) (rest := st) C hM ⟨cb, C.w p1, trivial⟩ ⟨PC.blind, fun U hU hWm => ⟨rfl, fun q hq => K.1 q (Nat.le_trans hS.1 (by rw [← hU]; exact hq)), by rw [hU]; exact hW, va_K.moved hWm.alike K.2.1, by rw [hU]; exact XS.warm hWm (K.2.2.1.kept hS.2.1)⟩⟩ rfl hn hl.1 rfl (lv_room hsum) hd hc) hS (fun q _ h => h) (fun q h => h) (fun r0 u t H1 locs1 ht hvm hp hB hz hk hS1 => ?_)
  obtain ⟨rfl, rfl⟩ := hp
  obtain ⟨lay1, hB⟩ := hB
  rw [ht] at hB
  exact KK lay1 H1 locs1 ls hB hS1 hl
end EXT
/-! ===== Arrays.fill, System.arraycopy over rows of the class's world ===== -/
theorem pf_row {σ : CS} {f i n : Nat} {v : Int32} : ∀ f' i' : Nat, (f' = f → i' = i → False) → pf σ f i n v f' i' = σ f' i' := fun f' i' h => by
  funext j
  simp only [pf]
  exact if_neg (fun q => h q.1 q.2.1)
theorem pcp_row {σ : CS} {f i f2 i2 n : Nat} : ∀ f' i' : Nat, (f' = f → i' = i → False) → pcp σ f i f2 i2 n f' i' = σ f' i' := fun f' i' h => by
  funext j
  simp only [pcp]
  exact if_neg (fun q => h q.1 q.2.1)
theorem pf_succ (σ : CS) (f i j : Nat) (v : Int32) : pt (pf σ f i j v) f i j v = pf σ f i (j + 1) v := by
  funext f' i' j'
  simp only [pt, pf]
  by_cases h1 : f' = f ∧ i' = i
  · obtain ⟨rfl, rfl⟩ := h1
    by_cases h2 : j' = j
    · subst h2; simp
    · by_cases h3 : j' < j
      · simp [h2, h3, Nat.lt_succ_of_lt h3]
      · have h4 : ¬ j' < j + 1 := by omega
        simp [h2, h3, h4]
  · have h2 : ∀ P : Prop, ¬ (f' = f ∧ i' = i ∧ P) := fun P q => h1 ⟨q.1, q.2.1⟩
    rw [if_neg (h2 _), if_neg (h2 _), if_neg (h2 _)]
theorem pf_0 (σ : CS) (f i : Nat) (v : Int32) : pf σ f i 0 v = σ := by
  funext f' i' j'
  simp [pf]
theorem cp_fill : CPs yJ7_fill_53178 cJ7_fill_53178 4 none 2 := ⟨mw_136, mw_100, mw_137, by decide, by decide, by decide +kernel⟩
set_option maxHeartbeats 4000000 in
theorem fill_loop {l : Launch} {p : Program} {e : Env} {s : State} {m : MethodId} {args : Array Value} {below : List Frame} {meth : Method} {c : Code} {g : GG} {A : Nat → Prop} (C : KX p m c cJ7_fill_53178 4 s args RJ7) (K : KC l g A s) (M : KM meth none) {lay : Nat → Nat} {σ : CS} {f i t len a : Nat} {v : Int32} (hall : ∀ σ : CS, ARR σ f i t len) (ha : cA g lay t = a) (hlen : len < 2 ^ 31) :
    ∀ (d j : Nat), j + d = len → JJ p l e (rmk 0 0 0 0) s m args below meth c (MQ below (va_Qv (fun u : CS => u = pf σ f i len v) (BC (CH g A)) A) args s 0 0 A) A 4 (CH g A lay (pf σ f i j v)) 0 0 5 [(0, .ref a), (1, .int v), (2, .int (nI j)), (3, .int (nI len))] [] := by
  intro d
  induction d with
  | zero =>
    intro j hj
    refine j_iload_n 6 C dJ7_fill_53178_5 2 rfl rfl ?_
    refine j_iload_n 7 C dJ7_fill_53178_6 3 rfl rfl ?_
    refine j_icmp_ge 10 20 C dJ7_fill_53178_7 (by decide) rfl (fun hc => ?_) (fun hc => ?_)
    · have e1 : j = len := by omega
      subst e1
      exact x_v C M dJ7_fill_53178_20
    · exact absurd (nI_le (by omega) (by omega)) hc
  | succ d ih =>
    intro j hj
    refine j_iload_n 6 C dJ7_fill_53178_5 2 rfl rfl ?_
    refine j_iload_n 7 C dJ7_fill_53178_6 3 rfl rfl ?_
    refine j_icmp_ge 10 20 C dJ7_fill_53178_7 (by decide) rfl (fun hc => ?_) (fun hc => ?_)
    · exact absurd hc (nI_ge (by omega) hlen)
    · refine j_aload_n 11 C dJ7_fill_53178_10 0 rfl rfl ?_
      refine j_iload_n 12 C dJ7_fill_53178_11 2 rfl rfl ?_
      refine j_iload_n 13 C dJ7_fill_53178_12 1 rfl rfl ?_
      refine r_ist 14 C K (hall _) ha (x := nI j) (by have := nI_in (c := j) (N := len) (by omega) hlen; simpa [inb] using this) dJ7_fill_53178_13 rfl (fun σ1 e1 => ?_)
      rw [show tn (nI j) = j from nI_clamp (by omega), pf_succ] at e1
      subst e1
      refine j_iinc 17 C dJ7_fill_53178_14 2 rfl (v := nI (j + 1)) ((ii_1 _).trans (nI_1 j)) (lo' := [(2, .int (nI (j + 1))), (0, .ref a), (1, .int v), (3, .int (nI len))]) (by decide) rfl rfl ?_
      refine j_goto 5 C dJ7_fill_53178_17 (by decide) ?_
      refine j_sub [1, 2, 0, 3] (lo' := [(0, .ref a), (1, .int v), (2, .int (nI (j + 1))), (3, .int (nI len))]) rfl ?_
      exact ih (j + 1) (by omega)
set_option maxHeartbeats 4000000 in
theorem c_fill {l : Launch} (hst : l.stackTraces = false) (g : GG) (A : Nat → Prop) (lay : Nat → Nat) {σ : CS} {f i t a : Nat} {v : Int32} (hall : ∀ σ : CS, ARR σ f i t 4) (ha : cA g lay t = a) : MV l yJ7_fill_53178 cJ7_fill_53178 4 0 0 0 0 [.ref a, .int v] (CH g A) g A lay σ (pf σ f i 4 v) := by
  refine e_v (own := RJ7) (lo := [(0, .ref a), (1, .int v)]) hst (plainFor_of_name (by decide)) rfl rfl (Nat.le_of_ble_eq_true rfl) ?_
  intro p e s m args below meth c C K M
  refine j_iconst 1 C dJ7_fill_53178_0 ic_0 rfl ?_
  refine j_istore_n 2 C dJ7_fill_53178_1 (lo' := [(2, .int (0 : Int32)), (0, .ref a), (1, .int v)]) (by decide) rfl rfl ?_
  refine j_aload_n 3 C dJ7_fill_53178_2 1 rfl rfl ?_
  refine r_len 4 C K (hall _) ha dJ7_fill_53178_3 rfl ?_
  refine j_istore_n 5 C dJ7_fill_53178_4 (lo' := [(3, .int (nI 4)), (2, .int (0 : Int32)), (0, .ref a), (1, .int v)]) (by decide) rfl rfl ?_
  refine j_sub [2, 3, 1, 0] (lo' := [(0, .ref a), (1, .int v), (2, .int (nI 0)), (3, .int (nI 4))]) rfl ?_
  have h := fill_loop (e := e) (below := below) (σ := σ) (v := v) C K M hall ha (by omega) 4 0 rfl
  rw [pf_0] at h
  exact h
section CPY
variable {p : Program} {l : Launch} {e : Env} {R : Room} {s : State} {m : MethodId} {args : Array Value} {below : List Frame} {meth : Method} {c : Code} {Q : State → Prop} {A : Nat → Prop} {nL : Nat} {k n pc : Nat} {lo : List (Nat × Value)} {st : List Value} {cc : ByteArray} {own : String} {g : GG} {lay : Nat → Nat} {σ : CS}
theorem r_copy (q : Nat) (C : KX p m c cc nL s args own) (K : KC l g A s) {f i t a f2 i2 t2 a2 index : Nat} (hr2 : ARR σ f2 i2 t2 4) (ha2 : cA g lay t2 = a2) (hr : ARR σ f i t 4) (ha : cA g lay t = a) (hw : Cond.methodLink own index arraycopyName ∈ AW) (hd : decode cc pc = .ok (.invokestatic index, 3)) (h1 : 1 ≤ R.frames) (h2 : (st.map fun v => v.category).sum + (nativeFrameWords "java/lang/System" "arraycopy" 5 + 11) ≤ R.locals) (hq : pc + 3 = q)
    (KK : ∀ σ1 : CS, σ1 = pcp σ f i f2 i2 4 → JJ p l e R s m args below meth c Q A nL (CH g A lay σ1) k n q lo st) : JJ p l e R s m args below meth c Q A nL (CH g A lay σ) k n pc lo (.int 4 :: .int 0 :: .ref a :: .int 0 :: .ref a2 :: st) := by
  subst hq
  subst ha
  subst ha2
  intro H locs ls hW hS hl
  refine va_copyi (ty := .int) C.1 C.2.1 (C.2.2.1.trans hl.1.symm) C.2.2.2.1 (C.w hw) (C.w ac_n) (C.w ac_s) (C.w ac_i) K.2.1 hW.1 hW.2 hS t2 t 0 0 ((cW_get hr2.1).trans (by rw [hr2.2.1 g lay])) ((cW_get hr.1).trans (by rw [hr.2.1 g lay])) rfl rfl rfl (by decide) (by decide) (by decide) (by decide) (by decide) (fun _ _ => rfl) h1 h2 hd (fun H1 locs1 hP hD hS1 => ?_)
  have e1 : va_cpy (σ f2 i2) (σ f i) (0 : Int32).toNatClampNeg (0 : Int32).toNatClampNeg (4 : Int32).toNatClampNeg = pcp σ f i f2 i2 4 f i := by
    funext j
    simp only [va_cpy, pcp, sb_cl0, show (4 : Int32).toNatClampNeg = 4 by decide, Nat.zero_le, Nat.zero_add, Nat.sub_zero, true_and]
  rw [e1, hr.2.2 g lay _ pcp_row] at hP hD
  exact KK _ rfl H1 locs1 ls ⟨hP, hD⟩ hS1 hl
end CPY
