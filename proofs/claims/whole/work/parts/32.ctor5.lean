abbrev fdo (h0 : Nat) (r1 r2 r3 r4 r5 : Value) (a b c : Int32) : Nat × va_E := (h0, .inr (5, [r1, r2, r3, r4, r5, .int 0, .int a, .int b, .int c, .int 0, .int 0, .int 0]))
abbrev nA (g : GG) (q : Nat) (f : Nat → Option Nat) : Nat × va_E := (q, .inl (gN g, (7, .inr (.inr (.inr (.inr f))))))
abbrev eA (g : GG) (q : Nat) (f : Nat → Option Nat) : Nat × va_E := (q, .inl (gE g, (4, .inr (.inr (.inr (.inr f))))))
abbrev fdW1 (g : GG) (h0 an : Nat) : va_W := [fdo h0 (.ref an) .null .null .null .null 0 0 0, nA g an (fun _ => none)]
abbrev fdW2 (g : GG) (h0 an ae : Nat) : va_W := [fdo h0 (.ref an) (.ref ae) .null .null .null 0 0 0, nA g an (fun _ => none), eA g ae (fun _ => none)]
abbrev fdW3 (g : GG) (h0 an ae s0 s1 s2 : Nat) : va_W := [fdo h0 (.ref an) (.ref ae) (.ref s0) .null .null 0 0 0, nA g an (fun _ => none), eA g ae (fun _ => none)] ++ dkL g s0 s1 s2
abbrev fdW4 (g : GG) (h0 an ae s0 s1 s2 rd : Nat) : va_W := [fdo h0 (.ref an) (.ref ae) (.ref s0) (.ref rd) .null 0 0 0, nA g an (fun _ => none), eA g ae (fun _ => none)] ++ dkL g s0 s1 s2 ++ [rd0 rd]
abbrev fdB (g : GG) (h0 an ae s0 s1 s2 rd inp : Nat) (fn fe : Nat → Option Nat) (a b c : Int32) : va_W := [fdo h0 (.ref an) (.ref ae) (.ref s0) (.ref rd) (.ref inp) a b c, nA g an fn, eA g ae fe] ++ dkL g s0 s1 s2 ++ [rd0 rd] ++ [kA0 g inp 60]
def flat (g : GG) (at' : Nat → Nat → Nat) (i : Nat) : va_W := (List.range i).flatMap (fun j => ndL g (at' j) (nI j))
def decL (de : Nat → Nat) (i : Nat) : va_W := (List.range i).map (fun j => dc0 (de j) (-1))
def fnA (at' : Nat → Nat → Nat) (i : Nat) : Nat → Option Nat := fun j => if j < i then some (at' j 0) else none
def feA (de : Nat → Nat) (i : Nat) : Nat → Option Nat := fun j => if j < i then some (de j) else none
theorem fnA_succ (at' : Nat → Nat → Nat) (i : Nat) (a : Nat → Nat) : va_up (fnA at' i) i (some (a 0)) = fnA (va_up at' i a) (i + 1) := by
  funext j
  simp only [va_up, fnA]
  by_cases h1 : j = i
  · subst h1; simp
  · by_cases h2 : j < i
    · simp [h1, h2, Nat.lt_succ_of_lt h2]
    · have h3 : ¬ j < i + 1 := by omega
      simp [h1, h2, h3]
theorem feA_succ (de : Nat → Nat) (i a : Nat) : va_up (feA de i) i (some a) = feA (va_up de i a) (i + 1) := by
  funext j
  simp only [va_up, feA]
  by_cases h1 : j = i
  · subst h1; simp
  · by_cases h2 : j < i
    · simp [h1, h2, Nat.lt_succ_of_lt h2]
    · have h3 : ¬ j < i + 1 := by omega
      simp [h1, h2, h3]
theorem fmc {α β : Type} {f g : α → List β} : ∀ (l : List α), (∀ j, j ∈ l → f j = g j) → l.flatMap f = l.flatMap g
  | [], _ => rfl
  | a :: r, h => by
    rw [List.flatMap_cons, List.flatMap_cons, h a List.mem_cons_self, fmc r (fun j hj => h j (List.mem_cons_of_mem _ hj))]
theorem fnA_0 (at' : Nat → Nat → Nat) : fnA at' 0 = fun _ => none := by funext j; simp [fnA]
theorem feA_0 (de : Nat → Nat) : feA de 0 = fun _ => none := by funext j; simp [feA]
theorem flat_succ (g : GG) (at' : Nat → Nat → Nat) (i : Nat) (a : Nat → Nat) : flat g at' i ++ ndL g a (nI i) = flat g (va_up at' i a) (i + 1) := by
  unfold flat
  rw [List.range_succ, List.flatMap_append]
  congr 1
  · refine fmc _ fun j hj => ?_
    have : j ≠ i := by have := List.mem_range.mp hj; omega
    rw [va_up_ne _ _ this]
  · simp [va_up_self]
theorem decL_succ (de : Nat → Nat) (i a : Nat) : decL de i ++ [dc0 a (-1)] = decL (va_up de i a) (i + 1) := by
  unfold decL
  rw [List.range_succ, List.map_append]
  congr 1
  · refine List.map_congr_left fun j hj => ?_
    have : j ≠ i := by have := List.mem_range.mp hj; omega
    rw [va_up_ne _ _ this]
  · simp [va_up_self]
theorem inb_nI {i N : Nat} (h : i < N) (hN : N < 2 ^ 31) : inb (nI i) N = true := by
  have := nI_in h hN
  simpa [inb] using this
section FDC
variable {p : Program} {l : Launch} {e : Env} {R : Room} {s : State} {m : MethodId} {args : Array Value} {below : List Frame} {meth : Method} {c : Code} {Q : State → Prop} {A : Nat → Prop} {nL : Nat} {k n pc : Nat} {lo : List (Nat × Value)} {st : List Value} {g : GG} {lay : Nat → Nat} {ws : va_W}
theorem j_kn {Wd : Heap → Prop} {k' n' : Nat} (h1 : k = k') (h2 : n = n') (K : JJ p l e R s m args below meth c Q A nL Wd k' n' pc lo st) : JJ p l e R s m args below meth c Q A nL Wd k n pc lo st := by subst h1; subst h2; exact K
theorem j_ws {ws' : va_W} (h : ws = ws') (K : JJ p l e R s m args below meth c Q A nL (LW g A lay ws') k n pc lo st) : JJ p l e R s m args below meth c Q A nL (LW g A lay ws) k n pc lo st := by subst h; exact K
end FDC
abbrev fdN (g : GG) (h0 an ae s0 s1 s2 rd inp : Nat) (at' : Nat → Nat → Nat) (i : Nat) : va_W := fdB g h0 an ae s0 s1 s2 rd inp (fnA at' i) (fun _ => none) 0 0 0 ++ flat g at' i
abbrev fdE (g : GG) (h0 an ae s0 s1 s2 rd inp : Nat) (at' : Nat → Nat → Nat) (de : Nat → Nat) (i : Nat) : va_W := fdB g h0 an ae s0 s1 s2 rd inp (fnA at' 7) (feA de i) 0 0 0 ++ (flat g at' 7 ++ decL de i)
abbrev fdZ (g : GG) (h0 an ae s0 s1 s2 rd inp : Nat) (at' : Nat → Nat → Nat) (de : Nat → Nat) : va_W := fdB g h0 an ae s0 s1 s2 rd inp (fnA at' 7) (feA de 4) 3 1 1 ++ (flat g at' 7 ++ decL de 4)
abbrev fdQ (below : List Frame) (args : Array Value) (s : State) (g : GG) (A : Nat → Prop) (h0 : Nat) : State → Prop := MQ below (va_Qv (fun w : va_W => ∃ (an ae s0 s1 s2 rd inp : Nat) (at' : Nat → Nat → Nat) (de : Nat → Nat), w = fdZ g h0 an ae s0 s1 s2 rd inp at' de) (BC (LW g A)) A) args s 95 553 A
theorem sfx_get {α : Type} (w0 : List α) (x : α) (r : List α) : (w0 ++ x :: r)[w0.length]? = some x := by
  rw [List.getElem?_append_right (Nat.le_refl _), Nat.sub_self]
  rfl
set_option maxHeartbeats 4000000 in
set_option maxRecDepth 100000 in
theorem fd_loop1 {l : Launch} {p : Program} {e : Env} {s : State} {m : MethodId} {args : Array Value} {below : List Frame} {meth : Method} {c : Code} {g : GG} {A : Nat → Prop} (C : KX p m c cX5_init 2 s args RX5) (K : KC l g A s) {lay : Nat → Nat} {h0 an ae s0 s1 s2 rd inp : Nat} (KX1 : ∀ at' : Nat → Nat → Nat, JJ p l e (rmk 3 75 95 553) s m args below meth c (fdQ below args s g A h0) A 2 (LW g A lay (fdN g h0 an ae s0 s1 s2 rd inp at' 7)) (7 + 12 * 7) (89 + 64 * 7) 79 [(0, .ref h0), (1, .int (nI 7))] []) :
    ∀ (d i : Nat) (at' : Nat → Nat → Nat), i + d = 7 → JJ p l e (rmk 3 75 95 553) s m args below meth c (fdQ below args s g A h0) A 2 (LW g A lay (fdN g h0 an ae s0 s1 s2 rd inp at' i)) (7 + 12 * i) (89 + 64 * i) 53 [(0, .ref h0), (1, .int (nI i))] [] := by
  intro d
  induction d with
  | zero =>
    intro i at' hi
    have e1 : i = 7 := by omega
    subst e1
    refine j_iload_n 54 C dX5_init_53 1 rfl rfl ?_
    refine j_bipush 56 C dX5_init_54 bp_7 rfl ?_
    refine j_icmp_ge 59 79 C dX5_init_56 (by decide) rfl (fun hc => ?_) (fun hc => ?_)
    · exact KX1 at'
    · exact absurd (show (7 : Int32) ≤ nI 7 by decide) hc
  | succ d ih =>
    intro i at' hi
    refine j_iload_n 54 C dX5_init_53 1 rfl rfl ?_
    refine j_bipush 56 C dX5_init_54 bp_7 rfl ?_
    refine j_icmp_ge 59 79 C dX5_init_56 (by decide) rfl (fun hc => ?_) (fun hc => ?_)
    · exact absurd hc (nI_ge (a := i) (b := 7) (by omega) (by decide))
    · refine j_aload_n 60 C dX5_init_59 0 rfl rfl ?_
      refine l_get 63 C K 0 5 rfl rfl inA_X5 0 (by decide) mw_280 rfl dX5_init_60 rfl ?_
      refine j_iload_n 64 C dX5_init_63 1 rfl rfl ?_
      refine l_new 67 C K 3 rfl inA_X3 tyX3 tyX3_ok mw_125 mw_187 mw_102 [.int 0, .null, .null, .null, .null, .int 0, .int 0, .int 0, .int 0, .int 0] (fun j hj => by match j, hj with | 0, _ => rfl | 1, _ => rfl | 2, _ => rfl | 3, _ => rfl | 4, _ => rfl | 5, _ => rfl | 6, _ => rfl | 7, _ => rfl | 8, _ => rfl | 9, _ => rfl) dX5_init_64 ⟨by simp only [rmk]; omega, by simp only [rmk]; omega⟩ rfl (fun q => ?_)
      refine j_dup 68 C dX5_init_67 rfl rfl ?_
      refine j_iload_n 69 C dX5_init_68 1 rfl rfl ?_
      refine l_callI 72 C K (w0 := fdN g h0 an ae s0 s1 s2 rd inp at' i) (wc := [nd0 q]) (fun A1 => ci_X3 K.2.2.2 g A1 lay q (nI i)) cpi_X3_init mw_188 dX5_init_69 rfl rfl (by exact Nat.le_of_ble_eq_true rfl) ⟨by exact Nat.le_of_ble_eq_true rfl, by exact Nat.le_of_ble_eq_true rfl⟩ ⟨by simp only [rmk]; omega, by simp only [rmk]; omega⟩ rfl (fun w1 hp1 => ?_)
      obtain ⟨a, ha, rfl⟩ := hp1
      subst ha
      refine l_astN 73 C K 1 (fdN g h0 an ae s0 s1 s2 rd inp at' i).length 3 rfl (sfx_get _ _ _) rfl (inb_nI (by omega) (by decide)) dX5_init_72 rfl (ws' := (fdB g h0 an ae s0 s1 s2 rd inp (va_up (fnA at' i) (tn (nI i)) (some (a 0))) (fun _ => none) 0 0 0 ++ flat g at' i) ++ ndL g a (nI i)) rfl ?_
      refine j_iinc 76 C dX5_init_73 1 rfl (v := nI (i + 1)) ((ii_1 _).trans (nI_1 i)) (lo' := [(1, .int (nI (i + 1))), (0, .ref h0)]) (by decide) rfl rfl ?_
      refine j_goto 53 C dX5_init_76 (by decide) ?_
      refine j_sub [1, 0] (lo' := [(0, .ref h0), (1, .int (nI (i + 1)))]) rfl ?_
      refine j_kn (k' := 7 + 12 * (i + 1)) (n' := 89 + 64 * (i + 1)) (by omega) (by omega) ?_
      refine j_ws (ws' := fdN g h0 an ae s0 s1 s2 rd inp (va_up at' i a) (i + 1)) ?_ (ih (i + 1) (va_up at' i a) (by omega))
      rw [List.append_assoc, flat_succ, show tn (nI i) = i from nI_clamp (by omega), fnA_succ]
set_option maxHeartbeats 4000000 in
set_option maxRecDepth 100000 in
theorem fd_loop2 {l : Launch} {p : Program} {e : Env} {s : State} {m : MethodId} {args : Array Value} {below : List Frame} {meth : Method} {c : Code} {g : GG} {A : Nat → Prop} (C : KX p m c cX5_init 2 s args RX5) (K : KC l g A s) {lay : Nat → Nat} {h0 an ae s0 s1 s2 rd inp : Nat} {at' : Nat → Nat → Nat} (KX1 : ∀ de : Nat → Nat, JJ p l e (rmk 3 75 95 553) s m args below meth c (fdQ below args s g A h0) A 2 (LW g A lay (fdE g h0 an ae s0 s1 s2 rd inp at' de 4)) (91 + 1 * 4) (537 + 4 * 4) 105 [(0, .ref h0), (1, .int (nI 4))] []) :
    ∀ (d i : Nat) (de : Nat → Nat), i + d = 4 → JJ p l e (rmk 3 75 95 553) s m args below meth c (fdQ below args s g A h0) A 2 (LW g A lay (fdE g h0 an ae s0 s1 s2 rd inp at' de i)) (91 + 1 * i) (537 + 4 * i) 81 [(0, .ref h0), (1, .int (nI i))] [] := by
  intro d
  induction d with
  | zero =>
    intro i de hi
    have e1 : i = 4 := by omega
    subst e1
    refine j_iload_n 82 C dX5_init_81 1 rfl rfl ?_
    refine j_iconst 83 C dX5_init_82 ic_4 rfl ?_
    refine j_icmp_ge 86 105 C dX5_init_83 (by decide) rfl (fun hc => ?_) (fun hc => ?_)
    · exact KX1 de
    · exact absurd (show (4 : Int32) ≤ nI 4 by decide) hc
  | succ d ih =>
    intro i de hi
    refine j_iload_n 82 C dX5_init_81 1 rfl rfl ?_
    refine j_iconst 83 C dX5_init_82 ic_4 rfl ?_
    refine j_icmp_ge 86 105 C dX5_init_83 (by decide) rfl (fun hc => ?_) (fun hc => ?_)
    · exact absurd hc (nI_ge (a := i) (b := 4) (by omega) (by decide))
    · refine j_aload_n 87 C dX5_init_86 0 rfl rfl ?_
      refine l_get 90 C K 0 5 rfl rfl inA_X5 1 (by decide) mw_281 rfl dX5_init_87 rfl ?_
      refine j_iload_n 91 C dX5_init_90 1 rfl rfl ?_
      refine l_new 94 C K 0 rfl inA_X0 tyX0 tyX0_ok mw_127 mw_258 mw_104 [.int 0, .int 0, .int 0, .int 0] (fun j hj => by match j, hj with | 0, _ => rfl | 1, _ => rfl | 2, _ => rfl | 3, _ => rfl) dX5_init_91 ⟨by simp only [rmk]; omega, by simp only [rmk]; omega⟩ rfl (fun q => ?_)
      refine j_dup 95 C dX5_init_94 rfl rfl ?_
      refine l_callIN 98 C K (w0 := fdE g h0 an ae s0 s1 s2 rd inp at' de i) (wc := [dc0 q 0]) (fun A1 => ci_X0 K.2.2.2 g A1 lay q) cpi_X0_init (nest_259 K) dX5_init_95 rfl rfl (by exact Nat.le_of_ble_eq_true rfl) ⟨by exact Nat.le_of_ble_eq_true rfl, by exact Nat.le_of_ble_eq_true rfl⟩ ⟨by simp only [rmk]; omega, by simp only [rmk]; omega⟩ rfl (fun w1 hp1 => ?_)
      subst hp1
      refine l_astE 99 C K 2 (fdE g h0 an ae s0 s1 s2 rd inp at' de i).length 0 rfl (sfx_get _ _ _) rfl (inb_nI (by omega) (by decide)) dX5_init_98 rfl (ws' := (fdB g h0 an ae s0 s1 s2 rd inp (fnA at' 7) (va_up (feA de i) (tn (nI i)) (some q)) 0 0 0 ++ (flat g at' 7 ++ decL de i)) ++ [dc0 q (-1)]) rfl ?_
      refine j_iinc 102 C dX5_init_99 1 rfl (v := nI (i + 1)) ((ii_1 _).trans (nI_1 i)) (lo' := [(1, .int (nI (i + 1))), (0, .ref h0)]) (by decide) rfl rfl ?_
      refine j_goto 81 C dX5_init_102 (by decide) ?_
      refine j_sub [1, 0] (lo' := [(0, .ref h0), (1, .int (nI (i + 1)))]) rfl ?_
      refine j_kn (k' := 91 + 1 * (i + 1)) (n' := 537 + 4 * (i + 1)) (by omega) (by omega) ?_
      refine j_ws (ws' := fdE g h0 an ae s0 s1 s2 rd inp at' (va_up de i q) (i + 1)) ?_ (ih (i + 1) (va_up de i q) (by omega))
      unfold fdE
      rw [show tn (nI i) = i from nI_clamp (by omega), feA_succ, ← decL_succ]
      simp only [List.append_assoc]
set_option maxHeartbeats 4000000 in
set_option maxRecDepth 100000 in
theorem ci_X5 {l : Launch} (hst : l.stackTraces = false) (g : GG) (A : Nat → Prop) (lay : Nat → Nat) (h0 : Nat) : MVp l yX5_init cX5_init 2 3 75 95 553 [.ref h0] (LW g A) g A lay [fdo h0 .null .null .null .null .null 0 0 0] (fun w => ∃ (an ae s0 s1 s2 rd inp : Nat) (at' : Nat → Nat → Nat) (de : Nat → Nat), w = fdZ g h0 an ae s0 s1 s2 rd inp at' de) := by
  refine e_vp (own := RX5) (lo := [(0, .ref h0)]) hst (plainFor_of_name (by decide)) rfl rfl (by exact Nat.le_of_ble_eq_true rfl) ?_
  intro p e s m args below meth c C K M hnm
  refine j_aload_n 1 C dX5_init_0 0 rfl rfl ?_
  refine l_obj 4 C mw_122 dX5_init_1 (by exact Nat.le_of_ble_eq_true rfl) (by exact Nat.le_of_ble_eq_true rfl) rfl ?_
  refine j_aload_n 5 C dX5_init_4 0 rfl rfl ?_
  refine j_bipush 7 C dX5_init_5 bp_7 rfl ?_
  refine l_newqN 10 C K K.2.2.1.2.2.2.2.2.1 mw_125 7 (by decide) (by decide) (by decide) dX5_init_7 ⟨by exact Nat.le_of_ble_eq_true rfl, by exact Nat.le_of_ble_eq_true rfl⟩ rfl (fun an => ?_)
  refine l_putF 13 C K 0 5 rfl rfl inA_X5 tyX5 tyX5_ok nmX5 0 (by decide) mw_280 rfl hnm rfl rfl rfl (by exact Nat.le_of_ble_eq_true rfl) dX5_init_10 rfl (ws' := fdW1 g h0 an) rfl ?_
  refine j_aload_n 14 C dX5_init_13 0 rfl rfl ?_
  refine j_iconst 15 C dX5_init_14 ic_4 rfl ?_
  refine l_newqE 18 C K K.2.2.1.2.2.2.2.2.2.1 mw_127 4 (by decide) (by decide) (by decide) dX5_init_15 ⟨by exact Nat.le_of_ble_eq_true rfl, by exact Nat.le_of_ble_eq_true rfl⟩ rfl (fun ae => ?_)
  refine l_putF 21 C K 0 5 rfl rfl inA_X5 tyX5 tyX5_ok nmX5 1 (by decide) mw_281 rfl hnm rfl rfl rfl (by exact Nat.le_of_ble_eq_true rfl) dX5_init_18 rfl (ws' := fdW2 g h0 an ae) rfl ?_
  refine j_aload_n 22 C dX5_init_21 0 rfl rfl ?_
  refine l_new 25 C K 1 rfl inA_X1 tyX1 tyX1_ok mw_129 mw_130 mw_99 [.int 0, .null, .null] (fun j hj => by match j, hj with | 0, _ => rfl | 1, _ => rfl | 2, _ => rfl) dX5_init_22 ⟨by exact Nat.le_of_ble_eq_true rfl, by exact Nat.le_of_ble_eq_true rfl⟩ rfl (fun s0 => ?_)
  refine j_dup 26 C dX5_init_25 rfl rfl ?_
  refine l_callI 29 C K (w0 := fdW2 g h0 an ae) (wc := [(s0, .inr (1, [.int 0, .null, .null]))]) (fun A1 => ci_X1 K.2.2.2 g A1 lay s0) cpi_X1_init mw_131 dX5_init_26 rfl rfl (by exact Nat.le_of_ble_eq_true rfl) ⟨by exact Nat.le_of_ble_eq_true rfl, by exact Nat.le_of_ble_eq_true rfl⟩ ⟨by exact Nat.le_of_ble_eq_true rfl, by exact Nat.le_of_ble_eq_true rfl⟩ rfl (fun w1 hp1 => ?_)
  obtain ⟨s1, s2, rfl⟩ := hp1
  refine l_putF 32 C K 0 5 rfl rfl inA_X5 tyX5 tyX5_ok nmX5 2 (by decide) mw_282 rfl hnm rfl rfl rfl (by exact Nat.le_of_ble_eq_true rfl) dX5_init_29 rfl (ws' := fdW3 g h0 an ae s0 s1 s2) rfl ?_
  refine j_aload_n 33 C dX5_init_32 0 rfl rfl ?_
  refine l_new 36 C K 2 rfl inA_X2 tyX2 tyX2_ok mw_153 mw_154 mw_101 [.int 0, .int 0, .int 0, .int 0, .int 0, .int 0, .int 0] (fun j hj => by match j, hj with | 0, _ => rfl | 1, _ => rfl | 2, _ => rfl | 3, _ => rfl | 4, _ => rfl | 5, _ => rfl | 6, _ => rfl) dX5_init_33 ⟨by exact Nat.le_of_ble_eq_true rfl, by exact Nat.le_of_ble_eq_true rfl⟩ rfl (fun rd => ?_)
  refine j_dup 37 C dX5_init_36 rfl rfl ?_
  refine l_callIN 40 C K (w0 := fdW3 g h0 an ae s0 s1 s2) (wc := [rd0 rd]) (fun A1 => ci_X2 K.2.2.2 g A1 lay rd) cpi_X2_init (nest_155 K) dX5_init_37 rfl rfl (by exact Nat.le_of_ble_eq_true rfl) ⟨by exact Nat.le_of_ble_eq_true rfl, by exact Nat.le_of_ble_eq_true rfl⟩ ⟨by exact Nat.le_of_ble_eq_true rfl, by exact Nat.le_of_ble_eq_true rfl⟩ rfl (fun w2 hp2 => ?_)
  subst hp2
  refine l_putF 43 C K 0 5 rfl rfl inA_X5 tyX5 tyX5_ok nmX5 3 (by decide) mw_283 rfl hnm rfl rfl rfl (by exact Nat.le_of_ble_eq_true rfl) dX5_init_40 rfl (ws' := fdW4 g h0 an ae s0 s1 s2 rd) rfl ?_
  refine j_aload_n 44 C dX5_init_43 0 rfl rfl ?_
  refine j_bipush 46 C dX5_init_44 bp_60 rfl ?_
  refine l_newi 48 C K 60 (by decide) (by decide) (by decide) dX5_init_46 ⟨by exact Nat.le_of_ble_eq_true rfl, by exact Nat.le_of_ble_eq_true rfl⟩ rfl (fun inp => ?_)
  refine l_putF 51 C K 0 5 rfl rfl inA_X5 tyX5 tyX5_ok nmX5 4 (by decide) mw_284 rfl hnm rfl rfl rfl (by exact Nat.le_of_ble_eq_true rfl) dX5_init_48 rfl (ws' := fdB g h0 an ae s0 s1 s2 rd inp (fun _ => none) (fun _ => none) 0 0 0) rfl ?_
  refine j_iconst 52 C dX5_init_51 ic_0 rfl ?_
  refine j_istore_n 53 C dX5_init_52 (lo' := [(1, .int (0 : Int32)), (0, .ref h0)]) (by decide) rfl rfl ?_
  refine j_sub [1, 0] (lo' := [(0, .ref h0), (1, .int (nI 0))]) rfl ?_
  refine j_ws (ws' := fdN g h0 an ae s0 s1 s2 rd inp (fun _ _ => 0) 0) (by unfold fdN; rw [fnA_0, show flat g (fun _ _ => 0) 0 = [] from rfl, List.append_nil]) ?_
  refine fd_loop1 C K (fun at' => ?_) 7 0 (fun _ _ => 0) rfl
  refine j_iconst 80 C dX5_init_79 ic_0 rfl ?_
  refine j_istore_n 81 C dX5_init_80 (lo' := [(1, .int (0 : Int32)), (0, .ref h0)]) (by decide) rfl rfl ?_
  refine j_sub [1, 0] (lo' := [(0, .ref h0), (1, .int (nI 0))]) rfl ?_
  refine j_ws (ws' := fdE g h0 an ae s0 s1 s2 rd inp at' (fun _ => 0) 0) (by unfold fdN fdE; rw [feA_0, show decL (fun _ => 0) 0 = [] from rfl, List.append_nil]) ?_
  refine fd_loop2 C K (fun de => ?_) 4 0 (fun _ => 0) rfl
  refine j_aload_n 106 C dX5_init_105 0 rfl rfl ?_
  refine j_iconst 107 C dX5_init_106 ic_3 rfl ?_
  refine l_put 110 C K 0 5 rfl rfl inA_X5 tyX5 tyX5_ok nmX5 6 (by decide) mw_286 rfl rfl rfl (by exact Nat.le_of_ble_eq_true rfl) dX5_init_107 rfl (ws' := fdB g h0 an ae s0 s1 s2 rd inp (fnA at' 7) (feA de 4) 3 0 0 ++ (flat g at' 7 ++ decL de 4)) rfl ?_
  refine j_aload_n 111 C dX5_init_110 0 rfl rfl ?_
  refine j_iconst 112 C dX5_init_111 ic_1 rfl ?_
  refine l_put 115 C K 0 5 rfl rfl inA_X5 tyX5 tyX5_ok nmX5 7 (by decide) mw_287 rfl rfl rfl (by exact Nat.le_of_ble_eq_true rfl) dX5_init_112 rfl (ws' := fdB g h0 an ae s0 s1 s2 rd inp (fnA at' 7) (feA de 4) 3 1 0 ++ (flat g at' 7 ++ decL de 4)) rfl ?_
  refine j_aload_n 116 C dX5_init_115 0 rfl rfl ?_
  refine j_iconst 117 C dX5_init_116 ic_1 rfl ?_
  refine l_put 120 C K 0 5 rfl rfl inA_X5 tyX5 tyX5_ok nmX5 8 (by decide) mw_288 rfl rfl rfl (by exact Nat.le_of_ble_eq_true rfl) dX5_init_117 rfl (ws' := fdZ g h0 an ae s0 s1 s2 rd inp at' de) rfl ?_
  exact x_vp C M ⟨an, ae, s0, s1, s2, rd, inp, at', de, rfl⟩ dX5_init_120
