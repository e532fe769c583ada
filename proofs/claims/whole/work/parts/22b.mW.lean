theorem cp_X6_doAccept : CPv yX6_doAccept cX6_doAccept 9 (some .int) RX6 4 := ⟨mw_1147, mw_58, mw_105, mw_1148, rfl, by decide, by decide, by decide +kernel⟩
set_option maxHeartbeats 4000000 in
set_option maxRecDepth 100000 in
theorem wn_X6_doAccept_181 {l : Launch} {p : Program} {e : Env} {s : State} {m : MethodId} {args : Array Value} {below : List Frame} {meth : Method} {c : Code} {g : GG} {A : Nat → Prop} (C : KX p m c cX6_doAccept 9 s args RX6) (K : KC l g A s) (M : KM meth (some .int)) {σ' : RS} {r : Int32} {x1 : Int32} {x2 : Int32} {x3 : Int32} {x4 : Int32}     (lay : Nat → Nat) (σ : RS) (v7 : Int32)  (h : B_X6_doAccept_181 x1 x2 x3 x4 σ v7 = some (σ', r)) : JJ p l e (rmk 2 46 0 0) s m args below meth c (MQ below (va_Qi (fun (r0 : Int32) (u : RS) => r0 = r ∧ u = σ') (BC (RH g A)) A) args s 0 0 A) A 9 (RH g A lay σ) 0 0 181 [(7, .int v7)] [] := by
  unfold B_X6_doAccept_181 at h
  refine j_iload 183 C dX6_doAccept_181 0 rfl rfl ?_
  cases h
  exact x_i C M dX6_doAccept_183
set_option maxHeartbeats 4000000 in
set_option maxRecDepth 100000 in
theorem wn_X6_doAccept_157 {l : Launch} {p : Program} {e : Env} {s : State} {m : MethodId} {args : Array Value} {below : List Frame} {meth : Method} {c : Code} {g : GG} {A : Nat → Prop} (C : KX p m c cX6_doAccept 9 s args RX6) (K : KC l g A s) (M : KM meth (some .int)) {σ' : RS} {r : Int32} {x1 : Int32} {x2 : Int32} {x3 : Int32} {x4 : Int32}   {self56 : RS → Int32 → Int32 → Int32 → Int32 → Option (RS × Int32)} (ih56 : ∀ (lay : Nat → Nat) (σ : RS) (v5 : Int32) (v6 : Int32) (v7 : Int32) (v8 : Int32), self56 σ v5 v6 v7 v8 = some (σ', r) → JJ p l e (rmk 2 46 0 0) s m args below meth c (MQ below (va_Qi (fun (r0 : Int32) (u : RS) => r0 = r ∧ u = σ') (BC (RH g A)) A) args s 0 0 A) A 9 (RH g A lay σ) 0 0 56 [(0, .ref (gm g 0)), (1, .int x1), (2, .int x2), (4, .int x4), (5, .int v5), (6, .int v6), (7, .int v7), (8, .int v8)] []) (lay : Nat → Nat) (σ : RS) (v5 : Int32) (v6 : Int32) (v7 : Int32) (v8 : Int32)  (h : B_X6_doAccept_157 x1 x2 x3 x4 self56 σ v5 v6 v7 v8 = some (σ', r)) : JJ p l e (rmk 2 46 0 0) s m args below meth c (MQ below (va_Qi (fun (r0 : Int32) (u : RS) => r0 = r ∧ u = σ') (BC (RH g A)) A) args s 0 0 A) A 9 (RH g A lay σ) 0 0 157 [(0, .ref (gm g 0)), (1, .int x1), (2, .int x2), (4, .int x4), (5, .int v5), (6, .int v6), (7, .int v7), (8, .int v8)] [] := by
  unfold B_X6_doAccept_157 at h
  obtain ⟨x135, ex135⟩ : ∃ z : Int32, z = v8 + 1 := ⟨_, rfl⟩
  replace h := lt_e h x135 ex135
  refine j_iinc 160 C dX6_doAccept_157 7 rfl (v := x135) ((ii_1 _).trans ex135.symm) (lo' := [(8, .int x135), (0, .ref (gm g 0)), (1, .int x1), (2, .int x2), (4, .int x4), (5, .int v5), (6, .int v6), (7, .int v7)]) (by decide) rfl rfl ?_
  refine j_goto 56 C dX6_doAccept_160 (by decide) ?_
  refine j_sub [1, 2, 3, 4, 5, 6, 7, 0] (lo' := [(0, .ref (gm g 0)), (1, .int x1), (2, .int x2), (4, .int x4), (5, .int v5), (6, .int v6), (7, .int v7), (8, .int x135)]) rfl ?_
  exact ih56 lay σ v5 v6 v7 x135 h
set_option maxHeartbeats 4000000 in
set_option maxRecDepth 100000 in
theorem wn_X6_doAccept_144 {l : Launch} {p : Program} {e : Env} {s : State} {m : MethodId} {args : Array Value} {below : List Frame} {meth : Method} {c : Code} {g : GG} {A : Nat → Prop} (C : KX p m c cX6_doAccept 9 s args RX6) (K : KC l g A s) (M : KM meth (some .int)) {σ' : RS} {r : Int32} {x1 : Int32} {x2 : Int32} {x3 : Int32} {x4 : Int32}   {self56 : RS → Int32 → Int32 → Int32 → Int32 → Option (RS × Int32)} (ih56 : ∀ (lay : Nat → Nat) (σ : RS) (v5 : Int32) (v6 : Int32) (v7 : Int32) (v8 : Int32), self56 σ v5 v6 v7 v8 = some (σ', r) → JJ p l e (rmk 2 46 0 0) s m args below meth c (MQ below (va_Qi (fun (r0 : Int32) (u : RS) => r0 = r ∧ u = σ') (BC (RH g A)) A) args s 0 0 A) A 9 (RH g A lay σ) 0 0 56 [(0, .ref (gm g 0)), (1, .int x1), (2, .int x2), (4, .int x4), (5, .int v5), (6, .int v6), (7, .int v7), (8, .int v8)] []) (lay : Nat → Nat) (σ : RS) (v5 : Int32) (v6 : Int32) (v7 : Int32) (v8 : Int32)  (h : B_X6_doAccept_144 x1 x2 x3 x4 self56 σ v5 v6 v7 v8 = some (σ', r)) : JJ p l e (rmk 2 46 0 0) s m args below meth c (MQ below (va_Qi (fun (r0 : Int32) (u : RS) => r0 = r ∧ u = σ') (BC (RH g A)) A) args s 0 0 A) A 9 (RH g A lay σ) 0 0 144 [(0, .ref (gm g 0)), (1, .int x1), (2, .int x2), (4, .int x4), (5, .int v5), (6, .int v6), (7, .int v7), (8, .int v8)] [] := by
  unfold B_X6_doAccept_144 at h
  refine j_aload_n 145 C dX6_doAccept_144 0 rfl rfl ?_
  refine g_M 148 C K 3 (by decide) mw_966 rfl dX6_doAccept_145 rfl ?_
  refine j_if_eq 151 157 C dX6_doAccept_148 (by decide) rfl (fun hc136 => ?_) (fun hc136 => ?_)
  · replace h := it_t hc136 h
    exact wn_X6_doAccept_157 C K M ih56 lay σ v5 v6 v7 v8 h
  · replace h := it_f hc136 h
    refine j_aload_n 152 C dX6_doAccept_151 0 rfl rfl ?_
    refine j_iload 154 C dX6_doAccept_152 7 rfl rfl ?_
    obtain ⟨σ137, u138, hF, h⟩ := bd_e h
    refine k_Vv 157 C K (c_X6_flush K.2.2.2 g A lay  hF) cp_X6_flush (rv_M) mw_1125 dX6_doAccept_154 rfl rfl (Nat.le_of_ble_eq_true rfl) ⟨Nat.le_of_ble_eq_true rfl, Nat.le_of_ble_eq_true rfl⟩ ⟨Nat.le_of_ble_eq_true rfl, Nat.le_of_ble_eq_true rfl⟩ rfl (fun lay => ?_)
    exact wn_X6_doAccept_157 C K M ih56 lay σ137 v5 v6 v7 v8 h
set_option maxHeartbeats 4000000 in
set_option maxRecDepth 100000 in
theorem wn_X6_doAccept_56 {l : Launch} {p : Program} {e : Env} {s : State} {m : MethodId} {args : Array Value} {below : List Frame} {meth : Method} {c : Code} {g : GG} {A : Nat → Prop} (C : KX p m c cX6_doAccept 9 s args RX6) (K : KC l g A s) (M : KM meth (some .int)) {σ' : RS} {r : Int32} {x1 : Int32} {x2 : Int32} {x3 : Int32} {x4 : Int32}     : ∀ (fu : Nat) (lay : Nat → Nat) (σ : RS) (v5 : Int32) (v6 : Int32) (v7 : Int32) (v8 : Int32), B_X6_doAccept_56 x1 x2 x3 x4 fu σ v5 v6 v7 v8 = some (σ', r) → JJ p l e (rmk 2 46 0 0) s m args below meth c (MQ below (va_Qi (fun (r0 : Int32) (u : RS) => r0 = r ∧ u = σ') (BC (RH g A)) A) args s 0 0 A) A 9 (RH g A lay σ) 0 0 56 [(0, .ref (gm g 0)), (1, .int x1), (2, .int x2), (4, .int x4), (5, .int v5), (6, .int v6), (7, .int v7), (8, .int v8)] [] := by
  intro fu
  induction fu with
  | zero =>
    intro lay σ v5 v6 v7 v8 h
    exact nomatch (show (none : Option _) = some _ from h)
  | succ fu ih56 =>
    intro lay σ v5 v6 v7 v8 h
    unfold B_X6_doAccept_56 at h
    rw [lo5_s] at h
    refine j_iload 58 C dX6_doAccept_56 7 rfl rfl ?_
    refine j_aload_n 59 C dX6_doAccept_58 0 rfl rfl ?_
    refine g_M 62 C K 1 (by decide) mw_964 rfl dX6_doAccept_59 rfl ?_
    refine j_icmp_ge 65 163 C dX6_doAccept_62 (by decide) rfl (fun hc114 => ?_) (fun hc114 => ?_)
    · replace h := it_t hc114 h
      refine j_iload 165 C dX6_doAccept_163 6 rfl rfl ?_
      refine j_aload_n 166 C dX6_doAccept_165 0 rfl rfl ?_
      obtain ⟨σ115, r116, hF, h⟩ := bd_e h
      refine k_Vi 169 C K (c_X6_q K.2.2.2 g A lay  hF) cp_X6_q (rv_M) mw_1129 dX6_doAccept_166 rfl rfl (Nat.le_of_ble_eq_true rfl) ⟨Nat.le_of_ble_eq_true rfl, Nat.le_of_ble_eq_true rfl⟩ ⟨Nat.le_of_ble_eq_true rfl, Nat.le_of_ble_eq_true rfl⟩ rfl (fun lay => ?_)
      refine j_icmp_lt 172 181 C dX6_doAccept_169 (by decide) rfl (fun hc117 => ?_) (fun hc117 => ?_)
      · replace h := it_t hc117 h
        refine j_sub [6] (lo' := [(7, .int v7)]) rfl ?_
        exact wn_X6_doAccept_181 C K M  lay σ115 v7 h
      · replace h := it_f hc117 h
        refine j_aload_n 173 C dX6_doAccept_172 0 rfl rfl ?_
        refine j_iload_n 174 C dX6_doAccept_173 2 rfl rfl ?_
        refine j_iload 176 C dX6_doAccept_174 4 rfl rfl ?_
        refine j_iload 178 C dX6_doAccept_176 5 rfl rfl ?_
        obtain ⟨σ118, u119, hF, h⟩ := bd_e h
        refine k_Vv 181 C K (c_X6_decide K.2.2.2 g A lay  hF) cp_X6_decide (rv_M) mw_1149 dX6_doAccept_178 rfl rfl (Nat.le_of_ble_eq_true rfl) ⟨Nat.le_of_ble_eq_true rfl, Nat.le_of_ble_eq_true rfl⟩ ⟨Nat.le_of_ble_eq_true rfl, Nat.le_of_ble_eq_true rfl⟩ rfl (fun lay => ?_)
        refine j_sub [6] (lo' := [(7, .int v7)]) rfl ?_
        exact wn_X6_doAccept_181 C K M  lay σ118 v7 h
    · replace h := it_f hc114 h
      refine j_aload_n 66 C dX6_doAccept_65 0 rfl rfl ?_
      refine j_iload 68 C dX6_doAccept_66 7 rfl rfl ?_
      refine j_iload 70 C dX6_doAccept_68 3 rfl rfl ?_
      obtain ⟨σ120, r121, hF, h⟩ := bd_e h
      refine k_Vi 73 C K (c_X6_gets K.2.2.2 g A lay  hF) cp_X6_gets (rv_M) mw_1113 dX6_doAccept_70 rfl rfl (Nat.le_of_ble_eq_true rfl) ⟨Nat.le_of_ble_eq_true rfl, Nat.le_of_ble_eq_true rfl⟩ ⟨Nat.le_of_ble_eq_true rfl, Nat.le_of_ble_eq_true rfl⟩ rfl (fun lay => ?_)
      refine j_if_eq 76 157 C dX6_doAccept_73 (by decide) rfl (fun hc122 => ?_) (fun hc122 => ?_)
      · replace h := it_t hc122 h
        exact wn_X6_doAccept_157 C K M ih56 lay σ120 v5 v6 v7 v8 h
      · replace h := it_f hc122 h
        refine j_aload_n 77 C dX6_doAccept_76 0 rfl rfl ?_
        refine j_dup 78 C dX6_doAccept_77 rfl rfl ?_
        refine g_M 81 C K 24 (by decide) mw_987 rfl dX6_doAccept_78 rfl ?_
        refine j_iconst 82 C dX6_doAccept_81 ic_1 rfl ?_
        refine j_iadd 83 C dX6_doAccept_82 rfl ?_
        refine p_M 86 C K 24 (by decide) rs_24 rfl mw_987 rfl rfl dX6_doAccept_83 rfl (fun σ123 eσ123 => ?_)
        replace h := lt_e h σ123 eσ123
        refine j_iload 88 C dX6_doAccept_86 4 rfl rfl ?_
        refine j_aload_n 89 C dX6_doAccept_88 0 rfl rfl ?_
        refine g_M 92 C K 11 (by decide) mw_974 rfl dX6_doAccept_89 rfl ?_
        refine j_iload 94 C dX6_doAccept_92 7 rfl rfl ?_
        obtain ⟨hz124, h⟩ := gd_e h
        refine m_ild 95 C K ra_11 hz124 dX6_doAccept_94 rfl ?_
        refine j_icmp_lt 98 125 C dX6_doAccept_95 (by decide) rfl (fun hc125 => ?_) (fun hc125 => ?_)
        · replace h := it_t hc125 h
          refine j_aload_n 126 C dX6_doAccept_125 0 rfl rfl ?_
          refine j_iload_n 127 C dX6_doAccept_126 1 rfl rfl ?_
          refine j_aload_n 128 C dX6_doAccept_127 0 rfl rfl ?_
          refine g_M 131 C K 11 (by decide) mw_974 rfl dX6_doAccept_128 rfl ?_
          refine j_iload 133 C dX6_doAccept_131 7 rfl rfl ?_
          obtain ⟨hz126, h⟩ := gd_e h
          refine m_ild 134 C K ra_11 hz126 dX6_doAccept_133 rfl ?_
          obtain ⟨σ127, u128, hF, h⟩ := bd_e h
          refine k_Vv 137 C K (c_X6_tell K.2.2.2 g A lay  hF) cp_X6_tell (rv_M) mw_1109 dX6_doAccept_134 rfl rfl (Nat.le_of_ble_eq_true rfl) ⟨Nat.le_of_ble_eq_true rfl, Nat.le_of_ble_eq_true rfl⟩ ⟨Nat.le_of_ble_eq_true rfl, Nat.le_of_ble_eq_true rfl⟩ rfl (fun lay => ?_)
          refine j_aload_n 138 C dX6_doAccept_137 0 rfl rfl ?_
          refine g_M 141 C K 18 (by decide) mw_981 rfl dX6_doAccept_138 rfl ?_
          refine j_iload_n 142 C dX6_doAccept_141 1 rfl rfl ?_
          refine j_iconst 143 C dX6_doAccept_142 ic_m1 rfl ?_
          obtain ⟨hz129, h⟩ := gd_e h
          refine m_ist 144 C K ra_18 hz129 dX6_doAccept_143 rfl (fun σ130 eσ130 => ?_)
          replace h := lt_e h σ130 eσ130
          exact wn_X6_doAccept_144 C K M ih56 lay σ130 v5 v6 v7 v8 h
        · replace h := it_f hc125 h
          refine j_aload_n 99 C dX6_doAccept_98 0 rfl rfl ?_
          refine j_iload 101 C dX6_doAccept_99 7 rfl rfl ?_
          refine j_iload_n 102 C dX6_doAccept_101 2 rfl rfl ?_
          refine j_iload 104 C dX6_doAccept_102 4 rfl rfl ?_
          refine j_iload 106 C dX6_doAccept_104 5 rfl rfl ?_
          obtain ⟨σ131, u132, hF, h⟩ := bd_e h
          refine k_Vv 109 C K (c_X6_write K.2.2.2 g A lay  hF) cp_X6_write (rv_M) mw_1117 dX6_doAccept_106 rfl rfl (Nat.le_of_ble_eq_true rfl) ⟨Nat.le_of_ble_eq_true rfl, Nat.le_of_ble_eq_true rfl⟩ ⟨Nat.le_of_ble_eq_true rfl, Nat.le_of_ble_eq_true rfl⟩ rfl (fun lay => ?_)
          obtain ⟨x133, ex133⟩ : ∃ z : Int32, z = v7 + 1 := ⟨_, rfl⟩
          replace h := lt_e h x133 ex133
          refine j_iinc 112 C dX6_doAccept_109 6 rfl (v := x133) ((ii_1 _).trans ex133.symm) (lo' := [(7, .int x133), (0, .ref (gm g 0)), (1, .int x1), (2, .int x2), (4, .int x4), (5, .int v5), (6, .int v6), (8, .int v8)]) (by decide) rfl rfl ?_
          refine j_aload_n 113 C dX6_doAccept_112 1 rfl rfl ?_
          refine j_dup 114 C dX6_doAccept_113 rfl rfl ?_
          refine g_M 117 C K 25 (by decide) mw_988 rfl dX6_doAccept_114 rfl ?_
          refine j_iconst 118 C dX6_doAccept_117 ic_1 rfl ?_
          refine j_iadd 119 C dX6_doAccept_118 rfl ?_
          refine p_M 122 C K 25 (by decide) rs_25 rfl mw_988 rfl rfl dX6_doAccept_119 rfl (fun σ134 eσ134 => ?_)
          replace h := lt_e h σ134 eσ134
          refine j_goto 144 C dX6_doAccept_122 (by decide) ?_
          refine j_sub [1, 2, 3, 4, 5, 6, 0, 7] (lo' := [(0, .ref (gm g 0)), (1, .int x1), (2, .int x2), (4, .int x4), (5, .int v5), (6, .int v6), (7, .int x133), (8, .int v8)]) rfl ?_
          exact wn_X6_doAccept_144 C K M ih56 lay σ134 v5 v6 x133 v8 h
set_option maxHeartbeats 4000000 in
set_option maxRecDepth 100000 in
theorem wn_X6_doAccept_36 {l : Launch} {p : Program} {e : Env} {s : State} {m : MethodId} {args : Array Value} {below : List Frame} {meth : Method} {c : Code} {g : GG} {A : Nat → Prop} (C : KX p m c cX6_doAccept 9 s args RX6) (K : KC l g A s) (M : KM meth (some .int)) {σ' : RS} {r : Int32} {x1 : Int32} {x2 : Int32} {x3 : Int32} {x4 : Int32}     (lay : Nat → Nat) (σ : RS) (v5 : Int32) (w0 : Int32)  (h : B_X6_doAccept_36 x1 x2 x3 x4 σ v5 w0 = some (σ', r)) : JJ p l e (rmk 2 46 0 0) s m args below meth c (MQ below (va_Qi (fun (r0 : Int32) (u : RS) => r0 = r ∧ u = σ') (BC (RH g A)) A) args s 0 0 A) A 9 (RH g A lay σ) 0 0 36 [(0, .ref (gm g 0)), (1, .int x1), (2, .int x2), (4, .int x4), (5, .int v5)] [.int w0] := by
  unfold B_X6_doAccept_36 at h
  refine j_istore 38 C dX6_doAccept_36 (lo' := [(6, .int w0), (0, .ref (gm g 0)), (1, .int x1), (2, .int x2), (4, .int x4), (5, .int v5)]) (by decide) rfl rfl ?_
  refine j_iconst 39 C dX6_doAccept_38 ic_0 rfl ?_
  refine j_istore 41 C dX6_doAccept_39 (lo' := [(7, .int (0 : Int32)), (6, .int w0), (0, .ref (gm g 0)), (1, .int x1), (2, .int x2), (4, .int x4), (5, .int v5)]) (by decide) rfl rfl ?_
  refine j_aload_n 42 C dX6_doAccept_41 2 rfl rfl ?_
  refine g_M 45 C K 19 (by decide) mw_982 rfl dX6_doAccept_42 rfl ?_
  refine j_iload_n 46 C dX6_doAccept_45 3 rfl rfl ?_
  refine j_iload_n 47 C dX6_doAccept_46 4 rfl rfl ?_
  obtain ⟨σ110, r111, hF, h⟩ := bd_e h
  refine k_Si 50 C K (c_X6_at K.2.2.2 g A lay  hF) cp_X6_at mw_956 dX6_doAccept_47 rfl rfl (Nat.le_of_ble_eq_true rfl) ⟨Nat.le_of_ble_eq_true rfl, Nat.le_of_ble_eq_true rfl⟩ ⟨Nat.le_of_ble_eq_true rfl, Nat.le_of_ble_eq_true rfl⟩ rfl (fun lay => ?_)
  refine j_iload 52 C dX6_doAccept_50 1 rfl rfl ?_
  obtain ⟨hz112, h⟩ := gd_e h
  refine m_ist 53 C K ra_19 hz112 dX6_doAccept_52 rfl (fun σ113 eσ113 => ?_)
  replace h := lt_e h σ113 eσ113
  refine j_iconst 54 C dX6_doAccept_53 ic_0 rfl ?_
  refine j_istore 56 C dX6_doAccept_54 (lo' := [(8, .int (0 : Int32)), (7, .int (0 : Int32)), (6, .int w0), (0, .ref (gm g 0)), (1, .int x1), (2, .int x2), (4, .int x4), (5, .int v5)]) (by decide) rfl rfl ?_
  refine j_sub [3, 4, 5, 6, 7, 2, 1, 0] (lo' := [(0, .ref (gm g 0)), (1, .int x1), (2, .int x2), (4, .int x4), (5, .int v5), (6, .int w0), (7, .int (0 : Int32)), (8, .int (0 : Int32))]) rfl ?_
  exact wn_X6_doAccept_56 C K M  4096 lay σ113 v5 w0 (0 : Int32) (0 : Int32) h
set_option maxHeartbeats 4000000 in
set_option maxRecDepth 100000 in
theorem c_X6_doAccept {l : Launch} (hst : l.stackTraces = false) (g : GG) (A : Nat → Prop) (lay : Nat → Nat) {σ : RS} {σ' : RS} {r : Int32} {x1 : Int32} {x2 : Int32} {x3 : Int32} {x4 : Int32}  (h : F_X6_doAccept σ x1 x2 x3 x4 = some (σ', r)) : MI l yX6_doAccept cX6_doAccept 9 .int 2 46 0 0 [.ref (gm g 0), .int x1, .int x2, .int x3, .int x4] (RH g A) g A lay σ σ' r := by
  unfold F_X6_doAccept at h
  refine e_i (own := RX6) (lo := [(0, .ref (gm g 0)), (1, .int x1), (2, .int x2), (3, .int x3), (4, .int x4)]) hst (plainFor_of_name (by decide)) rfl rfl (Nat.le_of_ble_eq_true rfl) ?_
  intro p e s m args below meth c C K M
  refine j_aload_n 1 C dX6_doAccept_0 0 rfl rfl ?_
  refine g_M 4 C K 18 (by decide) mw_981 rfl dX6_doAccept_1 rfl ?_
  refine j_iload_n 5 C dX6_doAccept_4 1 rfl rfl ?_
  obtain ⟨hz101, h⟩ := gd_e h
  refine m_ild 6 C K ra_18 hz101 dX6_doAccept_5 rfl ?_
  refine j_topi (fun x102 ex102 => ?_)
  replace h := lt_e h x102 ex102
  refine j_istore 8 C dX6_doAccept_6 (lo' := [(5, .int x102), (0, .ref (gm g 0)), (1, .int x1), (2, .int x2), (3, .int x3), (4, .int x4)]) (by decide) rfl rfl ?_
  refine j_aload_n 9 C dX6_doAccept_8 1 rfl rfl ?_
  refine g_M 12 C K 19 (by decide) mw_982 rfl dX6_doAccept_9 rfl ?_
  refine j_iload_n 13 C dX6_doAccept_12 2 rfl rfl ?_
  refine j_iload_n 14 C dX6_doAccept_13 3 rfl rfl ?_
  obtain ⟨σ103, r104, hF, h⟩ := bd_e h
  refine k_Si 17 C K (c_X6_at K.2.2.2 g A lay  hF) cp_X6_at mw_956 dX6_doAccept_14 rfl rfl (Nat.le_of_ble_eq_true rfl) ⟨Nat.le_of_ble_eq_true rfl, Nat.le_of_ble_eq_true rfl⟩ ⟨Nat.le_of_ble_eq_true rfl, Nat.le_of_ble_eq_true rfl⟩ rfl (fun lay => ?_)
  obtain ⟨hz105, h⟩ := gd_e h
  refine m_ild 18 C K ra_19 hz105 dX6_doAccept_17 rfl ?_
  refine j_iconst 19 C dX6_doAccept_18 ic_m1 rfl ?_
  refine j_icmp_ne 22 26 C dX6_doAccept_19 (by decide) rfl (fun hc106 => ?_) (fun hc106 => ?_)
  · replace h := it_f hc106 h
    refine j_aload_n 27 C dX6_doAccept_26 1 rfl rfl ?_
    refine g_M 30 C K 19 (by decide) mw_982 rfl dX6_doAccept_27 rfl ?_
    refine j_iload_n 31 C dX6_doAccept_30 2 rfl rfl ?_
    refine j_iload_n 32 C dX6_doAccept_31 3 rfl rfl ?_
    obtain ⟨σ107, r108, hF, h⟩ := bd_e h
    refine k_Si 35 C K (c_X6_at K.2.2.2 g A lay  hF) cp_X6_at mw_956 dX6_doAccept_32 rfl rfl (Nat.le_of_ble_eq_true rfl) ⟨Nat.le_of_ble_eq_true rfl, Nat.le_of_ble_eq_true rfl⟩ ⟨Nat.le_of_ble_eq_true rfl, Nat.le_of_ble_eq_true rfl⟩ rfl (fun lay => ?_)
    obtain ⟨hz109, h⟩ := gd_e h
    refine m_ild 36 C K ra_19 hz109 dX6_doAccept_35 rfl ?_
    refine j_sub [1, 2, 3, 5, 0] (lo' := [(0, .ref (gm g 0)), (1, .int x1), (2, .int x2), (4, .int x4), (5, .int x102)]) rfl ?_
    exact wn_X6_doAccept_36 C K M  lay σ107 x102 (σ107.1 19 (tn r108)) h
  · replace h := it_t hc106 h
    refine j_iload_n 23 C dX6_doAccept_22 4 rfl rfl ?_
    refine j_goto 36 C dX6_doAccept_23 (by decide) ?_
    refine j_sub [1, 2, 3, 5, 0] (lo' := [(0, .ref (gm g 0)), (1, .int x1), (2, .int x2), (4, .int x4), (5, .int x102)]) rfl ?_
    exact wn_X6_doAccept_36 C K M  lay σ103 x102 x3 h
theorem cp_X6_acceptFault : CPv yX6_acceptFault cX6_acceptFault 6 (some .int) RX6 4 := ⟨mw_1139, mw_56, mw_105, mw_1140, rfl, by decide, by decide, by decide +kernel⟩
set_option maxHeartbeats 4000000 in
set_option maxRecDepth 100000 in
theorem wn_X6_acceptFault_51 {l : Launch} {p : Program} {e : Env} {s : State} {m : MethodId} {args : Array Value} {below : List Frame} {meth : Method} {c : Code} {g : GG} {A : Nat → Prop} (C : KX p m c cX6_acceptFault 6 s args RX6) (K : KC l g A s) (M : KM meth (some .int)) {σ' : RS} {r : Int32} {x1 : Int32} {x2 : Int32} {x3 : Int32} {x4 : Int32}     (lay : Nat → Nat) (σ : RS)   (h : B_X6_acceptFault_51 x1 x2 x3 x4 σ  = some (σ', r)) : JJ p l e (rmk 2 43 0 0) s m args below meth c (MQ below (va_Qi (fun (r0 : Int32) (u : RS) => r0 = r ∧ u = σ') (BC (RH g A)) A) args s 0 0 A) A 6 (RH g A lay σ) 0 0 51 [] [] := by
  unfold B_X6_acceptFault_51 at h
  refine j_iconst 52 C dX6_acceptFault_51 ic_2 rfl ?_
  refine j_goto 70 C dX6_acceptFault_52 (by decide) ?_
  cases h
  exact x_i C M dX6_acceptFault_70
set_option maxHeartbeats 4000000 in
set_option maxRecDepth 100000 in
theorem wn_X6_acceptFault_21 {l : Launch} {p : Program} {e : Env} {s : State} {m : MethodId} {args : Array Value} {below : List Frame} {meth : Method} {c : Code} {g : GG} {A : Nat → Prop} (C : KX p m c cX6_acceptFault 6 s args RX6) (K : KC l g A s) (M : KM meth (some .int)) {σ' : RS} {r : Int32} {x1 : Int32} {x2 : Int32} {x3 : Int32} {x4 : Int32}     (lay : Nat → Nat) (σ : RS) (w0 : Int32)  (h : B_X6_acceptFault_21 x1 x2 x3 x4 σ w0 = some (σ', r)) : JJ p l e (rmk 2 43 0 0) s m args below meth c (MQ below (va_Qi (fun (r0 : Int32) (u : RS) => r0 = r ∧ u = σ') (BC (RH g A)) A) args s 0 0 A) A 6 (RH g A lay σ) 0 0 21 [(0, .ref (gm g 0)), (1, .int x1), (3, .int x3), (4, .int x4)] [.int w0] := by
  unfold B_X6_acceptFault_21 at h
  refine j_istore 23 C dX6_acceptFault_21 (lo' := [(5, .int w0), (0, .ref (gm g 0)), (1, .int x1), (3, .int x3), (4, .int x4)]) (by decide) rfl rfl ?_
  refine j_iload 25 C dX6_acceptFault_23 0 rfl rfl ?_
  refine j_if_ne 28 32 C dX6_acceptFault_25 (by decide) rfl (fun hc107 => ?_) (fun hc107 => ?_)
  · replace h := it_f hc107 h
    refine j_iload_n 33 C dX6_acceptFault_32 3 rfl rfl ?_
    refine j_iconst 34 C dX6_acceptFault_33 ic_0 rfl ?_
    refine j_bipush 36 C dX6_acceptFault_34 bp_9 rfl ?_
    obtain ⟨σ108, r109, hF, h⟩ := bd_e h
    refine k_Si 39 C K (c_X6_within K.2.2.2 g A lay  hF) cp_X6_within mw_1078 dX6_acceptFault_36 rfl rfl (Nat.le_of_ble_eq_true rfl) ⟨Nat.le_of_ble_eq_true rfl, Nat.le_of_ble_eq_true rfl⟩ ⟨Nat.le_of_ble_eq_true rfl, Nat.le_of_ble_eq_true rfl⟩ rfl (fun lay => ?_)
    refine j_if_eq 42 51 C dX6_acceptFault_39 (by decide) rfl (fun hc110 => ?_) (fun hc110 => ?_)
    · replace h := it_t hc110 h
      refine j_sub [] (lo' := []) rfl ?_
      exact wn_X6_acceptFault_51 C K M  lay σ108  h
    · replace h := it_f hc110 h
      refine j_aload_n 43 C dX6_acceptFault_42 1 rfl rfl ?_
      refine j_iload 45 C dX6_acceptFault_43 4 rfl rfl ?_
      obtain ⟨σ111, r112, hF, h⟩ := bd_e h
      refine k_Vi 48 C K (c_X6_isSet K.2.2.2 g A lay  hF) cp_X6_isSet (rv_M) mw_1097 dX6_acceptFault_45 rfl rfl (Nat.le_of_ble_eq_true rfl) ⟨Nat.le_of_ble_eq_true rfl, Nat.le_of_ble_eq_true rfl⟩ ⟨Nat.le_of_ble_eq_true rfl, Nat.le_of_ble_eq_true rfl⟩ rfl (fun lay => ?_)
      refine j_if_ne 51 55 C dX6_acceptFault_48 (by decide) rfl (fun hc113 => ?_) (fun hc113 => ?_)
      · replace h := it_f hc113 h
        refine j_aload_n 56 C dX6_acceptFault_55 1 rfl rfl ?_
        refine g_M 59 C K 18 (by decide) mw_981 rfl dX6_acceptFault_56 rfl ?_
        refine j_iload_n 60 C dX6_acceptFault_59 2 rfl rfl ?_
        obtain ⟨hz114, h⟩ := gd_e h
        refine m_ild 61 C K ra_18 hz114 dX6_acceptFault_60 rfl ?_
        refine j_iconst 62 C dX6_acceptFault_61 ic_m1 rfl ?_
        refine j_icmp_ne 65 69 C dX6_acceptFault_62 (by decide) rfl (fun hc115 => ?_) (fun hc115 => ?_)
        · replace h := it_f hc115 h
          refine j_iconst 70 C dX6_acceptFault_69 ic_0 rfl ?_
          cases h
          exact x_i C M dX6_acceptFault_70
        · replace h := it_t hc115 h
          refine j_iconst 66 C dX6_acceptFault_65 ic_3 rfl ?_
          refine j_goto 70 C dX6_acceptFault_66 (by decide) ?_
          cases h
          exact x_i C M dX6_acceptFault_70
      · replace h := it_t hc113 h
        refine j_sub [] (lo' := []) rfl ?_
        exact wn_X6_acceptFault_51 C K M  lay σ111  h
  · replace h := it_t hc107 h
    refine j_iconst 29 C dX6_acceptFault_28 ic_1 rfl ?_
    refine j_goto 70 C dX6_acceptFault_29 (by decide) ?_
    cases h
    exact x_i C M dX6_acceptFault_70
set_option maxHeartbeats 4000000 in
set_option maxRecDepth 100000 in
theorem wn_X6_acceptFault_20 {l : Launch} {p : Program} {e : Env} {s : State} {m : MethodId} {args : Array Value} {below : List Frame} {meth : Method} {c : Code} {g : GG} {A : Nat → Prop} (C : KX p m c cX6_acceptFault 6 s args RX6) (K : KC l g A s) (M : KM meth (some .int)) {σ' : RS} {r : Int32} {x1 : Int32} {x2 : Int32} {x3 : Int32} {x4 : Int32}     (lay : Nat → Nat) (σ : RS)   (h : B_X6_acceptFault_20 x1 x2 x3 x4 σ  = some (σ', r)) : JJ p l e (rmk 2 43 0 0) s m args below meth c (MQ below (va_Qi (fun (r0 : Int32) (u : RS) => r0 = r ∧ u = σ') (BC (RH g A)) A) args s 0 0 A) A 6 (RH g A lay σ) 0 0 20 [(0, .ref (gm g 0)), (1, .int x1), (3, .int x3), (4, .int x4)] [] := by
  unfold B_X6_acceptFault_20 at h
  refine j_iconst 21 C dX6_acceptFault_20 ic_0 rfl ?_
  exact wn_X6_acceptFault_21 C K M  lay σ (0 : Int32) h
set_option maxHeartbeats 4000000 in
set_option maxRecDepth 100000 in
theorem c_X6_acceptFault {l : Launch} (hst : l.stackTraces = false) (g : GG) (A : Nat → Prop) (lay : Nat → Nat) {σ : RS} {σ' : RS} {r : Int32} {x1 : Int32} {x2 : Int32} {x3 : Int32} {x4 : Int32}  (h : F_X6_acceptFault σ x1 x2 x3 x4 = some (σ', r)) : MI l yX6_acceptFault cX6_acceptFault 6 .int 2 43 0 0 [.ref (gm g 0), .int x1, .int x2, .int x3, .int x4] (RH g A) g A lay σ σ' r := by
  unfold F_X6_acceptFault at h
  refine e_i (own := RX6) (lo := [(0, .ref (gm g 0)), (1, .int x1), (2, .int x2), (3, .int x3), (4, .int x4)]) hst (plainFor_of_name (by decide)) rfl rfl (Nat.le_of_ble_eq_true rfl) ?_
  intro p e s m args below meth c C K M
  refine j_aload_n 1 C dX6_acceptFault_0 0 rfl rfl ?_
  refine j_iload_n 2 C dX6_acceptFault_1 1 rfl rfl ?_
  obtain ⟨σ101, r102, hF, h⟩ := bd_e h
  refine k_Vi 5 C K (c_X6_isNode K.2.2.2 g A lay  hF) cp_X6_isNode (rv_M) mw_1093 dX6_acceptFault_2 rfl rfl (Nat.le_of_ble_eq_true rfl) ⟨Nat.le_of_ble_eq_true rfl, Nat.le_of_ble_eq_true rfl⟩ ⟨Nat.le_of_ble_eq_true rfl, Nat.le_of_ble_eq_true rfl⟩ rfl (fun lay => ?_)
  refine j_if_eq 8 20 C dX6_acceptFault_5 (by decide) rfl (fun hc103 => ?_) (fun hc103 => ?_)
  · replace h := it_t hc103 h
    refine j_sub [0, 1, 3, 4] (lo' := [(0, .ref (gm g 0)), (1, .int x1), (3, .int x3), (4, .int x4)]) rfl ?_
    exact wn_X6_acceptFault_20 C K M  lay σ101  h
  · replace h := it_f hc103 h
    refine j_aload_n 9 C dX6_acceptFault_8 0 rfl rfl ?_
    refine j_iload_n 10 C dX6_acceptFault_9 2 rfl rfl ?_
    obtain ⟨σ104, r105, hF, h⟩ := bd_e h
    refine k_Vi 13 C K (c_X6_isSlot K.2.2.2 g A lay  hF) cp_X6_isSlot (rv_M) mw_1141 dX6_acceptFault_10 rfl rfl (Nat.le_of_ble_eq_true rfl) ⟨Nat.le_of_ble_eq_true rfl, Nat.le_of_ble_eq_true rfl⟩ ⟨Nat.le_of_ble_eq_true rfl, Nat.le_of_ble_eq_true rfl⟩ rfl (fun lay => ?_)
    refine j_if_eq 16 20 C dX6_acceptFault_13 (by decide) rfl (fun hc106 => ?_) (fun hc106 => ?_)
    · replace h := it_t hc106 h
      refine j_sub [0, 1, 3, 4] (lo' := [(0, .ref (gm g 0)), (1, .int x1), (3, .int x3), (4, .int x4)]) rfl ?_
      exact wn_X6_acceptFault_20 C K M  lay σ104  h
    · replace h := it_f hc106 h
      refine j_iconst 17 C dX6_acceptFault_16 ic_1 rfl ?_
      refine j_goto 21 C dX6_acceptFault_17 (by decide) ?_
      refine j_sub [0, 1, 3, 4] (lo' := [(0, .ref (gm g 0)), (1, .int x1), (3, .int x3), (4, .int x4)]) rfl ?_
      exact wn_X6_acceptFault_21 C K M  lay σ104 (1 : Int32) h
theorem cp_X6_accept : CPv yX6_accept cX6_accept 5 (some .int) RX6 4 := ⟨mw_1134, mw_1135, mw_105, mw_1136, rfl, by decide, by decide, by decide +kernel⟩
set_option maxHeartbeats 4000000 in
set_option maxRecDepth 100000 in
theorem c_X6_accept {l : Launch} (hst : l.stackTraces = false) (g : GG) (A : Nat → Prop) (lay : Nat → Nat) {σ : RS} {σ' : RS} {r : Int32} {x1 : Int32} {x2 : Int32} {x3 : Int32} {x4 : Int32}  (h : F_X6_accept σ x1 x2 x3 x4 = some (σ', r)) : MI l yX6_accept cX6_accept 5 .int 3 74 0 0 [.ref (gm g 0), .int x1, .int x2, .int x3, .int x4] (RH g A) g A lay σ σ' r := by
  unfold F_X6_accept at h
  refine e_i (own := RX6) (lo := [(0, .ref (gm g 0)), (1, .int x1), (2, .int x2), (3, .int x3), (4, .int x4)]) hst (plainFor_of_name (by decide)) rfl rfl (Nat.le_of_ble_eq_true rfl) ?_
  intro p e s m args below meth c C K M
  refine j_aload_n 1 C dX6_accept_0 0 rfl rfl ?_
  refine j_aload_n 2 C dX6_accept_1 0 rfl rfl ?_
  refine j_iload_n 3 C dX6_accept_2 1 rfl rfl ?_
  refine j_iload_n 4 C dX6_accept_3 2 rfl rfl ?_
  refine j_iload_n 5 C dX6_accept_4 3 rfl rfl ?_
  refine j_iload 7 C dX6_accept_5 4 rfl rfl ?_
  obtain ⟨σ101, r102, hF, h⟩ := bd_e h
  refine k_Vi 10 C K (c_X6_acceptFault K.2.2.2 g A lay  hF) cp_X6_acceptFault (rv_M) mw_1137 dX6_accept_7 rfl rfl (Nat.le_of_ble_eq_true rfl) ⟨Nat.le_of_ble_eq_true rfl, Nat.le_of_ble_eq_true rfl⟩ ⟨Nat.le_of_ble_eq_true rfl, Nat.le_of_ble_eq_true rfl⟩ rfl (fun lay => ?_)
  refine p_M 13 C K 0 (by decide) rs_0 rfl mw_963 rfl rfl dX6_accept_10 rfl (fun σ103 eσ103 => ?_)
  replace h := lt_e h σ103 eσ103
  refine j_aload_n 14 C dX6_accept_13 0 rfl rfl ?_
  refine g_M 17 C K 0 (by decide) mw_963 rfl dX6_accept_14 rfl ?_
  refine j_if_le 20 24 C dX6_accept_17 (by decide) rfl (fun hc104 => ?_) (fun hc104 => ?_)
  · replace h := it_t hc104 h
    refine j_aload_n 25 C dX6_accept_24 0 rfl rfl ?_
    refine j_iload_n 26 C dX6_accept_25 1 rfl rfl ?_
    refine j_iload_n 27 C dX6_accept_26 2 rfl rfl ?_
    refine j_iload_n 28 C dX6_accept_27 3 rfl rfl ?_
    refine j_iload 30 C dX6_accept_28 4 rfl rfl ?_
    obtain ⟨σ105, r106, hF, h⟩ := bd_e h
    refine k_Vi 33 C K (c_X6_doAccept K.2.2.2 g A lay  hF) cp_X6_doAccept (rv_M) mw_1145 dX6_accept_30 rfl rfl (Nat.le_of_ble_eq_true rfl) ⟨Nat.le_of_ble_eq_true rfl, Nat.le_of_ble_eq_true rfl⟩ ⟨Nat.le_of_ble_eq_true rfl, Nat.le_of_ble_eq_true rfl⟩ rfl (fun lay => ?_)
    cases h
    exact x_i C M dX6_accept_33
  · replace h := it_f hc104 h
    refine j_iconst 21 C dX6_accept_20 ic_0 rfl ?_
    refine j_goto 33 C dX6_accept_21 (by decide) ?_
    cases h
    exact x_i C M dX6_accept_33
theorem cp_X6_upFault : CPv yX6_upFault cX6_upFault 3 (some .int) RX6 2 := ⟨mw_1159, mw_60, mw_105, mw_1160, rfl, by decide, by decide, by decide +kernel⟩
set_option maxHeartbeats 4000000 in
set_option maxRecDepth 100000 in
theorem c_X6_upFault {l : Launch} (hst : l.stackTraces = false) (g : GG) (A : Nat → Prop) (lay : Nat → Nat) {σ : RS} {σ' : RS} {r : Int32} {x1 : Int32} {x2 : Int32}  (h : F_X6_upFault σ x1 x2 = some (σ', r)) : MI l yX6_upFault cX6_upFault 3 .int 2 43 0 0 [.ref (gm g 0), .int x1, .int x2] (RH g A) g A lay σ σ' r := by
  unfold F_X6_upFault at h
  refine e_i (own := RX6) (lo := [(0, .ref (gm g 0)), (1, .int x1), (2, .int x2)]) hst (plainFor_of_name (by decide)) rfl rfl (Nat.le_of_ble_eq_true rfl) ?_
  intro p e s m args below meth c C K M
  refine j_aload_n 1 C dX6_upFault_0 0 rfl rfl ?_
  refine j_iload_n 2 C dX6_upFault_1 1 rfl rfl ?_
  obtain ⟨σ101, r102, hF, h⟩ := bd_e h
  refine k_Vi 5 C K (c_X6_isNode K.2.2.2 g A lay  hF) cp_X6_isNode (rv_M) mw_1093 dX6_upFault_2 rfl rfl (Nat.le_of_ble_eq_true rfl) ⟨Nat.le_of_ble_eq_true rfl, Nat.le_of_ble_eq_true rfl⟩ ⟨Nat.le_of_ble_eq_true rfl, Nat.le_of_ble_eq_true rfl⟩ rfl (fun lay => ?_)
  refine j_if_ne 8 12 C dX6_upFault_5 (by decide) rfl (fun hc103 => ?_) (fun hc103 => ?_)
  · replace h := it_f hc103 h
    refine j_aload_n 13 C dX6_upFault_12 0 rfl rfl ?_
    refine g_M 16 C K 4 (by decide) mw_967 rfl dX6_upFault_13 rfl ?_
    refine j_iload_n 17 C dX6_upFault_16 1 rfl rfl ?_
    obtain ⟨hz104, h⟩ := gd_e h
    refine m_zld 18 C K ra_4 hz104 dX6_upFault_17 rfl ?_
    refine j_iload_n 19 C dX6_upFault_18 2 rfl rfl ?_
    refine j_icmp_ne 22 26 C dX6_upFault_19 (by decide) rfl (fun hc105 => ?_) (fun hc105 => ?_)
    · replace h := it_f hc105 h
      refine j_iconst 27 C dX6_upFault_26 ic_2 rfl ?_
      cases h
      exact x_i C M dX6_upFault_27
    · replace h := it_t hc105 h
      refine j_iconst 23 C dX6_upFault_22 ic_0 rfl ?_
      refine j_goto 27 C dX6_upFault_23 (by decide) ?_
      cases h
      exact x_i C M dX6_upFault_27
  · replace h := it_t hc103 h
    refine j_iconst 9 C dX6_upFault_8 ic_1 rfl ?_
    refine j_goto 27 C dX6_upFault_9 (by decide) ?_
    cases h
    exact x_i C M dX6_upFault_27
theorem cp_X6_doBarrier : CPv yX6_doBarrier cX6_doBarrier 3 (some .int) RX6 1 := ⟨mw_1163, mw_61, mw_105, mw_1164, rfl, by decide, by decide, by decide +kernel⟩
set_option maxHeartbeats 4000000 in
set_option maxRecDepth 100000 in
theorem c_X6_doBarrier {l : Launch} (hst : l.stackTraces = false) (g : GG) (A : Nat → Prop) (lay : Nat → Nat) {σ : RS} {σ' : RS} {r : Int32} {x1 : Int32}  (h : F_X6_doBarrier σ x1 = some (σ', r)) : MI l yX6_doBarrier cX6_doBarrier 3 .int 2 43 0 0 [.ref (gm g 0), .int x1] (RH g A) g A lay σ σ' r := by
  unfold F_X6_doBarrier at h
  refine e_i (own := RX6) (lo := [(0, .ref (gm g 0)), (1, .int x1)]) hst (plainFor_of_name (by decide)) rfl rfl (Nat.le_of_ble_eq_true rfl) ?_
  intro p e s m args below meth c C K M
  refine j_aload_n 1 C dX6_doBarrier_0 0 rfl rfl ?_
  refine g_M 4 C K 14 (by decide) mw_977 rfl dX6_doBarrier_1 rfl ?_
  refine j_iload_n 5 C dX6_doBarrier_4 1 rfl rfl ?_
  obtain ⟨hz101, h⟩ := gd_e h
  refine m_ild 6 C K ra_14 hz101 dX6_doBarrier_5 rfl ?_
  refine j_topi (fun x102 ex102 => ?_)
  replace h := lt_e h x102 ex102
  refine j_istore_n 7 C dX6_doBarrier_6 (lo' := [(2, .int x102), (0, .ref (gm g 0)), (1, .int x1)]) (by decide) rfl rfl ?_
  refine j_aload_n 8 C dX6_doBarrier_7 1 rfl rfl ?_
  refine j_iload_n 9 C dX6_doBarrier_8 2 rfl rfl ?_
  obtain ⟨σ103, u104, hF, h⟩ := bd_e h
  refine k_Vv 12 C K (c_X6_flush K.2.2.2 g A lay  hF) cp_X6_flush (rv_M) mw_1125 dX6_doBarrier_9 rfl rfl (Nat.le_of_ble_eq_true rfl) ⟨Nat.le_of_ble_eq_true rfl, Nat.le_of_ble_eq_true rfl⟩ ⟨Nat.le_of_ble_eq_true rfl, Nat.le_of_ble_eq_true rfl⟩ rfl (fun lay => ?_)
  refine j_iload_n 13 C dX6_doBarrier_12 0 rfl rfl ?_
  cases h
  exact x_i C M dX6_doBarrier_13
theorem cp_X6_barrier : CPv yX6_barrier cX6_barrier 2 (some .int) RX6 1 := ⟨mw_1154, mw_1155, mw_105, mw_1156, rfl, by decide, by decide, by decide +kernel⟩
set_option maxHeartbeats 4000000 in
set_option maxRecDepth 100000 in
theorem c_X6_barrier {l : Launch} (hst : l.stackTraces = false) (g : GG) (A : Nat → Prop) (lay : Nat → Nat) {σ : RS} {σ' : RS} {r : Int32} {x1 : Int32}  (h : F_X6_barrier σ x1 = some (σ', r)) : MI l yX6_barrier cX6_barrier 2 .int 3 65 0 0 [.ref (gm g 0), .int x1] (RH g A) g A lay σ σ' r := by
  unfold F_X6_barrier at h
  refine e_i (own := RX6) (lo := [(0, .ref (gm g 0)), (1, .int x1)]) hst (plainFor_of_name (by decide)) rfl rfl (Nat.le_of_ble_eq_true rfl) ?_
  intro p e s m args below meth c C K M
  refine j_aload_n 1 C dX6_barrier_0 0 rfl rfl ?_
  refine j_aload_n 2 C dX6_barrier_1 0 rfl rfl ?_
  refine j_iload_n 3 C dX6_barrier_2 1 rfl rfl ?_
  refine j_iconst 4 C dX6_barrier_3 ic_1 rfl ?_
  obtain ⟨σ101, r102, hF, h⟩ := bd_e h
  refine k_Vi 7 C K (c_X6_upFault K.2.2.2 g A lay  hF) cp_X6_upFault (rv_M) mw_1157 dX6_barrier_4 rfl rfl (Nat.le_of_ble_eq_true rfl) ⟨Nat.le_of_ble_eq_true rfl, Nat.le_of_ble_eq_true rfl⟩ ⟨Nat.le_of_ble_eq_true rfl, Nat.le_of_ble_eq_true rfl⟩ rfl (fun lay => ?_)
  refine p_M 10 C K 0 (by decide) rs_0 rfl mw_963 rfl rfl dX6_barrier_7 rfl (fun σ103 eσ103 => ?_)
  replace h := lt_e h σ103 eσ103
  refine j_aload_n 11 C dX6_barrier_10 0 rfl rfl ?_
  refine g_M 14 C K 0 (by decide) mw_963 rfl dX6_barrier_11 rfl ?_
  refine j_if_le 17 21 C dX6_barrier_14 (by decide) rfl (fun hc104 => ?_) (fun hc104 => ?_)
  · replace h := it_t hc104 h
    refine j_aload_n 22 C dX6_barrier_21 0 rfl rfl ?_
    refine j_iload_n 23 C dX6_barrier_22 1 rfl rfl ?_
    obtain ⟨σ105, r106, hF, h⟩ := bd_e h
    refine k_Vi 26 C K (c_X6_doBarrier K.2.2.2 g A lay  hF) cp_X6_doBarrier (rv_M) mw_1161 dX6_barrier_23 rfl rfl (Nat.le_of_ble_eq_true rfl) ⟨Nat.le_of_ble_eq_true rfl, Nat.le_of_ble_eq_true rfl⟩ ⟨Nat.le_of_ble_eq_true rfl, Nat.le_of_ble_eq_true rfl⟩ rfl (fun lay => ?_)
    cases h
    exact x_i C M dX6_barrier_26
  · replace h := it_f hc104 h
    refine j_iconst 18 C dX6_barrier_17 ic_0 rfl ?_
    refine j_goto 26 C dX6_barrier_18 (by decide) ?_
    cases h
    exact x_i C M dX6_barrier_26
theorem cp_X6_doCrash : CPv yX6_doCrash cX6_doCrash 4 (some .int) RX6 2 := ⟨mw_1171, mw_62, mw_105, mw_1172, rfl, by decide, by decide, by decide +kernel⟩
set_option maxHeartbeats 4000000 in
set_option maxRecDepth 100000 in
theorem wn_X6_doCrash_20 {l : Launch} {p : Program} {e : Env} {s : State} {m : MethodId} {args : Array Value} {below : List Frame} {meth : Method} {c : Code} {g : GG} {A : Nat → Prop} (C : KX p m c cX6_doCrash 4 s args RX6) (K : KC l g A s) (M : KM meth (some .int)) {σ' : RS} {r : Int32} {x1 : Int32} {x2 : Int32}     (lay : Nat → Nat) (σ : RS) (w0 : Int32)  (h : B_X6_doCrash_20 x1 x2 σ w0 = some (σ', r)) : JJ p l e (rmk 2 43 0 0) s m args below meth c (MQ below (va_Qi (fun (r0 : Int32) (u : RS) => r0 = r ∧ u = σ') (BC (RH g A)) A) args s 0 0 A) A 4 (RH g A lay σ) 0 0 20 [(0, .ref (gm g 0)), (1, .int x1)] [.int w0] := by
  unfold B_X6_doCrash_20 at h
  refine j_istore_n 21 C dX6_doCrash_20 (lo' := [(3, .int w0), (0, .ref (gm g 0)), (1, .int x1)]) (by decide) rfl rfl ?_
  refine j_aload_n 22 C dX6_doCrash_21 1 rfl rfl ?_
  refine g_M 25 C K 14 (by decide) mw_977 rfl dX6_doCrash_22 rfl ?_
  refine j_iload_n 26 C dX6_doCrash_25 2 rfl rfl ?_
  refine j_dup2 27 C dX6_doCrash_26 rfl rfl rfl ?_
  obtain ⟨hz104, h⟩ := gd_e h
  refine m_ild 28 C K ra_14 hz104 dX6_doCrash_27 rfl ?_
  refine j_iload_n 29 C dX6_doCrash_28 0 rfl rfl ?_
  refine j_isub 30 C dX6_doCrash_29 rfl ?_
  obtain ⟨hz105, h⟩ := gd_e h
  refine m_ist 31 C K ra_14 hz105 dX6_doCrash_30 rfl (fun σ106 eσ106 => ?_)
  replace h := lt_e h σ106 eσ106
  refine j_aload_n 32 C dX6_doCrash_31 1 rfl rfl ?_
  refine j_iload_n 33 C dX6_doCrash_32 2 rfl rfl ?_
  obtain ⟨σ107, u108, hF, h⟩ := bd_e h
  refine k_Vv 36 C K (c_X6_flush K.2.2.2 g A lay  hF) cp_X6_flush (rv_M) mw_1125 dX6_doCrash_33 rfl rfl (Nat.le_of_ble_eq_true rfl) ⟨Nat.le_of_ble_eq_true rfl, Nat.le_of_ble_eq_true rfl⟩ ⟨Nat.le_of_ble_eq_true rfl, Nat.le_of_ble_eq_true rfl⟩ rfl (fun lay => ?_)
  refine j_aload_n 37 C dX6_doCrash_36 1 rfl rfl ?_
  refine j_iload_n 38 C dX6_doCrash_37 2 rfl rfl ?_
  obtain ⟨σ109, u110, hF, h⟩ := bd_e h
  refine k_Vv 41 C K (c_X6_showDisk K.2.2.2 g A lay  hF) cp_X6_showDisk (rv_M) mw_959 dX6_doCrash_38 rfl rfl (Nat.le_of_ble_eq_true rfl) ⟨Nat.le_of_ble_eq_true rfl, Nat.le_of_ble_eq_true rfl⟩ ⟨Nat.le_of_ble_eq_true rfl, Nat.le_of_ble_eq_true rfl⟩ rfl (fun lay => ?_)
  refine j_aload_n 42 C dX6_doCrash_41 1 rfl rfl ?_
  refine g_M 45 C K 4 (by decide) mw_967 rfl dX6_doCrash_42 rfl ?_
  refine j_iload_n 46 C dX6_doCrash_45 2 rfl rfl ?_
  refine j_iconst 47 C dX6_doCrash_46 ic_0 rfl ?_
  obtain ⟨hz111, h⟩ := gd_e h
  refine m_zst 48 C K ra_4 hz111 (by decide) dX6_doCrash_47 rfl (fun σ112 eσ112 => ?_)
  replace h := lt_e h σ112 eσ112
  refine j_aload_n 49 C dX6_doCrash_48 1 rfl rfl ?_
  refine g_M 52 C K 18 (by decide) mw_981 rfl dX6_doCrash_49 rfl ?_
  refine j_iload_n 53 C dX6_doCrash_52 2 rfl rfl ?_
  refine j_iconst 54 C dX6_doCrash_53 ic_m1 rfl ?_
  obtain ⟨hz113, h⟩ := gd_e h
  refine m_ist 55 C K ra_18 hz113 dX6_doCrash_54 rfl (fun σ114 eσ114 => ?_)
  replace h := lt_e h σ114 eσ114
  refine j_aload_n 56 C dX6_doCrash_55 1 rfl rfl ?_
  refine g_M 59 C K 7 (by decide) mw_970 rfl dX6_doCrash_56 rfl ?_
  refine j_iload_n 60 C dX6_doCrash_59 2 rfl rfl ?_
  refine j_iconst 61 C dX6_doCrash_60 ic_0 rfl ?_
  obtain ⟨hz115, h⟩ := gd_e h
  refine m_ist 62 C K ra_7 hz115 dX6_doCrash_61 rfl (fun σ116 eσ116 => ?_)
  replace h := lt_e h σ116 eσ116
  refine j_aload_n 63 C dX6_doCrash_62 1 rfl rfl ?_
  refine j_dup 64 C dX6_doCrash_63 rfl rfl ?_
  refine g_M 67 C K 26 (by decide) mw_989 rfl dX6_doCrash_64 rfl ?_
  refine j_iload_n 68 C dX6_doCrash_67 0 rfl rfl ?_
  refine j_iadd 69 C dX6_doCrash_68 rfl ?_
  refine p_M 72 C K 26 (by decide) rs_26 rfl mw_989 rfl rfl dX6_doCrash_69 rfl (fun σ117 eσ117 => ?_)
  replace h := lt_e h σ117 eσ117
  refine j_iload_n 73 C dX6_doCrash_72 0 rfl rfl ?_
  cases h
  exact x_i C M dX6_doCrash_73
set_option maxHeartbeats 4000000 in
set_option maxRecDepth 100000 in
theorem c_X6_doCrash {l : Launch} (hst : l.stackTraces = false) (g : GG) (A : Nat → Prop) (lay : Nat → Nat) {σ : RS} {σ' : RS} {r : Int32} {x1 : Int32} {x2 : Int32}  (h : F_X6_doCrash σ x1 x2 = some (σ', r)) : MI l yX6_doCrash cX6_doCrash 4 .int 2 43 0 0 [.ref (gm g 0), .int x1, .int x2] (RH g A) g A lay σ σ' r := by
  unfold F_X6_doCrash at h
  refine e_i (own := RX6) (lo := [(0, .ref (gm g 0)), (1, .int x1), (2, .int x2)]) hst (plainFor_of_name (by decide)) rfl rfl (Nat.le_of_ble_eq_true rfl) ?_
  intro p e s m args below meth c C K M
  refine j_iload_n 1 C dX6_doCrash_0 2 rfl rfl ?_
  refine j_aload_n 2 C dX6_doCrash_1 0 rfl rfl ?_
  refine g_M 5 C K 14 (by decide) mw_977 rfl dX6_doCrash_2 rfl ?_
  refine j_iload_n 6 C dX6_doCrash_5 1 rfl rfl ?_
  obtain ⟨hz101, h⟩ := gd_e h
  refine m_ild 7 C K ra_14 hz101 dX6_doCrash_6 rfl ?_
  refine j_icmp_ge 10 14 C dX6_doCrash_7 (by decide) rfl (fun hc102 => ?_) (fun hc102 => ?_)
  · replace h := it_t hc102 h
    refine j_aload_n 15 C dX6_doCrash_14 0 rfl rfl ?_
    refine g_M 18 C K 14 (by decide) mw_977 rfl dX6_doCrash_15 rfl ?_
    refine j_iload_n 19 C dX6_doCrash_18 1 rfl rfl ?_
    obtain ⟨hz103, h⟩ := gd_e h
    refine m_ild 20 C K ra_14 hz103 dX6_doCrash_19 rfl ?_
    refine j_sub [0, 1] (lo' := [(0, .ref (gm g 0)), (1, .int x1)]) rfl ?_
    exact wn_X6_doCrash_20 C K M  lay σ (σ.1 14 (tn x1)) h
  · replace h := it_f hc102 h
    refine j_iload_n 11 C dX6_doCrash_10 2 rfl rfl ?_
    refine j_goto 20 C dX6_doCrash_11 (by decide) ?_
    refine j_sub [0, 1] (lo' := [(0, .ref (gm g 0)), (1, .int x1)]) rfl ?_
    exact wn_X6_doCrash_20 C K M  lay σ x2 h
theorem cp_X6_crash : CPv yX6_crash cX6_crash 3 (some .int) RX6 2 := ⟨mw_1166, mw_1167, mw_105, mw_1168, rfl, by decide, by decide, by decide +kernel⟩
set_option maxHeartbeats 4000000 in
set_option maxRecDepth 100000 in
theorem wn_X6_crash_35 {l : Launch} {p : Program} {e : Env} {s : State} {m : MethodId} {args : Array Value} {below : List Frame} {meth : Method} {c : Code} {g : GG} {A : Nat → Prop} (C : KX p m c cX6_crash 3 s args RX6) (K : KC l g A s) (M : KM meth (some .int)) {σ' : RS} {r : Int32} {x1 : Int32} {x2 : Int32}     (lay : Nat → Nat) (σ : RS) (w0 : Int32)  (h : B_X6_crash_35 x1 x2 σ w0 = some (σ', r)) : JJ p l e (rmk 3 66 0 0) s m args below meth c (MQ below (va_Qi (fun (r0 : Int32) (u : RS) => r0 = r ∧ u = σ') (BC (RH g A)) A) args s 0 0 A) A 3 (RH g A lay σ) 0 0 35 [(0, .ref (gm g 0)), (1, .int x1), (2, .int x2)] [.int w0, .ref (gm g 0)] := by
  unfold B_X6_crash_35 at h
  refine p_M 38 C K 0 (by decide) rs_0 rfl mw_963 rfl rfl dX6_crash_35 rfl (fun σ107 eσ107 => ?_)
  replace h := lt_e h σ107 eσ107
  refine j_aload_n 39 C dX6_crash_38 0 rfl rfl ?_
  refine g_M 42 C K 0 (by decide) mw_963 rfl dX6_crash_39 rfl ?_
  refine j_if_le 45 49 C dX6_crash_42 (by decide) rfl (fun hc108 => ?_) (fun hc108 => ?_)
  · replace h := it_t hc108 h
    refine j_aload_n 50 C dX6_crash_49 0 rfl rfl ?_
    refine j_iload_n 51 C dX6_crash_50 1 rfl rfl ?_
    refine j_iload_n 52 C dX6_crash_51 2 rfl rfl ?_
    obtain ⟨σ109, r110, hF, h⟩ := bd_e h
    refine k_Vi 55 C K (c_X6_doCrash K.2.2.2 g A lay  hF) cp_X6_doCrash (rv_M) mw_1169 dX6_crash_52 rfl rfl (Nat.le_of_ble_eq_true rfl) ⟨Nat.le_of_ble_eq_true rfl, Nat.le_of_ble_eq_true rfl⟩ ⟨Nat.le_of_ble_eq_true rfl, Nat.le_of_ble_eq_true rfl⟩ rfl (fun lay => ?_)
    cases h
    exact x_i C M dX6_crash_55
  · replace h := it_f hc108 h
    refine j_iconst 46 C dX6_crash_45 ic_0 rfl ?_
    refine j_goto 55 C dX6_crash_46 (by decide) ?_
    cases h
    exact x_i C M dX6_crash_55
set_option maxHeartbeats 4000000 in
set_option maxRecDepth 100000 in
theorem c_X6_crash {l : Launch} (hst : l.stackTraces = false) (g : GG) (A : Nat → Prop) (lay : Nat → Nat) {σ : RS} {σ' : RS} {r : Int32} {x1 : Int32} {x2 : Int32}  (h : F_X6_crash σ x1 x2 = some (σ', r)) : MI l yX6_crash cX6_crash 3 .int 3 66 0 0 [.ref (gm g 0), .int x1, .int x2] (RH g A) g A lay σ σ' r := by
  unfold F_X6_crash at h
  refine e_i (own := RX6) (lo := [(0, .ref (gm g 0)), (1, .int x1), (2, .int x2)]) hst (plainFor_of_name (by decide)) rfl rfl (Nat.le_of_ble_eq_true rfl) ?_
  intro p e s m args below meth c C K M
  refine j_aload_n 1 C dX6_crash_0 0 rfl rfl ?_
  refine j_aload_n 2 C dX6_crash_1 0 rfl rfl ?_
  refine j_iload_n 3 C dX6_crash_2 1 rfl rfl ?_
  obtain ⟨σ101, r102, hF, h⟩ := bd_e h
  refine k_Vi 6 C K (c_X6_isNode K.2.2.2 g A lay  hF) cp_X6_isNode (rv_M) mw_1093 dX6_crash_3 rfl rfl (Nat.le_of_ble_eq_true rfl) ⟨Nat.le_of_ble_eq_true rfl, Nat.le_of_ble_eq_true rfl⟩ ⟨Nat.le_of_ble_eq_true rfl, Nat.le_of_ble_eq_true rfl⟩ rfl (fun lay => ?_)
  refine j_if_ne 9 13 C dX6_crash_6 (by decide) rfl (fun hc103 => ?_) (fun hc103 => ?_)
  · replace h := it_f hc103 h
    refine j_iload_n 14 C dX6_crash_13 2 rfl rfl ?_
    refine j_if_ge 17 21 C dX6_crash_14 (by decide) rfl (fun hc104 => ?_) (fun hc104 => ?_)
    · replace h := it_t hc104 h
      refine j_aload_n 22 C dX6_crash_21 0 rfl rfl ?_
      refine g_M 25 C K 4 (by decide) mw_967 rfl dX6_crash_22 rfl ?_
      refine j_iload_n 26 C dX6_crash_25 1 rfl rfl ?_
      obtain ⟨hz105, h⟩ := gd_e h
      refine m_zld 27 C K ra_4 hz105 dX6_crash_26 rfl ?_
      refine j_if_eq 30 34 C dX6_crash_27 (by decide) rfl (fun hc106 => ?_) (fun hc106 => ?_)
      · replace h := it_t hc106 h
        refine j_iconst 35 C dX6_crash_34 ic_3 rfl ?_
        exact wn_X6_crash_35 C K M  lay σ101 (3 : Int32) h
      · replace h := it_f hc106 h
        refine j_iconst 31 C dX6_crash_30 ic_0 rfl ?_
        refine j_goto 35 C dX6_crash_31 (by decide) ?_
        exact wn_X6_crash_35 C K M  lay σ101 (0 : Int32) h
    · replace h := it_f hc104 h
      refine j_iconst 18 C dX6_crash_17 ic_2 rfl ?_
      refine j_goto 35 C dX6_crash_18 (by decide) ?_
      exact wn_X6_crash_35 C K M  lay σ101 (2 : Int32) h
  · replace h := it_t hc103 h
    refine j_iconst 10 C dX6_crash_9 ic_1 rfl ?_
    refine j_goto 35 C dX6_crash_10 (by decide) ?_
    exact wn_X6_crash_35 C K M  lay σ101 (1 : Int32) h
theorem cp_X6_doWipe : CPv yX6_doWipe cX6_doWipe 4 (some .int) RX6 1 := ⟨mw_1179, mw_63, mw_105, mw_1180, rfl, by decide, by decide, by decide +kernel⟩
set_option maxHeartbeats 4000000 in
set_option maxRecDepth 100000 in
theorem wn_X6_doWipe_31 {l : Launch} {p : Program} {e : Env} {s : State} {m : MethodId} {args : Array Value} {below : List Frame} {meth : Method} {c : Code} {g : GG} {A : Nat → Prop} (C : KX p m c cX6_doWipe 4 s args RX6) (K : KC l g A s) (M : KM meth (some .int)) {σ' : RS} {r : Int32} {x1 : Int32}   {self4 : RS → Int32 → Int32 → Option (RS × Int32)} (ih4 : ∀ (lay : Nat → Nat) (σ : RS) (v2 : Int32) (v3 : Int32), self4 σ v2 v3 = some (σ', r) → JJ p l e (rmk 3 65 0 0) s m args below meth c (MQ below (va_Qi (fun (r0 : Int32) (u : RS) => r0 = r ∧ u = σ') (BC (RH g A)) A) args s 0 0 A) A 4 (RH g A lay σ) 0 0 4 [(0, .ref (gm g 0)), (1, .int x1), (2, .int v2), (3, .int v3)] []) (lay : Nat → Nat) (σ : RS) (v3 : Int32) (w0 : Int32) (w1 : Int32)  (h : B_X6_doWipe_31 x1 self4 σ v3 w0 w1 = some (σ', r)) : JJ p l e (rmk 3 65 0 0) s m args below meth c (MQ below (va_Qi (fun (r0 : Int32) (u : RS) => r0 = r ∧ u = σ') (BC (RH g A)) A) args s 0 0 A) A 4 (RH g A lay σ) 0 0 31 [(0, .ref (gm g 0)), (1, .int x1), (3, .int v3)] [.int w0, .int w1] := by
  unfold B_X6_doWipe_31 at h
  refine j_iadd 32 C dX6_doWipe_31 rfl ?_
  refine j_topi (fun x110 ex110 => ?_)
  replace h := lt_e h x110 ex110
  refine j_istore_n 33 C dX6_doWipe_32 (lo' := [(2, .int x110), (0, .ref (gm g 0)), (1, .int x1), (3, .int v3)]) (by decide) rfl rfl ?_
  obtain ⟨x111, ex111⟩ : ∃ z : Int32, z = v3 + 1 := ⟨_, rfl⟩
  replace h := lt_e h x111 ex111
  refine j_iinc 36 C dX6_doWipe_33 3 rfl (v := x111) ((ii_1 _).trans ex111.symm) (lo' := [(3, .int x111), (2, .int x110), (0, .ref (gm g 0)), (1, .int x1)]) (by decide) rfl rfl ?_
  refine j_goto 4 C dX6_doWipe_36 (by decide) ?_
  refine j_sub [2, 3, 1, 0] (lo' := [(0, .ref (gm g 0)), (1, .int x1), (2, .int x110), (3, .int x111)]) rfl ?_
  exact ih4 lay σ x110 x111 h
set_option maxHeartbeats 4000000 in
set_option maxRecDepth 100000 in
theorem wn_X6_doWipe_4 {l : Launch} {p : Program} {e : Env} {s : State} {m : MethodId} {args : Array Value} {below : List Frame} {meth : Method} {c : Code} {g : GG} {A : Nat → Prop} (C : KX p m c cX6_doWipe 4 s args RX6) (K : KC l g A s) (M : KM meth (some .int)) {σ' : RS} {r : Int32} {x1 : Int32}     : ∀ (fu : Nat) (lay : Nat → Nat) (σ : RS) (v2 : Int32) (v3 : Int32), B_X6_doWipe_4 x1 fu σ v2 v3 = some (σ', r) → JJ p l e (rmk 3 65 0 0) s m args below meth c (MQ below (va_Qi (fun (r0 : Int32) (u : RS) => r0 = r ∧ u = σ') (BC (RH g A)) A) args s 0 0 A) A 4 (RH g A lay σ) 0 0 4 [(0, .ref (gm g 0)), (1, .int x1), (2, .int v2), (3, .int v3)] [] := by
  intro fu
  induction fu with
  | zero =>
    intro lay σ v2 v3 h
    exact nomatch (show (none : Option _) = some _ from h)
  | succ fu ih4 =>
    intro lay σ v2 v3 h
    unfold B_X6_doWipe_4 at h
    rw [lo3_s] at h
    refine j_iload_n 5 C dX6_doWipe_4 3 rfl rfl ?_
    refine j_aload_n 6 C dX6_doWipe_5 0 rfl rfl ?_
    refine g_M 9 C K 2 (by decide) mw_965 rfl dX6_doWipe_6 rfl ?_
    refine j_icmp_ge 12 39 C dX6_doWipe_9 (by decide) rfl (fun hc101 => ?_) (fun hc101 => ?_)
    · replace h := it_t hc101 h
      refine j_aload_n 40 C dX6_doWipe_39 0 rfl rfl ?_
      refine j_iload_n 41 C dX6_doWipe_40 1 rfl rfl ?_
      obtain ⟨σ102, u103, hF, h⟩ := bd_e h
      refine k_Vv 44 C K (c_X6_wipeDisk K.2.2.2 g A lay  hF) cp_X6_wipeDisk (rv_M) mw_952 dX6_doWipe_41 rfl rfl (Nat.le_of_ble_eq_true rfl) ⟨Nat.le_of_ble_eq_true rfl, Nat.le_of_ble_eq_true rfl⟩ ⟨Nat.le_of_ble_eq_true rfl, Nat.le_of_ble_eq_true rfl⟩ rfl (fun lay => ?_)
      refine j_aload_n 45 C dX6_doWipe_44 0 rfl rfl ?_
      refine g_M 48 C K 5 (by decide) mw_968 rfl dX6_doWipe_45 rfl ?_
      refine j_iload_n 49 C dX6_doWipe_48 1 rfl rfl ?_
      refine j_iconst 50 C dX6_doWipe_49 ic_0 rfl ?_
      obtain ⟨hz104, h⟩ := gd_e h
      refine m_zst 51 C K ra_5 hz104 (by decide) dX6_doWipe_50 rfl (fun σ105 eσ105 => ?_)
      replace h := lt_e h σ105 eσ105
      refine j_iload_n 52 C dX6_doWipe_51 2 rfl rfl ?_
      cases h
      exact x_i C M dX6_doWipe_52
    · replace h := it_f hc101 h
      refine j_iload_n 13 C dX6_doWipe_12 2 rfl rfl ?_
      refine j_aload_n 14 C dX6_doWipe_13 0 rfl rfl ?_
      refine g_M 17 C K 9 (by decide) mw_972 rfl dX6_doWipe_14 rfl ?_
      refine j_iload_n 18 C dX6_doWipe_17 1 rfl rfl ?_
      refine j_iload_n 19 C dX6_doWipe_18 3 rfl rfl ?_
      obtain ⟨σ106, r107, hF, h⟩ := bd_e h
      refine k_Si 22 C K (c_X6_at K.2.2.2 g A lay  hF) cp_X6_at mw_956 dX6_doWipe_19 rfl rfl (Nat.le_of_ble_eq_true rfl) ⟨Nat.le_of_ble_eq_true rfl, Nat.le_of_ble_eq_true rfl⟩ ⟨Nat.le_of_ble_eq_true rfl, Nat.le_of_ble_eq_true rfl⟩ rfl (fun lay => ?_)
      obtain ⟨hz108, h⟩ := gd_e h
      refine m_ild 23 C K ra_9 hz108 dX6_doWipe_22 rfl ?_
      refine j_if_le 26 30 C dX6_doWipe_23 (by decide) rfl (fun hc109 => ?_) (fun hc109 => ?_)
      · replace h := it_t hc109 h
        refine j_iconst 31 C dX6_doWipe_30 ic_0 rfl ?_
        refine j_sub [0, 1, 3] (lo' := [(0, .ref (gm g 0)), (1, .int x1), (3, .int v3)]) rfl ?_
        exact wn_X6_doWipe_31 C K M ih4 lay σ106 v3 (0 : Int32) v2 h
      · replace h := it_f hc109 h
        refine j_iconst 27 C dX6_doWipe_26 ic_1 rfl ?_
        refine j_goto 31 C dX6_doWipe_27 (by decide) ?_
        refine j_sub [0, 1, 3] (lo' := [(0, .ref (gm g 0)), (1, .int x1), (3, .int v3)]) rfl ?_
        exact wn_X6_doWipe_31 C K M ih4 lay σ106 v3 (1 : Int32) v2 h
set_option maxHeartbeats 4000000 in
set_option maxRecDepth 100000 in
theorem c_X6_doWipe {l : Launch} (hst : l.stackTraces = false) (g : GG) (A : Nat → Prop) (lay : Nat → Nat) {σ : RS} {σ' : RS} {r : Int32} {x1 : Int32}  (h : F_X6_doWipe σ x1 = some (σ', r)) : MI l yX6_doWipe cX6_doWipe 4 .int 3 65 0 0 [.ref (gm g 0), .int x1] (RH g A) g A lay σ σ' r := by
  unfold F_X6_doWipe at h
  refine e_i (own := RX6) (lo := [(0, .ref (gm g 0)), (1, .int x1)]) hst (plainFor_of_name (by decide)) rfl rfl (Nat.le_of_ble_eq_true rfl) ?_
  intro p e s m args below meth c C K M
  refine j_iconst 1 C dX6_doWipe_0 ic_0 rfl ?_
  refine j_istore_n 2 C dX6_doWipe_1 (lo' := [(2, .int (0 : Int32)), (0, .ref (gm g 0)), (1, .int x1)]) (by decide) rfl rfl ?_
  refine j_iconst 3 C dX6_doWipe_2 ic_0 rfl ?_
  refine j_istore_n 4 C dX6_doWipe_3 (lo' := [(3, .int (0 : Int32)), (2, .int (0 : Int32)), (0, .ref (gm g 0)), (1, .int x1)]) (by decide) rfl rfl ?_
  refine j_sub [2, 3, 1, 0] (lo' := [(0, .ref (gm g 0)), (1, .int x1), (2, .int (0 : Int32)), (3, .int (0 : Int32))]) rfl ?_
  exact wn_X6_doWipe_4 C K M  4096 lay σ (0 : Int32) (0 : Int32) h
theorem cp_X6_wipe : CPv yX6_wipe cX6_wipe 2 (some .int) RX6 1 := ⟨mw_1174, mw_1175, mw_105, mw_1176, rfl, by decide, by decide, by decide +kernel⟩
set_option maxHeartbeats 4000000 in
set_option maxRecDepth 100000 in
theorem c_X6_wipe {l : Launch} (hst : l.stackTraces = false) (g : GG) (A : Nat → Prop) (lay : Nat → Nat) {σ : RS} {σ' : RS} {r : Int32} {x1 : Int32}  (h : F_X6_wipe σ x1 = some (σ', r)) : MI l yX6_wipe cX6_wipe 2 .int 4 88 0 0 [.ref (gm g 0), .int x1] (RH g A) g A lay σ σ' r := by
  unfold F_X6_wipe at h
  refine e_i (own := RX6) (lo := [(0, .ref (gm g 0)), (1, .int x1)]) hst (plainFor_of_name (by decide)) rfl rfl (Nat.le_of_ble_eq_true rfl) ?_
  intro p e s m args below meth c C K M
  refine j_aload_n 1 C dX6_wipe_0 0 rfl rfl ?_
  refine j_aload_n 2 C dX6_wipe_1 0 rfl rfl ?_
  refine j_iload_n 3 C dX6_wipe_2 1 rfl rfl ?_
  refine j_iconst 4 C dX6_wipe_3 ic_0 rfl ?_
  obtain ⟨σ101, r102, hF, h⟩ := bd_e h
  refine k_Vi 7 C K (c_X6_upFault K.2.2.2 g A lay  hF) cp_X6_upFault (rv_M) mw_1157 dX6_wipe_4 rfl rfl (Nat.le_of_ble_eq_true rfl) ⟨Nat.le_of_ble_eq_true rfl, Nat.le_of_ble_eq_true rfl⟩ ⟨Nat.le_of_ble_eq_true rfl, Nat.le_of_ble_eq_true rfl⟩ rfl (fun lay => ?_)
  refine p_M 10 C K 0 (by decide) rs_0 rfl mw_963 rfl rfl dX6_wipe_7 rfl (fun σ103 eσ103 => ?_)
  replace h := lt_e h σ103 eσ103
  refine j_aload_n 11 C dX6_wipe_10 0 rfl rfl ?_
  refine g_M 14 C K 0 (by decide) mw_963 rfl dX6_wipe_11 rfl ?_
  refine j_if_le 17 21 C dX6_wipe_14 (by decide) rfl (fun hc104 => ?_) (fun hc104 => ?_)
  · replace h := it_t hc104 h
    refine j_aload_n 22 C dX6_wipe_21 0 rfl rfl ?_
    refine j_iload_n 23 C dX6_wipe_22 1 rfl rfl ?_
    obtain ⟨σ105, r106, hF, h⟩ := bd_e h
    refine k_Vi 26 C K (c_X6_doWipe K.2.2.2 g A lay  hF) cp_X6_doWipe (rv_M) mw_1177 dX6_wipe_23 rfl rfl (Nat.le_of_ble_eq_true rfl) ⟨Nat.le_of_ble_eq_true rfl, Nat.le_of_ble_eq_true rfl⟩ ⟨Nat.le_of_ble_eq_true rfl, Nat.le_of_ble_eq_true rfl⟩ rfl (fun lay => ?_)
    cases h
    exact x_i C M dX6_wipe_26
  · replace h := it_f hc104 h
    refine j_iconst 18 C dX6_wipe_17 ic_0 rfl ?_
    refine j_goto 26 C dX6_wipe_18 (by decide) ?_
    cases h
    exact x_i C M dX6_wipe_26
theorem cp_X6_doRestart : CPv yX6_doRestart cX6_doRestart 2 (some .int) RX6 1 := ⟨mw_1187, mw_64, mw_105, mw_1188, rfl, by decide, by decide, by decide +kernel⟩
set_option maxHeartbeats 4000000 in
set_option maxRecDepth 100000 in
theorem c_X6_doRestart {l : Launch} (hst : l.stackTraces = false) (g : GG) (A : Nat → Prop) (lay : Nat → Nat) {σ : RS} {σ' : RS} {r : Int32} {x1 : Int32}  (h : F_X6_doRestart σ x1 = some (σ', r)) : MI l yX6_doRestart cX6_doRestart 2 .int 0 0 0 0 [.ref (gm g 0), .int x1] (RH g A) g A lay σ σ' r := by
  unfold F_X6_doRestart at h
  refine e_i (own := RX6) (lo := [(0, .ref (gm g 0)), (1, .int x1)]) hst (plainFor_of_name (by decide)) rfl rfl (Nat.le_of_ble_eq_true rfl) ?_
  intro p e s m args below meth c C K M
  refine j_aload_n 1 C dX6_doRestart_0 0 rfl rfl ?_
  refine g_M 4 C K 4 (by decide) mw_967 rfl dX6_doRestart_1 rfl ?_
  refine j_iload_n 5 C dX6_doRestart_4 1 rfl rfl ?_
  refine j_iconst 6 C dX6_doRestart_5 ic_1 rfl ?_
  obtain ⟨hz101, h⟩ := gd_e h
  refine m_zst 7 C K ra_4 hz101 (by decide) dX6_doRestart_6 rfl (fun σ102 eσ102 => ?_)
  replace h := lt_e h σ102 eσ102
  refine j_aload_n 8 C dX6_doRestart_7 0 rfl rfl ?_
  refine g_M 11 C K 6 (by decide) mw_969 rfl dX6_doRestart_8 rfl ?_
  refine j_iload_n 12 C dX6_doRestart_11 1 rfl rfl ?_
  refine j_dup2 13 C dX6_doRestart_12 rfl rfl rfl ?_
  obtain ⟨hz103, h⟩ := gd_e h
  refine m_ild 14 C K ra_6 hz103 dX6_doRestart_13 rfl ?_
  refine j_iconst 15 C dX6_doRestart_14 ic_1 rfl ?_
  refine j_iadd 16 C dX6_doRestart_15 rfl ?_
  obtain ⟨hz104, h⟩ := gd_e h
  refine m_ist 17 C K ra_6 hz104 dX6_doRestart_16 rfl (fun σ105 eσ105 => ?_)
  replace h := lt_e h σ105 eσ105
  refine j_aload_n 18 C dX6_doRestart_17 0 rfl rfl ?_
  refine g_M 21 C K 6 (by decide) mw_969 rfl dX6_doRestart_18 rfl ?_
  refine j_iload_n 22 C dX6_doRestart_21 1 rfl rfl ?_
  obtain ⟨hz106, h⟩ := gd_e h
  refine m_ild 23 C K ra_6 hz106 dX6_doRestart_22 rfl ?_
  cases h
  exact x_i C M dX6_doRestart_23
theorem cp_X6_restart : CPv yX6_restart cX6_restart 2 (some .int) RX6 1 := ⟨mw_1182, mw_1183, mw_105, mw_1184, rfl, by decide, by decide, by decide +kernel⟩
set_option maxHeartbeats 4000000 in
set_option maxRecDepth 100000 in
theorem c_X6_restart {l : Launch} (hst : l.stackTraces = false) (g : GG) (A : Nat → Prop) (lay : Nat → Nat) {σ : RS} {σ' : RS} {r : Int32} {x1 : Int32}  (h : F_X6_restart σ x1 = some (σ', r)) : MI l yX6_restart cX6_restart 2 .int 3 65 0 0 [.ref (gm g 0), .int x1] (RH g A) g A lay σ σ' r := by
  unfold F_X6_restart at h
  refine e_i (own := RX6) (lo := [(0, .ref (gm g 0)), (1, .int x1)]) hst (plainFor_of_name (by decide)) rfl rfl (Nat.le_of_ble_eq_true rfl) ?_
  intro p e s m args below meth c C K M
  refine j_aload_n 1 C dX6_restart_0 0 rfl rfl ?_
  refine j_aload_n 2 C dX6_restart_1 0 rfl rfl ?_
  refine j_iload_n 3 C dX6_restart_2 1 rfl rfl ?_
  refine j_iconst 4 C dX6_restart_3 ic_0 rfl ?_
  obtain ⟨σ101, r102, hF, h⟩ := bd_e h
  refine k_Vi 7 C K (c_X6_upFault K.2.2.2 g A lay  hF) cp_X6_upFault (rv_M) mw_1157 dX6_restart_4 rfl rfl (Nat.le_of_ble_eq_true rfl) ⟨Nat.le_of_ble_eq_true rfl, Nat.le_of_ble_eq_true rfl⟩ ⟨Nat.le_of_ble_eq_true rfl, Nat.le_of_ble_eq_true rfl⟩ rfl (fun lay => ?_)
  refine p_M 10 C K 0 (by decide) rs_0 rfl mw_963 rfl rfl dX6_restart_7 rfl (fun σ103 eσ103 => ?_)
  replace h := lt_e h σ103 eσ103
  refine j_aload_n 11 C dX6_restart_10 0 rfl rfl ?_
  refine g_M 14 C K 0 (by decide) mw_963 rfl dX6_restart_11 rfl ?_
  refine j_if_le 17 21 C dX6_restart_14 (by decide) rfl (fun hc104 => ?_) (fun hc104 => ?_)
  · replace h := it_t hc104 h
    refine j_aload_n 22 C dX6_restart_21 0 rfl rfl ?_
    refine j_iload_n 23 C dX6_restart_22 1 rfl rfl ?_
    obtain ⟨σ105, r106, hF, h⟩ := bd_e h
    refine k_Vi 26 C K (c_X6_doRestart K.2.2.2 g A lay  hF) cp_X6_doRestart (rv_M) mw_1185 dX6_restart_23 rfl rfl (Nat.le_of_ble_eq_true rfl) ⟨Nat.le_of_ble_eq_true rfl, Nat.le_of_ble_eq_true rfl⟩ ⟨Nat.le_of_ble_eq_true rfl, Nat.le_of_ble_eq_true rfl⟩ rfl (fun lay => ?_)
    cases h
    exact x_i C M dX6_restart_26
  · replace h := it_f hc104 h
    refine j_iconst 18 C dX6_restart_17 ic_0 rfl ?_
    refine j_goto 26 C dX6_restart_18 (by decide) ?_
    cases h
    exact x_i C M dX6_restart_26
theorem cp_X6_read : CPv yX6_read cX6_read 4 none RX6 2 := ⟨mw_1203, mw_67, mw_105, mw_1204, rfl, by decide, by decide, by decide +kernel⟩
set_option maxHeartbeats 4000000 in
set_option maxRecDepth 100000 in
theorem wn_X6_read_128 {l : Launch} {p : Program} {e : Env} {s : State} {m : MethodId} {args : Array Value} {below : List Frame} {meth : Method} {c : Code} {g : GG} {A : Nat → Prop} (C : KX p m c cX6_read 4 s args RX6) (K : KC l g A s) (M : KM meth none) {σ' : RS} {r : Unit} {x1 : Int32} {x2 : Int32}   {self49 : RS → Int32 → Option (RS × Unit)} (ih49 : ∀ (lay : Nat → Nat) (σ : RS) (v3 : Int32), self49 σ v3 = some (σ', r) → JJ p l e (rmk 1 22 0 0) s m args below meth c (MQ below (va_Qv (fun u : RS => u = σ') (BC (RH g A)) A) args s 0 0 A) A 4 (RH g A lay σ) 0 0 49 [(0, .ref (gm g 0)), (1, .int x1), (2, .int x2), (3, .int v3)] []) (lay : Nat → Nat) (σ : RS) (v3 : Int32)  (h : B_X6_read_128 x1 x2 self49 σ v3 = some (σ', r)) : JJ p l e (rmk 1 22 0 0) s m args below meth c (MQ below (va_Qv (fun u : RS => u = σ') (BC (RH g A)) A) args s 0 0 A) A 4 (RH g A lay σ) 0 0 128 [(0, .ref (gm g 0)), (1, .int x1), (2, .int x2), (3, .int v3)] [] := by
  unfold B_X6_read_128 at h
  obtain ⟨x134, ex134⟩ : ∃ z : Int32, z = v3 + 1 := ⟨_, rfl⟩
  replace h := lt_e h x134 ex134
  refine j_iinc 131 C dX6_read_128 3 rfl (v := x134) ((ii_1 _).trans ex134.symm) (lo' := [(3, .int x134), (0, .ref (gm g 0)), (1, .int x1), (2, .int x2)]) (by decide) rfl rfl ?_
  refine j_goto 49 C dX6_read_131 (by decide) ?_
  refine j_sub [1, 2, 3, 0] (lo' := [(0, .ref (gm g 0)), (1, .int x1), (2, .int x2), (3, .int x134)]) rfl ?_
  exact ih49 lay σ x134 h
set_option maxHeartbeats 4000000 in
set_option maxRecDepth 100000 in
theorem wn_X6_read_49 {l : Launch} {p : Program} {e : Env} {s : State} {m : MethodId} {args : Array Value} {below : List Frame} {meth : Method} {c : Code} {g : GG} {A : Nat → Prop} (C : KX p m c cX6_read 4 s args RX6) (K : KC l g A s) (M : KM meth none) {σ' : RS} {r : Unit} {x1 : Int32} {x2 : Int32}     : ∀ (fu : Nat) (lay : Nat → Nat) (σ : RS) (v3 : Int32), B_X6_read_49 x1 x2 fu σ v3 = some (σ', r) → JJ p l e (rmk 1 22 0 0) s m args below meth c (MQ below (va_Qv (fun u : RS => u = σ') (BC (RH g A)) A) args s 0 0 A) A 4 (RH g A lay σ) 0 0 49 [(0, .ref (gm g 0)), (1, .int x1), (2, .int x2), (3, .int v3)] [] := by
  intro fu
  induction fu with
  | zero =>
    intro lay σ v3 h
    exact nomatch (show (none : Option _) = some _ from h)
  | succ fu ih49 =>
    intro lay σ v3 h
    unfold B_X6_read_49 at h
    rw [lo2_s] at h
    refine j_iload_n 50 C dX6_read_49 3 rfl rfl ?_
    refine j_aload_n 51 C dX6_read_50 0 rfl rfl ?_
    refine g_M 54 C K 2 (by decide) mw_965 rfl dX6_read_51 rfl ?_
    refine j_icmp_ge 57 134 C dX6_read_54 (by decide) rfl (fun hc111 => ?_) (fun hc111 => ?_)
    · replace h := it_t hc111 h
      cases h
      exact x_v C M dX6_read_134
    · replace h := it_f hc111 h
      refine j_aload_n 58 C dX6_read_57 0 rfl rfl ?_
      refine g_M 61 C K 12 (by decide) mw_975 rfl dX6_read_58 rfl ?_
      refine j_iload_n 62 C dX6_read_61 2 rfl rfl ?_
      refine j_iload_n 63 C dX6_read_62 3 rfl rfl ?_
      obtain ⟨σ112, r113, hF, h⟩ := bd_e h
      refine k_Si 66 C K (c_X6_at K.2.2.2 g A lay  hF) cp_X6_at mw_956 dX6_read_63 rfl rfl (Nat.le_of_ble_eq_true rfl) ⟨Nat.le_of_ble_eq_true rfl, Nat.le_of_ble_eq_true rfl⟩ ⟨Nat.le_of_ble_eq_true rfl, Nat.le_of_ble_eq_true rfl⟩ rfl (fun lay => ?_)
      obtain ⟨hz114, h⟩ := gd_e h
      refine m_ild 67 C K ra_12 hz114 dX6_read_66 rfl ?_
      refine j_aload_n 68 C dX6_read_67 0 rfl rfl ?_
      refine g_M 71 C K 29 (by decide) mw_992 rfl dX6_read_68 rfl ?_
      refine j_iload_n 72 C dX6_read_71 3 rfl rfl ?_
      obtain ⟨hz115, h⟩ := gd_e h
      refine m_ild 73 C K ra_29 hz115 dX6_read_72 rfl ?_
      refine j_icmp_le 76 128 C dX6_read_73 (by decide) rfl (fun hc116 => ?_) (fun hc116 => ?_)
      · replace h := it_t hc116 h
        exact wn_X6_read_128 C K M ih49 lay σ112 v3 h
      · replace h := it_f hc116 h
        refine j_aload_n 77 C dX6_read_76 0 rfl rfl ?_
        refine g_M 80 C K 29 (by decide) mw_992 rfl dX6_read_77 rfl ?_
        refine j_iload_n 81 C dX6_read_80 3 rfl rfl ?_
        refine j_aload_n 82 C dX6_read_81 0 rfl rfl ?_
        refine g_M 85 C K 12 (by decide) mw_975 rfl dX6_read_82 rfl ?_
        refine j_iload_n 86 C dX6_read_85 2 rfl rfl ?_
        refine j_iload_n 87 C dX6_read_86 3 rfl rfl ?_
        obtain ⟨σ117, r118, hF, h⟩ := bd_e h
        refine k_Si 90 C K (c_X6_at K.2.2.2 g A lay  hF) cp_X6_at mw_956 dX6_read_87 rfl rfl (Nat.le_of_ble_eq_true rfl) ⟨Nat.le_of_ble_eq_true rfl, Nat.le_of_ble_eq_true rfl⟩ ⟨Nat.le_of_ble_eq_true rfl, Nat.le_of_ble_eq_true rfl⟩ rfl (fun lay => ?_)
        obtain ⟨hz119, h⟩ := gd_e h
        refine m_ild 91 C K ra_12 hz119 dX6_read_90 rfl ?_
        obtain ⟨hz120, h⟩ := gd_e h
        refine m_ist 92 C K ra_29 hz120 dX6_read_91 rfl (fun σ121 eσ121 => ?_)
        replace h := lt_e h σ121 eσ121
        refine j_aload_n 93 C dX6_read_92 0 rfl rfl ?_
        refine g_M 96 C K 9 (by decide) mw_972 rfl dX6_read_93 rfl ?_
        refine j_iload_n 97 C dX6_read_96 1 rfl rfl ?_
        refine j_iload_n 98 C dX6_read_97 3 rfl rfl ?_
        obtain ⟨σ122, r123, hF, h⟩ := bd_e h
        refine k_Si 101 C K (c_X6_at K.2.2.2 g A lay  hF) cp_X6_at mw_956 dX6_read_98 rfl rfl (Nat.le_of_ble_eq_true rfl) ⟨Nat.le_of_ble_eq_true rfl, Nat.le_of_ble_eq_true rfl⟩ ⟨Nat.le_of_ble_eq_true rfl, Nat.le_of_ble_eq_true rfl⟩ rfl (fun lay => ?_)
        refine j_aload_n 102 C dX6_read_101 0 rfl rfl ?_
        refine g_M 105 C K 29 (by decide) mw_992 rfl dX6_read_102 rfl ?_
        refine j_iload_n 106 C dX6_read_105 3 rfl rfl ?_
        obtain ⟨hz124, h⟩ := gd_e h
        refine m_ild 107 C K ra_29 hz124 dX6_read_106 rfl ?_
        obtain ⟨hz125, h⟩ := gd_e h
        refine m_ist 108 C K ra_9 hz125 dX6_read_107 rfl (fun σ126 eσ126 => ?_)
        replace h := lt_e h σ126 eσ126
        refine j_aload_n 109 C dX6_read_108 0 rfl rfl ?_
        refine g_M 112 C K 10 (by decide) mw_973 rfl dX6_read_109 rfl ?_
        refine j_iload_n 113 C dX6_read_112 1 rfl rfl ?_
        refine j_iload_n 114 C dX6_read_113 3 rfl rfl ?_
        obtain ⟨σ127, r128, hF, h⟩ := bd_e h
        refine k_Si 117 C K (c_X6_at K.2.2.2 g A lay  hF) cp_X6_at mw_956 dX6_read_114 rfl rfl (Nat.le_of_ble_eq_true rfl) ⟨Nat.le_of_ble_eq_true rfl, Nat.le_of_ble_eq_true rfl⟩ ⟨Nat.le_of_ble_eq_true rfl, Nat.le_of_ble_eq_true rfl⟩ rfl (fun lay => ?_)
        refine j_aload_n 118 C dX6_read_117 0 rfl rfl ?_
        refine g_M 121 C K 13 (by decide) mw_976 rfl dX6_read_118 rfl ?_
        refine j_iload_n 122 C dX6_read_121 2 rfl rfl ?_
        refine j_iload_n 123 C dX6_read_122 3 rfl rfl ?_
        obtain ⟨σ129, r130, hF, h⟩ := bd_e h
        refine k_Si 126 C K (c_X6_at K.2.2.2 g A lay  hF) cp_X6_at mw_956 dX6_read_123 rfl rfl (Nat.le_of_ble_eq_true rfl) ⟨Nat.le_of_ble_eq_true rfl, Nat.le_of_ble_eq_true rfl⟩ ⟨Nat.le_of_ble_eq_true rfl, Nat.le_of_ble_eq_true rfl⟩ rfl (fun lay => ?_)
        obtain ⟨hz131, h⟩ := gd_e h
        refine m_ild 127 C K ra_13 hz131 dX6_read_126 rfl ?_
        obtain ⟨hz132, h⟩ := gd_e h
        refine m_ist 128 C K ra_10 hz132 dX6_read_127 rfl (fun σ133 eσ133 => ?_)
        replace h := lt_e h σ133 eσ133
        exact wn_X6_read_128 C K M ih49 lay σ133 v3 h
set_option maxHeartbeats 4000000 in
set_option maxRecDepth 100000 in
theorem wn_X6_read_35 {l : Launch} {p : Program} {e : Env} {s : State} {m : MethodId} {args : Array Value} {below : List Frame} {meth : Method} {c : Code} {g : GG} {A : Nat → Prop} (C : KX p m c cX6_read 4 s args RX6) (K : KC l g A s) (M : KM meth none) {σ' : RS} {r : Unit} {x1 : Int32} {x2 : Int32}     (lay : Nat → Nat) (σ : RS) (w0 : Int32) (w1 : Int32)  (h : B_X6_read_35 x1 x2 σ w0 w1 = some (σ', r)) : JJ p l e (rmk 1 22 0 0) s m args below meth c (MQ below (va_Qv (fun u : RS => u = σ') (BC (RH g A)) A) args s 0 0 A) A 4 (RH g A lay σ) 0 0 35 [(0, .ref (gm g 0)), (1, .int x1), (2, .int x2)] [.int w0, .int w1, .ref (gm g 5)] := by
  unfold B_X6_read_35 at h
  obtain ⟨hz106, h⟩ := gd_e h
  refine m_ist 36 C K ra_8 hz106 dX6_read_35 rfl (fun σ107 eσ107 => ?_)
  replace h := lt_e h σ107 eσ107
  refine j_aload_n 37 C dX6_read_36 0 rfl rfl ?_
  refine j_iload_n 38 C dX6_read_37 1 rfl rfl ?_
  refine j_aload_n 39 C dX6_read_38 0 rfl rfl ?_
  refine g_M 42 C K 11 (by decide) mw_974 rfl dX6_read_39 rfl ?_
  refine j_iload_n 43 C dX6_read_42 2 rfl rfl ?_
  obtain ⟨hz108, h⟩ := gd_e h
  refine m_ild 44 C K ra_11 hz108 dX6_read_43 rfl ?_
  obtain ⟨σ109, u110, hF, h⟩ := bd_e h
  refine k_Vv 47 C K (c_X6_tell K.2.2.2 g A lay  hF) cp_X6_tell (rv_M) mw_1109 dX6_read_44 rfl rfl (Nat.le_of_ble_eq_true rfl) ⟨Nat.le_of_ble_eq_true rfl, Nat.le_of_ble_eq_true rfl⟩ ⟨Nat.le_of_ble_eq_true rfl, Nat.le_of_ble_eq_true rfl⟩ rfl (fun lay => ?_)
  refine j_iconst 48 C dX6_read_47 ic_0 rfl ?_
  refine j_istore_n 49 C dX6_read_48 (lo' := [(3, .int (0 : Int32)), (0, .ref (gm g 0)), (1, .int x1), (2, .int x2)]) (by decide) rfl rfl ?_
  refine j_sub [1, 2, 3, 0] (lo' := [(0, .ref (gm g 0)), (1, .int x1), (2, .int x2), (3, .int (0 : Int32))]) rfl ?_
  exact wn_X6_read_49 C K M  4096 lay σ109 (0 : Int32) h
set_option maxHeartbeats 4000000 in
set_option maxRecDepth 100000 in
theorem c_X6_read {l : Launch} (hst : l.stackTraces = false) (g : GG) (A : Nat → Prop) (lay : Nat → Nat) {σ : RS} {σ' : RS} {r : Unit} {x1 : Int32} {x2 : Int32}  (h : F_X6_read σ x1 x2 = some (σ', r)) : MV l yX6_read cX6_read 4 1 22 0 0 [.ref (gm g 0), .int x1, .int x2] (RH g A) g A lay σ σ' := by
  unfold F_X6_read at h
  refine e_v (own := RX6) (lo := [(0, .ref (gm g 0)), (1, .int x1), (2, .int x2)]) hst (plainFor_of_name (by decide)) rfl rfl (Nat.le_of_ble_eq_true rfl) ?_
  intro p e s m args below meth c C K M
  refine j_aload_n 1 C dX6_read_0 0 rfl rfl ?_
  refine g_M 4 C K 8 (by decide) mw_971 rfl dX6_read_1 rfl ?_
  refine j_iload_n 5 C dX6_read_4 1 rfl rfl ?_
  refine j_aload_n 6 C dX6_read_5 0 rfl rfl ?_
  refine g_M 9 C K 11 (by decide) mw_974 rfl dX6_read_6 rfl ?_
  refine j_iload_n 10 C dX6_read_9 2 rfl rfl ?_
  obtain ⟨hz101, h⟩ := gd_e h
  refine m_ild 11 C K ra_11 hz101 dX6_read_10 rfl ?_
  refine j_aload_n 12 C dX6_read_11 0 rfl rfl ?_
  refine g_M 15 C K 8 (by decide) mw_971 rfl dX6_read_12 rfl ?_
  refine j_iload_n 16 C dX6_read_15 1 rfl rfl ?_
  obtain ⟨hz102, h⟩ := gd_e h
  refine m_ild 17 C K ra_8 hz102 dX6_read_16 rfl ?_
  refine j_icmp_le 20 29 C dX6_read_17 (by decide) rfl (fun hc103 => ?_) (fun hc103 => ?_)
  · replace h := it_t hc103 h
    refine j_aload_n 30 C dX6_read_29 0 rfl rfl ?_
    refine g_M 33 C K 8 (by decide) mw_971 rfl dX6_read_30 rfl ?_
    refine j_iload_n 34 C dX6_read_33 1 rfl rfl ?_
    obtain ⟨hz104, h⟩ := gd_e h
    refine m_ild 35 C K ra_8 hz104 dX6_read_34 rfl ?_
    exact wn_X6_read_35 C K M  lay σ (σ.1 8 (tn x1)) x1 h
  · replace h := it_f hc103 h
    refine j_aload_n 21 C dX6_read_20 0 rfl rfl ?_
    refine g_M 24 C K 11 (by decide) mw_974 rfl dX6_read_21 rfl ?_
    refine j_iload_n 25 C dX6_read_24 2 rfl rfl ?_
    obtain ⟨hz105, h⟩ := gd_e h
    refine m_ild 26 C K ra_11 hz105 dX6_read_25 rfl ?_
    refine j_goto 35 C dX6_read_26 (by decide) ?_
    exact wn_X6_read_35 C K M  lay σ (σ.1 11 (tn x2)) x1 h
theorem cp_X6_doJoin : CPv yX6_doJoin cX6_doJoin 5 (some .int) RX6 2 := ⟨mw_1199, mw_66, mw_105, mw_1200, rfl, by decide, by decide, by decide +kernel⟩
set_option maxHeartbeats 4000000 in
set_option maxRecDepth 100000 in
theorem wn_X6_doJoin_119 {l : Launch} {p : Program} {e : Env} {s : State} {m : MethodId} {args : Array Value} {below : List Frame} {meth : Method} {c : Code} {g : GG} {A : Nat → Prop} (C : KX p m c cX6_doJoin 5 s args RX6) (K : KC l g A s) (M : KM meth (some .int)) {σ' : RS} {r : Int32} {x1 : Int32} {x2 : Int32}   {self87 : RS → Int32 → Int32 → Option (RS × Int32)} (ih87 : ∀ (lay : Nat → Nat) (σ : RS) (v3 : Int32) (v4 : Int32), self87 σ v3 v4 = some (σ', r) → JJ p l e (rmk 2 45 0 0) s m args below meth c (MQ below (va_Qi (fun (r0 : Int32) (u : RS) => r0 = r ∧ u = σ') (BC (RH g A)) A) args s 0 0 A) A 5 (RH g A lay σ) 0 0 87 [(0, .ref (gm g 0)), (1, .int x1), (2, .int x2), (3, .int v3), (4, .int v4)] []) (lay : Nat → Nat) (σ : RS) (v3 : Int32) (v4 : Int32)  (h : B_X6_doJoin_119 x1 x2 self87 σ v3 v4 = some (σ', r)) : JJ p l e (rmk 2 45 0 0) s m args below meth c (MQ below (va_Qi (fun (r0 : Int32) (u : RS) => r0 = r ∧ u = σ') (BC (RH g A)) A) args s 0 0 A) A 5 (RH g A lay σ) 0 0 119 [(0, .ref (gm g 0)), (1, .int x1), (2, .int x2), (3, .int v3), (4, .int v4)] [] := by
  unfold B_X6_doJoin_119 at h
  obtain ⟨x128, ex128⟩ : ∃ z : Int32, z = v4 + 1 := ⟨_, rfl⟩
  replace h := lt_e h x128 ex128
  refine j_iinc 122 C dX6_doJoin_119 4 rfl (v := x128) ((ii_1 _).trans ex128.symm) (lo' := [(4, .int x128), (0, .ref (gm g 0)), (1, .int x1), (2, .int x2), (3, .int v3)]) (by decide) rfl rfl ?_
  refine j_goto 87 C dX6_doJoin_122 (by decide) ?_
  refine j_sub [1, 2, 3, 4, 0] (lo' := [(0, .ref (gm g 0)), (1, .int x1), (2, .int x2), (3, .int v3), (4, .int x128)]) rfl ?_
  exact ih87 lay σ v3 x128 h
set_option maxHeartbeats 4000000 in
set_option maxRecDepth 100000 in
theorem wn_X6_doJoin_87 {l : Launch} {p : Program} {e : Env} {s : State} {m : MethodId} {args : Array Value} {below : List Frame} {meth : Method} {c : Code} {g : GG} {A : Nat → Prop} (C : KX p m c cX6_doJoin 5 s args RX6) (K : KC l g A s) (M : KM meth (some .int)) {σ' : RS} {r : Int32} {x1 : Int32} {x2 : Int32}     : ∀ (fu : Nat) (lay : Nat → Nat) (σ : RS) (v3 : Int32) (v4 : Int32), B_X6_doJoin_87 x1 x2 fu σ v3 v4 = some (σ', r) → JJ p l e (rmk 2 45 0 0) s m args below meth c (MQ below (va_Qi (fun (r0 : Int32) (u : RS) => r0 = r ∧ u = σ') (BC (RH g A)) A) args s 0 0 A) A 5 (RH g A lay σ) 0 0 87 [(0, .ref (gm g 0)), (1, .int x1), (2, .int x2), (3, .int v3), (4, .int v4)] [] := by
  intro fu
  induction fu with
  | zero =>
    intro lay σ v3 v4 h
    exact nomatch (show (none : Option _) = some _ from h)
  | succ fu ih87 =>
    intro lay σ v3 v4 h
    unfold B_X6_doJoin_87 at h
    rw [lo3_s] at h
    refine j_iload 89 C dX6_doJoin_87 4 rfl rfl ?_
    refine j_aload_n 90 C dX6_doJoin_89 0 rfl rfl ?_
    refine g_M 93 C K 1 (by decide) mw_964 rfl dX6_doJoin_90 rfl ?_
    refine j_icmp_ge 96 125 C dX6_doJoin_93 (by decide) rfl (fun hc117 => ?_) (fun hc117 => ?_)
    · replace h := it_t hc117 h
      refine j_aload_n 126 C dX6_doJoin_125 0 rfl rfl ?_
      refine g_M 129 C K 5 (by decide) mw_968 rfl dX6_doJoin_126 rfl ?_
      refine j_iload_n 130 C dX6_doJoin_129 1 rfl rfl ?_
      refine j_iconst 131 C dX6_doJoin_130 ic_1 rfl ?_
      obtain ⟨hz118, h⟩ := gd_e h
      refine m_zst 132 C K ra_5 hz118 (by decide) dX6_doJoin_131 rfl (fun σ119 eσ119 => ?_)
      replace h := lt_e h σ119 eσ119
      refine j_aload_n 133 C dX6_doJoin_132 0 rfl rfl ?_
      refine j_iload_n 134 C dX6_doJoin_133 1 rfl rfl ?_
      obtain ⟨σ120, u121, hF, h⟩ := bd_e h
      refine k_Vv 137 C K (c_X6_showDisk K.2.2.2 g A lay  hF) cp_X6_showDisk (rv_M) mw_959 dX6_doJoin_134 rfl rfl (Nat.le_of_ble_eq_true rfl) ⟨Nat.le_of_ble_eq_true rfl, Nat.le_of_ble_eq_true rfl⟩ ⟨Nat.le_of_ble_eq_true rfl, Nat.le_of_ble_eq_true rfl⟩ rfl (fun lay => ?_)
      refine j_iload_n 138 C dX6_doJoin_137 3 rfl rfl ?_
      cases h
      exact x_i C M dX6_doJoin_138
    · replace h := it_f hc117 h
      refine j_iload 98 C dX6_doJoin_96 4 rfl rfl ?_
      refine j_iload_n 99 C dX6_doJoin_98 1 rfl rfl ?_
      refine j_icmp_eq 102 119 C dX6_doJoin_99 (by decide) rfl (fun hc122 => ?_) (fun hc122 => ?_)
      · replace h := it_t hc122 h
        exact wn_X6_doJoin_119 C K M ih87 lay σ v3 v4 h
      · replace h := it_f hc122 h
        refine j_aload_n 103 C dX6_doJoin_102 0 rfl rfl ?_
        refine j_iload 105 C dX6_doJoin_103 4 rfl rfl ?_
        refine j_iload_n 106 C dX6_doJoin_105 2 rfl rfl ?_
        obtain ⟨σ123, r124, hF, h⟩ := bd_e h
        refine k_Vi 109 C K (c_X6_gets K.2.2.2 g A lay  hF) cp_X6_gets (rv_M) mw_1113 dX6_doJoin_106 rfl rfl (Nat.le_of_ble_eq_true rfl) ⟨Nat.le_of_ble_eq_true rfl, Nat.le_of_ble_eq_true rfl⟩ ⟨Nat.le_of_ble_eq_true rfl, Nat.le_of_ble_eq_true rfl⟩ rfl (fun lay => ?_)
        refine j_if_eq 112 119 C dX6_doJoin_109 (by decide) rfl (fun hc125 => ?_) (fun hc125 => ?_)
        · replace h := it_t hc125 h
          exact wn_X6_doJoin_119 C K M ih87 lay σ123 v3 v4 h
        · replace h := it_f hc125 h
          refine j_aload_n 113 C dX6_doJoin_112 0 rfl rfl ?_
          refine j_iload_n 114 C dX6_doJoin_113 1 rfl rfl ?_
          refine j_iload 116 C dX6_doJoin_114 4 rfl rfl ?_
          obtain ⟨σ126, u127, hF, h⟩ := bd_e h
          refine k_Vv 119 C K (c_X6_read K.2.2.2 g A lay  hF) cp_X6_read (rv_M) mw_1201 dX6_doJoin_116 rfl rfl (Nat.le_of_ble_eq_true rfl) ⟨Nat.le_of_ble_eq_true rfl, Nat.le_of_ble_eq_true rfl⟩ ⟨Nat.le_of_ble_eq_true rfl, Nat.le_of_ble_eq_true rfl⟩ rfl (fun lay => ?_)
          exact wn_X6_doJoin_119 C K M ih87 lay σ126 v3 v4 h
set_option maxHeartbeats 4000000 in
set_option maxRecDepth 100000 in
theorem wn_X6_doJoin_64 {l : Launch} {p : Program} {e : Env} {s : State} {m : MethodId} {args : Array Value} {below : List Frame} {meth : Method} {c : Code} {g : GG} {A : Nat → Prop} (C : KX p m c cX6_doJoin 5 s args RX6) (K : KC l g A s) (M : KM meth (some .int)) {σ' : RS} {r : Int32} {x1 : Int32} {x2 : Int32}     : ∀ (fu : Nat) (lay : Nat → Nat) (σ : RS) (v3 : Int32) (v4 : Int32), B_X6_doJoin_64 x1 x2 fu σ v3 v4 = some (σ', r) → JJ p l e (rmk 2 45 0 0) s m args below meth c (MQ below (va_Qi (fun (r0 : Int32) (u : RS) => r0 = r ∧ u = σ') (BC (RH g A)) A) args s 0 0 A) A 5 (RH g A lay σ) 0 0 64 [(0, .ref (gm g 0)), (1, .int x1), (2, .int x2), (3, .int v3), (4, .int v4)] [] := by
  intro fu
  induction fu with
  | zero =>
    intro lay σ v3 v4 h
    exact nomatch (show (none : Option _) = some _ from h)
  | succ fu ih64 =>
    intro lay σ v3 v4 h
    unfold B_X6_doJoin_64 at h
    rw [lo3_s] at h
    refine j_iload 66 C dX6_doJoin_64 4 rfl rfl ?_
    refine j_iconst 67 C dX6_doJoin_66 ic_4 rfl ?_
    refine j_icmp_ge 70 84 C dX6_doJoin_67 (by decide) rfl (fun hc111 => ?_) (fun hc111 => ?_)
    · replace h := it_t hc111 h
      refine j_iconst 85 C dX6_doJoin_84 ic_0 rfl ?_
      refine j_istore 87 C dX6_doJoin_85 (lo' := [(4, .int (0 : Int32)), (0, .ref (gm g 0)), (1, .int x1), (2, .int x2), (3, .int v3)]) (by decide) rfl rfl ?_
      refine j_sub [1, 2, 3, 4, 0] (lo' := [(0, .ref (gm g 0)), (1, .int x1), (2, .int x2), (3, .int v3), (4, .int (0 : Int32))]) rfl ?_
      exact wn_X6_doJoin_87 C K M  4096 lay σ v3 (0 : Int32) h
    · replace h := it_f hc111 h
      refine j_aload_n 71 C dX6_doJoin_70 0 rfl rfl ?_
      refine g_M 74 C K 29 (by decide) mw_992 rfl dX6_doJoin_71 rfl ?_
      refine j_iload 76 C dX6_doJoin_74 4 rfl rfl ?_
      refine j_iconst 77 C dX6_doJoin_76 ic_0 rfl ?_
      obtain ⟨hz112, h⟩ := gd_e h
      refine m_ist 78 C K ra_29 hz112 dX6_doJoin_77 rfl (fun σ113 eσ113 => ?_)
      replace h := lt_e h σ113 eσ113
      obtain ⟨x114, ex114⟩ : ∃ z : Int32, z = v4 + 1 := ⟨_, rfl⟩
      replace h := lt_e h x114 ex114
      refine j_iinc 81 C dX6_doJoin_78 4 rfl (v := x114) ((ii_1 _).trans ex114.symm) (lo' := [(4, .int x114), (0, .ref (gm g 0)), (1, .int x1), (2, .int x2), (3, .int v3)]) (by decide) rfl rfl ?_
      refine j_goto 64 C dX6_doJoin_81 (by decide) ?_
      refine j_sub [1, 2, 3, 4, 0] (lo' := [(0, .ref (gm g 0)), (1, .int x1), (2, .int x2), (3, .int v3), (4, .int x114)]) rfl ?_
      exact ih64 lay σ113 v3 x114 h
set_option maxHeartbeats 4000000 in
set_option maxRecDepth 100000 in
theorem wn_X6_doJoin_36 {l : Launch} {p : Program} {e : Env} {s : State} {m : MethodId} {args : Array Value} {below : List Frame} {meth : Method} {c : Code} {g : GG} {A : Nat → Prop} (C : KX p m c cX6_doJoin 5 s args RX6) (K : KC l g A s) (M : KM meth (some .int)) {σ' : RS} {r : Int32} {x1 : Int32} {x2 : Int32}   {self5 : RS → Int32 → Int32 → Option (RS × Int32)} (ih5 : ∀ (lay : Nat → Nat) (σ : RS) (v3 : Int32) (v4 : Int32), self5 σ v3 v4 = some (σ', r) → JJ p l e (rmk 2 45 0 0) s m args below meth c (MQ below (va_Qi (fun (r0 : Int32) (u : RS) => r0 = r ∧ u = σ') (BC (RH g A)) A) args s 0 0 A) A 5 (RH g A lay σ) 0 0 5 [(0, .ref (gm g 0)), (1, .int x1), (2, .int x2), (3, .int v3), (4, .int v4)] []) (lay : Nat → Nat) (σ : RS) (v4 : Int32) (w0 : Int32) (w1 : Int32)  (h : B_X6_doJoin_36 x1 x2 self5 σ v4 w0 w1 = some (σ', r)) : JJ p l e (rmk 2 45 0 0) s m args below meth c (MQ below (va_Qi (fun (r0 : Int32) (u : RS) => r0 = r ∧ u = σ') (BC (RH g A)) A) args s 0 0 A) A 5 (RH g A lay σ) 0 0 36 [(0, .ref (gm g 0)), (1, .int x1), (2, .int x2), (4, .int v4)] [.int w0, .int w1] := by
  unfold B_X6_doJoin_36 at h
  refine j_iadd 37 C dX6_doJoin_36 rfl ?_
  refine j_topi (fun x115 ex115 => ?_)
  replace h := lt_e h x115 ex115
  refine j_istore_n 38 C dX6_doJoin_37 (lo' := [(3, .int x115), (0, .ref (gm g 0)), (1, .int x1), (2, .int x2), (4, .int v4)]) (by decide) rfl rfl ?_
  obtain ⟨x116, ex116⟩ : ∃ z : Int32, z = v4 + 1 := ⟨_, rfl⟩
  replace h := lt_e h x116 ex116
  refine j_iinc 41 C dX6_doJoin_38 4 rfl (v := x116) ((ii_1 _).trans ex116.symm) (lo' := [(4, .int x116), (3, .int x115), (0, .ref (gm g 0)), (1, .int x1), (2, .int x2)]) (by decide) rfl rfl ?_
  refine j_goto 5 C dX6_doJoin_41 (by decide) ?_
  refine j_sub [2, 3, 4, 1, 0] (lo' := [(0, .ref (gm g 0)), (1, .int x1), (2, .int x2), (3, .int x115), (4, .int x116)]) rfl ?_
  exact ih5 lay σ x115 x116 h
set_option maxHeartbeats 4000000 in
set_option maxRecDepth 100000 in
theorem wn_X6_doJoin_35 {l : Launch} {p : Program} {e : Env} {s : State} {m : MethodId} {args : Array Value} {below : List Frame} {meth : Method} {c : Code} {g : GG} {A : Nat → Prop} (C : KX p m c cX6_doJoin 5 s args RX6) (K : KC l g A s) (M : KM meth (some .int)) {σ' : RS} {r : Int32} {x1 : Int32} {x2 : Int32}   {self5 : RS → Int32 → Int32 → Option (RS × Int32)} (ih5 : ∀ (lay : Nat → Nat) (σ : RS) (v3 : Int32) (v4 : Int32), self5 σ v3 v4 = some (σ', r) → JJ p l e (rmk 2 45 0 0) s m args below meth c (MQ below (va_Qi (fun (r0 : Int32) (u : RS) => r0 = r ∧ u = σ') (BC (RH g A)) A) args s 0 0 A) A 5 (RH g A lay σ) 0 0 5 [(0, .ref (gm g 0)), (1, .int x1), (2, .int x2), (3, .int v3), (4, .int v4)] []) (lay : Nat → Nat) (σ : RS) (v4 : Int32) (w0 : Int32)  (h : B_X6_doJoin_35 x1 x2 self5 σ v4 w0 = some (σ', r)) : JJ p l e (rmk 2 45 0 0) s m args below meth c (MQ below (va_Qi (fun (r0 : Int32) (u : RS) => r0 = r ∧ u = σ') (BC (RH g A)) A) args s 0 0 A) A 5 (RH g A lay σ) 0 0 35 [(0, .ref (gm g 0)), (1, .int x1), (2, .int x2), (4, .int v4)] [.int w0] := by
  unfold B_X6_doJoin_35 at h
  refine j_iconst 36 C dX6_doJoin_35 ic_0 rfl ?_
  exact wn_X6_doJoin_36 C K M ih5 lay σ v4 (0 : Int32) w0 h
set_option maxHeartbeats 4000000 in
set_option maxRecDepth 100000 in
theorem wn_X6_doJoin_5 {l : Launch} {p : Program} {e : Env} {s : State} {m : MethodId} {args : Array Value} {below : List Frame} {meth : Method} {c : Code} {g : GG} {A : Nat → Prop} (C : KX p m c cX6_doJoin 5 s args RX6) (K : KC l g A s) (M : KM meth (some .int)) {σ' : RS} {r : Int32} {x1 : Int32} {x2 : Int32}     : ∀ (fu : Nat) (lay : Nat → Nat) (σ : RS) (v3 : Int32) (v4 : Int32), B_X6_doJoin_5 x1 x2 fu σ v3 v4 = some (σ', r) → JJ p l e (rmk 2 45 0 0) s m args below meth c (MQ below (va_Qi (fun (r0 : Int32) (u : RS) => r0 = r ∧ u = σ') (BC (RH g A)) A) args s 0 0 A) A 5 (RH g A lay σ) 0 0 5 [(0, .ref (gm g 0)), (1, .int x1), (2, .int x2), (3, .int v3), (4, .int v4)] [] := by
  intro fu
  induction fu with
  | zero =>
    intro lay σ v3 v4 h
    exact nomatch (show (none : Option _) = some _ from h)
  | succ fu ih5 =>
    intro lay σ v3 v4 h
    unfold B_X6_doJoin_5 at h
    rw [lo3_s] at h
    refine j_iload 7 C dX6_doJoin_5 4 rfl rfl ?_
    refine j_aload_n 8 C dX6_doJoin_7 0 rfl rfl ?_
    refine g_M 11 C K 1 (by decide) mw_964 rfl dX6_doJoin_8 rfl ?_
    refine j_icmp_ge 14 44 C dX6_doJoin_11 (by decide) rfl (fun hc101 => ?_) (fun hc101 => ?_)
    · replace h := it_t hc101 h
      refine j_iload_n 45 C dX6_doJoin_44 3 rfl rfl ?_
      refine j_aload_n 46 C dX6_doJoin_45 0 rfl rfl ?_
      obtain ⟨σ102, r103, hF, h⟩ := bd_e h
      refine k_Vi 49 C K (c_X6_q K.2.2.2 g A lay  hF) cp_X6_q (rv_M) mw_1129 dX6_doJoin_46 rfl rfl (Nat.le_of_ble_eq_true rfl) ⟨Nat.le_of_ble_eq_true rfl, Nat.le_of_ble_eq_true rfl⟩ ⟨Nat.le_of_ble_eq_true rfl, Nat.le_of_ble_eq_true rfl⟩ rfl (fun lay => ?_)
      refine j_icmp_ge 52 54 C dX6_doJoin_49 (by decide) rfl (fun hc104 => ?_) (fun hc104 => ?_)
      · replace h := it_t hc104 h
        refine j_aload_n 55 C dX6_doJoin_54 0 rfl rfl ?_
        refine g_M 58 C K 8 (by decide) mw_971 rfl dX6_doJoin_55 rfl ?_
        refine j_iload_n 59 C dX6_doJoin_58 1 rfl rfl ?_
        refine j_iconst 60 C dX6_doJoin_59 ic_0 rfl ?_
        obtain ⟨hz105, h⟩ := gd_e h
        refine m_ist 61 C K ra_8 hz105 dX6_doJoin_60 rfl (fun σ106 eσ106 => ?_)
        replace h := lt_e h σ106 eσ106
        refine j_iconst 62 C dX6_doJoin_61 ic_0 rfl ?_
        refine j_istore 64 C dX6_doJoin_62 (lo' := [(4, .int (0 : Int32)), (0, .ref (gm g 0)), (1, .int x1), (2, .int x2), (3, .int v3)]) (by decide) rfl rfl ?_
        refine j_sub [1, 2, 3, 4, 0] (lo' := [(0, .ref (gm g 0)), (1, .int x1), (2, .int x2), (3, .int v3), (4, .int (0 : Int32))]) rfl ?_
        exact wn_X6_doJoin_64 C K M  4096 lay σ106 v3 (0 : Int32) h
      · replace h := it_f hc104 h
        refine j_iload_n 53 C dX6_doJoin_52 3 rfl rfl ?_
        cases h
        exact x_i C M dX6_doJoin_53
    · replace h := it_f hc101 h
      refine j_iload_n 15 C dX6_doJoin_14 3 rfl rfl ?_
      refine j_iload 17 C dX6_doJoin_15 4 rfl rfl ?_
      refine j_iload_n 18 C dX6_doJoin_17 1 rfl rfl ?_
      refine j_icmp_eq 21 35 C dX6_doJoin_18 (by decide) rfl (fun hc107 => ?_) (fun hc107 => ?_)
      · replace h := it_t hc107 h
        refine j_sub [0, 1, 2, 4] (lo' := [(0, .ref (gm g 0)), (1, .int x1), (2, .int x2), (4, .int v4)]) rfl ?_
        exact wn_X6_doJoin_35 C K M ih5 lay σ v4 v3 h
      · replace h := it_f hc107 h
        refine j_aload_n 22 C dX6_doJoin_21 0 rfl rfl ?_
        refine j_iload 24 C dX6_doJoin_22 4 rfl rfl ?_
        refine j_iload_n 25 C dX6_doJoin_24 2 rfl rfl ?_
        obtain ⟨σ108, r109, hF, h⟩ := bd_e h
        refine k_Vi 28 C K (c_X6_gets K.2.2.2 g A lay  hF) cp_X6_gets (rv_M) mw_1113 dX6_doJoin_25 rfl rfl (Nat.le_of_ble_eq_true rfl) ⟨Nat.le_of_ble_eq_true rfl, Nat.le_of_ble_eq_true rfl⟩ ⟨Nat.le_of_ble_eq_true rfl, Nat.le_of_ble_eq_true rfl⟩ rfl (fun lay => ?_)
        refine j_if_eq 31 35 C dX6_doJoin_28 (by decide) rfl (fun hc110 => ?_) (fun hc110 => ?_)
        · replace h := it_t hc110 h
          refine j_sub [0, 1, 2, 4] (lo' := [(0, .ref (gm g 0)), (1, .int x1), (2, .int x2), (4, .int v4)]) rfl ?_
          exact wn_X6_doJoin_35 C K M ih5 lay σ108 v4 v3 h
        · replace h := it_f hc110 h
          refine j_iconst 32 C dX6_doJoin_31 ic_1 rfl ?_
          refine j_goto 36 C dX6_doJoin_32 (by decide) ?_
          refine j_sub [0, 1, 2, 4] (lo' := [(0, .ref (gm g 0)), (1, .int x1), (2, .int x2), (4, .int v4)]) rfl ?_
          exact wn_X6_doJoin_36 C K M ih5 lay σ108 v4 (1 : Int32) v3 h
set_option maxHeartbeats 4000000 in
set_option maxRecDepth 100000 in
theorem c_X6_doJoin {l : Launch} (hst : l.stackTraces = false) (g : GG) (A : Nat → Prop) (lay : Nat → Nat) {σ : RS} {σ' : RS} {r : Int32} {x1 : Int32} {x2 : Int32}  (h : F_X6_doJoin σ x1 x2 = some (σ', r)) : MI l yX6_doJoin cX6_doJoin 5 .int 2 45 0 0 [.ref (gm g 0), .int x1, .int x2] (RH g A) g A lay σ σ' r := by
  unfold F_X6_doJoin at h
  refine e_i (own := RX6) (lo := [(0, .ref (gm g 0)), (1, .int x1), (2, .int x2)]) hst (plainFor_of_name (by decide)) rfl rfl (Nat.le_of_ble_eq_true rfl) ?_
  intro p e s m args below meth c C K M
  refine j_iconst 1 C dX6_doJoin_0 ic_0 rfl ?_
  refine j_istore_n 2 C dX6_doJoin_1 (lo' := [(3, .int (0 : Int32)), (0, .ref (gm g 0)), (1, .int x1), (2, .int x2)]) (by decide) rfl rfl ?_
  refine j_iconst 3 C dX6_doJoin_2 ic_0 rfl ?_
  refine j_istore 5 C dX6_doJoin_3 (lo' := [(4, .int (0 : Int32)), (3, .int (0 : Int32)), (0, .ref (gm g 0)), (1, .int x1), (2, .int x2)]) (by decide) rfl rfl ?_
  refine j_sub [2, 3, 4, 1, 0] (lo' := [(0, .ref (gm g 0)), (1, .int x1), (2, .int x2), (3, .int (0 : Int32)), (4, .int (0 : Int32))]) rfl ?_
  exact wn_X6_doJoin_5 C K M  4096 lay σ (0 : Int32) (0 : Int32) h
theorem cp_X6_joinFault : CPv yX6_joinFault cX6_joinFault 3 (some .int) RX6 2 := ⟨mw_1195, mw_65, mw_105, mw_1196, rfl, by decide, by decide, by decide +kernel⟩
set_option maxHeartbeats 4000000 in
set_option maxRecDepth 100000 in
theorem wn_X6_joinFault_46 {l : Launch} {p : Program} {e : Env} {s : State} {m : MethodId} {args : Array Value} {below : List Frame} {meth : Method} {c : Code} {g : GG} {A : Nat → Prop} (C : KX p m c cX6_joinFault 3 s args RX6) (K : KC l g A s) (M : KM meth (some .int)) {σ' : RS} {r : Int32} {x1 : Int32} {x2 : Int32}     (lay : Nat → Nat) (σ : RS)   (h : B_X6_joinFault_46 x1 x2 σ  = some (σ', r)) : JJ p l e (rmk 2 43 0 0) s m args below meth c (MQ below (va_Qi (fun (r0 : Int32) (u : RS) => r0 = r ∧ u = σ') (BC (RH g A)) A) args s 0 0 A) A 3 (RH g A lay σ) 0 0 46 [] [] := by
  unfold B_X6_joinFault_46 at h
  refine j_iconst 47 C dX6_joinFault_46 ic_3 rfl ?_
  cases h
  exact x_i C M dX6_joinFault_47
set_option maxHeartbeats 4000000 in
set_option maxRecDepth 100000 in
theorem c_X6_joinFault {l : Launch} (hst : l.stackTraces = false) (g : GG) (A : Nat → Prop) (lay : Nat → Nat) {σ : RS} {σ' : RS} {r : Int32} {x1 : Int32} {x2 : Int32}  (h : F_X6_joinFault σ x1 x2 = some (σ', r)) : MI l yX6_joinFault cX6_joinFault 3 .int 2 43 0 0 [.ref (gm g 0), .int x1, .int x2] (RH g A) g A lay σ σ' r := by
  unfold F_X6_joinFault at h
  refine e_i (own := RX6) (lo := [(0, .ref (gm g 0)), (1, .int x1), (2, .int x2)]) hst (plainFor_of_name (by decide)) rfl rfl (Nat.le_of_ble_eq_true rfl) ?_
  intro p e s m args below meth c C K M
  refine j_aload_n 1 C dX6_joinFault_0 0 rfl rfl ?_
  refine j_iload_n 2 C dX6_joinFault_1 1 rfl rfl ?_
  obtain ⟨σ101, r102, hF, h⟩ := bd_e h
  refine k_Vi 5 C K (c_X6_isNode K.2.2.2 g A lay  hF) cp_X6_isNode (rv_M) mw_1093 dX6_joinFault_2 rfl rfl (Nat.le_of_ble_eq_true rfl) ⟨Nat.le_of_ble_eq_true rfl, Nat.le_of_ble_eq_true rfl⟩ ⟨Nat.le_of_ble_eq_true rfl, Nat.le_of_ble_eq_true rfl⟩ rfl (fun lay => ?_)
  refine j_if_ne 8 12 C dX6_joinFault_5 (by decide) rfl (fun hc103 => ?_) (fun hc103 => ?_)
  · replace h := it_f hc103 h
    refine j_aload_n 13 C dX6_joinFault_12 0 rfl rfl ?_
    refine j_iload_n 14 C dX6_joinFault_13 2 rfl rfl ?_
    obtain ⟨σ104, r105, hF, h⟩ := bd_e h
    refine k_Vi 17 C K (c_X6_isSet K.2.2.2 g A lay  hF) cp_X6_isSet (rv_M) mw_1097 dX6_joinFault_14 rfl rfl (Nat.le_of_ble_eq_true rfl) ⟨Nat.le_of_ble_eq_true rfl, Nat.le_of_ble_eq_true rfl⟩ ⟨Nat.le_of_ble_eq_true rfl, Nat.le_of_ble_eq_true rfl⟩ rfl (fun lay => ?_)
    refine j_if_ne 20 24 C dX6_joinFault_17 (by decide) rfl (fun hc106 => ?_) (fun hc106 => ?_)
    · replace h := it_f hc106 h
      refine j_aload_n 25 C dX6_joinFault_24 0 rfl rfl ?_
      refine g_M 28 C K 4 (by decide) mw_967 rfl dX6_joinFault_25 rfl ?_
      refine j_iload_n 29 C dX6_joinFault_28 1 rfl rfl ?_
      obtain ⟨hz107, h⟩ := gd_e h
      refine m_zld 30 C K ra_4 hz107 dX6_joinFault_29 rfl ?_
      refine j_if_eq 33 46 C dX6_joinFault_30 (by decide) rfl (fun hc108 => ?_) (fun hc108 => ?_)
      · replace h := it_t hc108 h
        refine j_sub [] (lo' := []) rfl ?_
        exact wn_X6_joinFault_46 C K M  lay σ104  h
      · replace h := it_f hc108 h
        refine j_aload_n 34 C dX6_joinFault_33 0 rfl rfl ?_
        refine g_M 37 C K 5 (by decide) mw_968 rfl dX6_joinFault_34 rfl ?_
        refine j_iload_n 38 C dX6_joinFault_37 1 rfl rfl ?_
        obtain ⟨hz109, h⟩ := gd_e h
        refine m_zld 39 C K ra_5 hz109 dX6_joinFault_38 rfl ?_
        refine j_if_ne 42 46 C dX6_joinFault_39 (by decide) rfl (fun hc110 => ?_) (fun hc110 => ?_)
        · replace h := it_f hc110 h
          refine j_sub [] (lo' := []) rfl ?_
          exact wn_X6_joinFault_46 C K M  lay σ104  h
        · replace h := it_t hc110 h
          refine j_iconst 43 C dX6_joinFault_42 ic_0 rfl ?_
          refine j_goto 47 C dX6_joinFault_43 (by decide) ?_
          cases h
          exact x_i C M dX6_joinFault_47
    · replace h := it_t hc106 h
      refine j_iconst 21 C dX6_joinFault_20 ic_2 rfl ?_
      refine j_goto 47 C dX6_joinFault_21 (by decide) ?_
      cases h
      exact x_i C M dX6_joinFault_47
  · replace h := it_t hc103 h
    refine j_iconst 9 C dX6_joinFault_8 ic_1 rfl ?_
    refine j_goto 47 C dX6_joinFault_9 (by decide) ?_
    cases h
    exact x_i C M dX6_joinFault_47
theorem cp_X6_rejoin : CPv yX6_rejoin cX6_rejoin 3 (some .int) RX6 2 := ⟨mw_1190, mw_1191, mw_105, mw_1192, rfl, by decide, by decide, by decide +kernel⟩
set_option maxHeartbeats 4000000 in
set_option maxRecDepth 100000 in
theorem c_X6_rejoin {l : Launch} (hst : l.stackTraces = false) (g : GG) (A : Nat → Prop) (lay : Nat → Nat) {σ : RS} {σ' : RS} {r : Int32} {x1 : Int32} {x2 : Int32}  (h : F_X6_rejoin σ x1 x2 = some (σ', r)) : MI l yX6_rejoin cX6_rejoin 3 .int 3 69 0 0 [.ref (gm g 0), .int x1, .int x2] (RH g A) g A lay σ σ' r := by
  unfold F_X6_rejoin at h
  refine e_i (own := RX6) (lo := [(0, .ref (gm g 0)), (1, .int x1), (2, .int x2)]) hst (plainFor_of_name (by decide)) rfl rfl (Nat.le_of_ble_eq_true rfl) ?_
  intro p e s m args below meth c C K M
  refine j_aload_n 1 C dX6_rejoin_0 0 rfl rfl ?_
  refine j_aload_n 2 C dX6_rejoin_1 0 rfl rfl ?_
  refine j_iload_n 3 C dX6_rejoin_2 1 rfl rfl ?_
  refine j_iload_n 4 C dX6_rejoin_3 2 rfl rfl ?_
  obtain ⟨σ101, r102, hF, h⟩ := bd_e h
  refine k_Vi 7 C K (c_X6_joinFault K.2.2.2 g A lay  hF) cp_X6_joinFault (rv_M) mw_1193 dX6_rejoin_4 rfl rfl (Nat.le_of_ble_eq_true rfl) ⟨Nat.le_of_ble_eq_true rfl, Nat.le_of_ble_eq_true rfl⟩ ⟨Nat.le_of_ble_eq_true rfl, Nat.le_of_ble_eq_true rfl⟩ rfl (fun lay => ?_)
  refine p_M 10 C K 0 (by decide) rs_0 rfl mw_963 rfl rfl dX6_rejoin_7 rfl (fun σ103 eσ103 => ?_)
  replace h := lt_e h σ103 eσ103
  refine j_aload_n 11 C dX6_rejoin_10 0 rfl rfl ?_
  refine g_M 14 C K 0 (by decide) mw_963 rfl dX6_rejoin_11 rfl ?_
  refine j_if_le 17 21 C dX6_rejoin_14 (by decide) rfl (fun hc104 => ?_) (fun hc104 => ?_)
  · replace h := it_t hc104 h
    refine j_aload_n 22 C dX6_rejoin_21 0 rfl rfl ?_
    refine j_iload_n 23 C dX6_rejoin_22 1 rfl rfl ?_
    refine j_iload_n 24 C dX6_rejoin_23 2 rfl rfl ?_
    obtain ⟨σ105, r106, hF, h⟩ := bd_e h
    refine k_Vi 27 C K (c_X6_doJoin K.2.2.2 g A lay  hF) cp_X6_doJoin (rv_M) mw_1197 dX6_rejoin_24 rfl rfl (Nat.le_of_ble_eq_true rfl) ⟨Nat.le_of_ble_eq_true rfl, Nat.le_of_ble_eq_true rfl⟩ ⟨Nat.le_of_ble_eq_true rfl, Nat.le_of_ble_eq_true rfl⟩ rfl (fun lay => ?_)
    cases h
    exact x_i C M dX6_rejoin_27
  · replace h := it_f hc104 h
    refine j_iconst 18 C dX6_rejoin_17 ic_0 rfl ?_
    refine j_goto 27 C dX6_rejoin_18 (by decide) ?_
    cases h
    exact x_i C M dX6_rejoin_27
theorem cp_X6_append : CPv yX6_append cX6_append 2 (some .int) RX6 1 := ⟨mw_1206, mw_1207, mw_105, mw_1208, rfl, by decide, by decide, by decide +kernel⟩
set_option maxHeartbeats 4000000 in
set_option maxRecDepth 100000 in
theorem wn_X6_append_30 {l : Launch} {p : Program} {e : Env} {s : State} {m : MethodId} {args : Array Value} {below : List Frame} {meth : Method} {c : Code} {g : GG} {A : Nat → Prop} (C : KX p m c cX6_append 2 s args RX6) (K : KC l g A s) (M : KM meth (some .int)) {σ' : RS} {r : Int32} {x1 : Int32}     (lay : Nat → Nat) (σ : RS) (w0 : Int32)  (h : B_X6_append_30 x1 σ w0 = some (σ', r)) : JJ p l e (rmk 1 22 0 0) s m args below meth c (MQ below (va_Qi (fun (r0 : Int32) (u : RS) => r0 = r ∧ u = σ') (BC (RH g A)) A) args s 0 0 A) A 2 (RH g A lay σ) 0 0 30 [(0, .ref (gm g 0)), (1, .int x1)] [.int w0, .ref (gm g 0)] := by
  unfold B_X6_append_30 at h
  refine p_M 33 C K 0 (by decide) rs_0 rfl mw_963 rfl rfl dX6_append_30 rfl (fun σ105 eσ105 => ?_)
  replace h := lt_e h σ105 eσ105
  refine j_aload_n 34 C dX6_append_33 0 rfl rfl ?_
  refine g_M 37 C K 0 (by decide) mw_963 rfl dX6_append_34 rfl ?_
  refine j_if_le 40 42 C dX6_append_37 (by decide) rfl (fun hc106 => ?_) (fun hc106 => ?_)
  · replace h := it_t hc106 h
    refine j_aload_n 43 C dX6_append_42 0 rfl rfl ?_
    refine g_M 46 C K 28 (by decide) mw_991 rfl dX6_append_43 rfl ?_
    refine j_aload_n 47 C dX6_append_46 0 rfl rfl ?_
    refine g_M 50 C K 27 (by decide) mw_990 rfl dX6_append_47 rfl ?_
    refine j_iload_n 51 C dX6_append_50 1 rfl rfl ?_
    obtain ⟨hz107, h⟩ := gd_e h
    refine m_ist 52 C K ra_28 hz107 dX6_append_51 rfl (fun σ108 eσ108 => ?_)
    replace h := lt_e h σ108 eσ108
    refine j_aload_n 53 C dX6_append_52 0 rfl rfl ?_
    refine j_dup 54 C dX6_append_53 rfl rfl ?_
    refine g_M 57 C K 27 (by decide) mw_990 rfl dX6_append_54 rfl ?_
    refine j_iconst 58 C dX6_append_57 ic_1 rfl ?_
    refine j_iadd 59 C dX6_append_58 rfl ?_
    refine p_M 62 C K 27 (by decide) rs_27 rfl mw_990 rfl rfl dX6_append_59 rfl (fun σ109 eσ109 => ?_)
    replace h := lt_e h σ109 eσ109
    refine j_aload_n 63 C dX6_append_62 0 rfl rfl ?_
    refine g_M 66 C K 27 (by decide) mw_990 rfl dX6_append_63 rfl ?_
    cases h
    exact x_i C M dX6_append_66
  · replace h := it_f hc106 h
    refine j_iconst 41 C dX6_append_40 ic_0 rfl ?_
    cases h
    exact x_i C M dX6_append_41
set_option maxHeartbeats 4000000 in
set_option maxRecDepth 100000 in
theorem c_X6_append {l : Launch} (hst : l.stackTraces = false) (g : GG) (A : Nat → Prop) (lay : Nat → Nat) {σ : RS} {σ' : RS} {r : Int32} {x1 : Int32}  (h : F_X6_append σ x1 = some (σ', r)) : MI l yX6_append cX6_append 2 .int 1 22 0 0 [.ref (gm g 0), .int x1] (RH g A) g A lay σ σ' r := by
  unfold F_X6_append at h
  refine e_i (own := RX6) (lo := [(0, .ref (gm g 0)), (1, .int x1)]) hst (plainFor_of_name (by decide)) rfl rfl (Nat.le_of_ble_eq_true rfl) ?_
  intro p e s m args below meth c C K M
  refine j_aload_n 1 C dX6_append_0 0 rfl rfl ?_
  refine j_iload_n 2 C dX6_append_1 1 rfl rfl ?_
  refine j_bipush 4 C dX6_append_2 bp_32 rfl ?_
  refine j_bipush 6 C dX6_append_4 bp_126 rfl ?_
  obtain ⟨σ101, r102, hF, h⟩ := bd_e h
  refine k_Si 9 C K (c_X6_within K.2.2.2 g A lay  hF) cp_X6_within mw_1078 dX6_append_6 rfl rfl (Nat.le_of_ble_eq_true rfl) ⟨Nat.le_of_ble_eq_true rfl, Nat.le_of_ble_eq_true rfl⟩ ⟨Nat.le_of_ble_eq_true rfl, Nat.le_of_ble_eq_true rfl⟩ rfl (fun lay => ?_)
  refine j_if_ne 12 16 C dX6_append_9 (by decide) rfl (fun hc103 => ?_) (fun hc103 => ?_)
  · replace h := it_f hc103 h
    refine j_aload_n 17 C dX6_append_16 0 rfl rfl ?_
    refine g_M 20 C K 27 (by decide) mw_990 rfl dX6_append_17 rfl ?_
    refine j_bipush 22 C dX6_append_20 bp_60 rfl ?_
    refine j_icmp_ne 25 29 C dX6_append_22 (by decide) rfl (fun hc104 => ?_) (fun hc104 => ?_)
    · replace h := it_f hc104 h
      refine j_iconst 30 C dX6_append_29 ic_0 rfl ?_
      exact wn_X6_append_30 C K M  lay σ101 (0 : Int32) h
    · replace h := it_t hc104 h
      refine j_iconst 26 C dX6_append_25 ic_2 rfl ?_
      refine j_goto 30 C dX6_append_26 (by decide) ?_
      exact wn_X6_append_30 C K M  lay σ101 (2 : Int32) h
  · replace h := it_t hc103 h
    refine j_iconst 13 C dX6_append_12 ic_1 rfl ?_
    refine j_goto 30 C dX6_append_13 (by decide) ?_
    exact wn_X6_append_30 C K M  lay σ101 (1 : Int32) h
theorem cp_X6_clearInput : CPv yX6_clearInput cX6_clearInput 2 (some .int) RX6 0 := ⟨mw_1210, mw_1211, mw_105, mw_1212, rfl, by decide, by decide, by decide +kernel⟩
set_option maxHeartbeats 4000000 in
set_option maxRecDepth 100000 in
theorem c_X6_clearInput {l : Launch} (hst : l.stackTraces = false) (g : GG) (A : Nat → Prop) (lay : Nat → Nat) {σ : RS} {σ' : RS} {r : Int32}   (h : F_X6_clearInput σ  = some (σ', r)) : MI l yX6_clearInput cX6_clearInput 2 .int 0 0 0 0 [.ref (gm g 0)] (RH g A) g A lay σ σ' r := by
  unfold F_X6_clearInput at h
  refine e_i (own := RX6) (lo := [(0, .ref (gm g 0))]) hst (plainFor_of_name (by decide)) rfl rfl (Nat.le_of_ble_eq_true rfl) ?_
  intro p e s m args below meth c C K M
  refine j_aload_n 1 C dX6_clearInput_0 0 rfl rfl ?_
  refine j_iconst 2 C dX6_clearInput_1 ic_0 rfl ?_
  refine p_M 5 C K 0 (by decide) rs_0 rfl mw_963 rfl rfl dX6_clearInput_2 rfl (fun σ101 eσ101 => ?_)
  replace h := lt_e h σ101 eσ101
  refine j_aload_n 6 C dX6_clearInput_5 0 rfl rfl ?_
  refine g_M 9 C K 27 (by decide) mw_990 rfl dX6_clearInput_6 rfl ?_
  refine j_topi (fun x102 ex102 => ?_)
  replace h := lt_e h x102 ex102
  refine j_istore_n 10 C dX6_clearInput_9 (lo' := [(1, .int x102), (0, .ref (gm g 0))]) (by decide) rfl rfl ?_
  refine j_aload_n 11 C dX6_clearInput_10 1 rfl rfl ?_
  refine j_iconst 12 C dX6_clearInput_11 ic_0 rfl ?_
  refine p_M 15 C K 27 (by decide) rs_27 rfl mw_990 rfl rfl dX6_clearInput_12 rfl (fun σ103 eσ103 => ?_)
  replace h := lt_e h σ103 eσ103
  refine j_iload_n 16 C dX6_clearInput_15 0 rfl rfl ?_
  cases h
  exact x_i C M dX6_clearInput_16
theorem cp_X6_put : CPv yX6_put cX6_put 3 none RX6 2 := ⟨mw_1239, mw_73, mw_105, mw_1240, rfl, by decide, by decide, by decide +kernel⟩
set_option maxHeartbeats 4000000 in
set_option maxRecDepth 100000 in
theorem c_X6_put {l : Launch} (hst : l.stackTraces = false) (g : GG) (A : Nat → Prop) (lay : Nat → Nat) {σ : RS} {σ' : RS} {r : Unit} {x1 : Int32} {x2 : Int32}  (h : F_X6_put σ x1 x2 = some (σ', r)) : MV l yX6_put cX6_put 3 0 0 0 0 [.ref (gm g 0), .int x1, .int x2] (RH g A) g A lay σ σ' := by
  unfold F_X6_put at h
  refine e_v (own := RX6) (lo := [(0, .ref (gm g 0)), (1, .int x1), (2, .int x2)]) hst (plainFor_of_name (by decide)) rfl rfl (Nat.le_of_ble_eq_true rfl) ?_
  intro p e s m args below meth c C K M
  refine j_aload_n 1 C dX6_put_0 0 rfl rfl ?_
  refine g_M 4 C K 32 (by decide) mw_995 rfl dX6_put_1 rfl ?_
  refine j_iconst 5 C dX6_put_4 ic_5 rfl ?_
  refine j_aload_n 6 C dX6_put_5 0 rfl rfl ?_
  refine g_M 9 C K 31 (by decide) mw_994 rfl dX6_put_6 rfl ?_
  refine j_imul 10 C dX6_put_9 rfl ?_
  refine j_iload_n 11 C dX6_put_10 1 rfl rfl ?_
  refine j_iadd 12 C dX6_put_11 rfl ?_
  refine j_iload_n 13 C dX6_put_12 2 rfl rfl ?_
  obtain ⟨hz101, h⟩ := gd_e h
  refine m_ist 14 C K ra_32 hz101 dX6_put_13 rfl (fun σ102 eσ102 => ?_)
  replace h := lt_e h σ102 eσ102
  cases h
  exact x_v C M dX6_put_14
theorem cp_X6_go : CPv yX6_go cX6_go 3 (some .boolean) RX6 2 := ⟨mw_1231, mw_71, mw_105, mw_1232, rfl, by decide, by decide, by decide +kernel⟩
set_option maxHeartbeats 4000000 in
set_option maxRecDepth 100000 in
theorem wn_X6_go_13 {l : Launch} {p : Program} {e : Env} {s : State} {m : MethodId} {args : Array Value} {below : List Frame} {meth : Method} {c : Code} {g : GG} {A : Nat → Prop} (C : KX p m c cX6_go 3 s args RX6) (K : KC l g A s) (M : KM meth (some .boolean)) {σ' : RS} {r : Int32} {x1 : Int32} {x2 : Int32}     (lay : Nat → Nat) (σ : RS) (w0 : Int32)  (h : B_X6_go_13 x1 x2 σ w0 = some (σ', r)) : JJ p l e (rmk 0 0 0 0) s m args below meth c (MQ below (va_Qi (fun (r0 : Int32) (u : RS) => r0 = r ∧ u = σ') (BC (RH g A)) A) args s 0 0 A) A 3 (RH g A lay σ) 0 0 13 [(1, .int x1)] [.int w0, .ref (gm g 0)] := by
  unfold B_X6_go_13 at h
  refine p_M 16 C K 30 (by decide) rs_30 rfl mw_993 rfl rfl dX6_go_13 rfl (fun σ102 eσ102 => ?_)
  replace h := lt_e h σ102 eσ102
  refine j_iload_n 17 C dX6_go_16 0 rfl rfl ?_
  obtain ⟨hz103, h⟩ := gd_e h
  cases h
  exact x_z C M dX6_go_17 hz103
set_option maxHeartbeats 4000000 in
set_option maxRecDepth 100000 in
theorem c_X6_go {l : Launch} (hst : l.stackTraces = false) (g : GG) (A : Nat → Prop) (lay : Nat → Nat) {σ : RS} {σ' : RS} {r : Int32} {x1 : Int32} {x2 : Int32}  (h : F_X6_go σ x1 x2 = some (σ', r)) : MI l yX6_go cX6_go 3 .boolean 0 0 0 0 [.ref (gm g 0), .int x1, .int x2] (RH g A) g A lay σ σ' r := by
  unfold F_X6_go at h
  refine e_i (own := RX6) (lo := [(0, .ref (gm g 0)), (1, .int x1), (2, .int x2)]) hst (plainFor_of_name (by decide)) rfl rfl (Nat.le_of_ble_eq_true rfl) ?_
  intro p e s m args below meth c C K M
  refine j_aload_n 1 C dX6_go_0 0 rfl rfl ?_
  refine j_iload_n 2 C dX6_go_1 1 rfl rfl ?_
  refine j_if_eq 5 9 C dX6_go_2 (by decide) rfl (fun hc101 => ?_) (fun hc101 => ?_)
  · replace h := it_t hc101 h
    refine j_aload_n 10 C dX6_go_9 0 rfl rfl ?_
    refine g_M 13 C K 30 (by decide) mw_993 rfl dX6_go_10 rfl ?_
    refine j_sub [1] (lo' := [(1, .int x1)]) rfl ?_
    exact wn_X6_go_13 C K M  lay σ (σ.1 30 0) h
  · replace h := it_f hc101 h
    refine j_iload_n 6 C dX6_go_5 2 rfl rfl ?_
    refine j_goto 13 C dX6_go_6 (by decide) ?_
    refine j_sub [1] (lo' := [(1, .int x1)]) rfl ?_
    exact wn_X6_go_13 C K M  lay σ x2 h
