theorem cp_X6_protects : CPv yX6_protects cX6_protects 2 (some .boolean) RX6 1 := ⟨mw_1319, mw_87, mw_105, mw_1320, rfl, by decide, by decide, by decide +kernel⟩
set_option maxHeartbeats 4000000 in
set_option maxRecDepth 100000 in
theorem c_X6_protects {l : Launch} (hst : l.stackTraces = false) (g : GG) (A : Nat → Prop) (lay : Nat → Nat) {σ : RS} {σ' : RS} {r : Int32} {x1 : Int32}  (h : F_X6_protects σ x1 = some (σ', r)) : MI l yX6_protects cX6_protects 2 .boolean 1 20 0 0 [.ref (gm g 0), .int x1] (RH g A) g A lay σ σ' r := by
  unfold F_X6_protects at h
  refine e_i (own := RX6) (lo := [(0, .ref (gm g 0)), (1, .int x1)]) hst (plainFor_of_name (by decide)) rfl rfl (Nat.le_of_ble_eq_true rfl) ?_
  intro p e s m args below meth c C K M
  refine j_aload_n 1 C dX6_protects_0 0 rfl rfl ?_
  refine g_M 4 C K 1 (by decide) mw_964 rfl dX6_protects_1 rfl ?_
  refine j_iload_n 5 C dX6_protects_4 1 rfl rfl ?_
  refine j_isub 6 C dX6_protects_5 rfl ?_
  refine j_aload_n 7 C dX6_protects_6 0 rfl rfl ?_
  obtain ⟨σ101, r102, hF, h⟩ := bd_e h
  refine k_Vi 10 C K (c_X6_q K.2.2.2 g A lay  hF) cp_X6_q (rv_M) mw_1129 dX6_protects_7 rfl rfl (Nat.le_of_ble_eq_true rfl) ⟨Nat.le_of_ble_eq_true rfl, Nat.le_of_ble_eq_true rfl⟩ ⟨Nat.le_of_ble_eq_true rfl, Nat.le_of_ble_eq_true rfl⟩ rfl (fun lay => ?_)
  refine j_icmp_ge 13 17 C dX6_protects_10 (by decide) rfl (fun hc103 => ?_) (fun hc103 => ?_)
  · replace h := it_t hc103 h
    refine j_iconst 18 C dX6_protects_17 ic_0 rfl ?_
    cases h
    exact x_z C M dX6_protects_18 (by decide)
  · replace h := it_f hc103 h
    refine j_iconst 14 C dX6_protects_13 ic_1 rfl ?_
    refine j_goto 18 C dX6_protects_14 (by decide) ?_
    cases h
    exact x_z C M dX6_protects_18 (by decide)
theorem cp_X6_wouldHold : CPv yX6_wouldHold cX6_wouldHold 7 (some .boolean) RX6 3 := ⟨mw_1335, mw_89, mw_105, mw_1336, rfl, by decide, by decide, by decide +kernel⟩
set_option maxHeartbeats 4000000 in
set_option maxRecDepth 100000 in
theorem wn_X6_wouldHold_134 {l : Launch} {p : Program} {e : Env} {s : State} {m : MethodId} {args : Array Value} {below : List Frame} {meth : Method} {c : Code} {g : GG} {A : Nat → Prop} (C : KX p m c cX6_wouldHold 7 s args RX6) (K : KC l g A s) (M : KM meth (some .boolean)) {σ' : RS} {r : Int32} {x1 : Int32} {x2 : Int32} {x3 : Int32}     (lay : Nat → Nat) (σ : RS)   (h : B_X6_wouldHold_134 x1 x2 x3 σ  = some (σ', r)) : JJ p l e (rmk 1 21 0 0) s m args below meth c (MQ below (va_Qi (fun (r0 : Int32) (u : RS) => r0 = r ∧ u = σ') (BC (RH g A)) A) args s 0 0 A) A 7 (RH g A lay σ) 0 0 134 [] [] := by
  unfold B_X6_wouldHold_134 at h
  refine j_iconst 135 C dX6_wouldHold_134 ic_0 rfl ?_
  cases h
  exact x_z C M dX6_wouldHold_135 (by decide)
set_option maxHeartbeats 4000000 in
set_option maxRecDepth 100000 in
theorem wn_X6_wouldHold_91 {l : Launch} {p : Program} {e : Env} {s : State} {m : MethodId} {args : Array Value} {below : List Frame} {meth : Method} {c : Code} {g : GG} {A : Nat → Prop} (C : KX p m c cX6_wouldHold 7 s args RX6) (K : KC l g A s) (M : KM meth (some .boolean)) {σ' : RS} {r : Int32} {x1 : Int32} {x2 : Int32} {x3 : Int32}   {self31 : RS → Int32 → Int32 → Int32 → Option (RS × Int32)} (ih31 : ∀ (lay : Nat → Nat) (σ : RS) (v4 : Int32) (v5 : Int32) (v6 : Int32), self31 σ v4 v5 v6 = some (σ', r) → JJ p l e (rmk 1 21 0 0) s m args below meth c (MQ below (va_Qi (fun (r0 : Int32) (u : RS) => r0 = r ∧ u = σ') (BC (RH g A)) A) args s 0 0 A) A 7 (RH g A lay σ) 0 0 31 [(0, .ref (gm g 0)), (1, .int x1), (2, .int x2), (3, .int x3), (4, .int v4), (5, .int v5), (6, .int v6)] []) (lay : Nat → Nat) (σ : RS) (v4 : Int32) (v6 : Int32) (w0 : Int32)  (h : B_X6_wouldHold_91 x1 x2 x3 self31 σ v4 v6 w0 = some (σ', r)) : JJ p l e (rmk 1 21 0 0) s m args below meth c (MQ below (va_Qi (fun (r0 : Int32) (u : RS) => r0 = r ∧ u = σ') (BC (RH g A)) A) args s 0 0 A) A 7 (RH g A lay σ) 0 0 91 [(0, .ref (gm g 0)), (1, .int x1), (2, .int x2), (3, .int x3), (4, .int v4), (6, .int v6)] [.int w0] := by
  unfold B_X6_wouldHold_91 at h
  refine j_istore 93 C dX6_wouldHold_91 (lo' := [(5, .int w0), (0, .ref (gm g 0)), (1, .int x1), (2, .int x2), (3, .int x3), (4, .int v4), (6, .int v6)]) (by decide) rfl rfl ?_
  obtain ⟨x123, ex123⟩ : ∃ z : Int32, z = v6 + 1 := ⟨_, rfl⟩
  replace h := lt_e h x123 ex123
  refine j_iinc 96 C dX6_wouldHold_93 6 rfl (v := x123) ((ii_1 _).trans ex123.symm) (lo' := [(6, .int x123), (5, .int w0), (0, .ref (gm g 0)), (1, .int x1), (2, .int x2), (3, .int x3), (4, .int v4)]) (by decide) rfl rfl ?_
  refine j_goto 31 C dX6_wouldHold_96 (by decide) ?_
  refine j_sub [2, 3, 4, 5, 6, 1, 0] (lo' := [(0, .ref (gm g 0)), (1, .int x1), (2, .int x2), (3, .int x3), (4, .int v4), (5, .int w0), (6, .int x123)]) rfl ?_
  exact ih31 lay σ v4 w0 x123 h
set_option maxHeartbeats 4000000 in
set_option maxRecDepth 100000 in
theorem wn_X6_wouldHold_66 {l : Launch} {p : Program} {e : Env} {s : State} {m : MethodId} {args : Array Value} {below : List Frame} {meth : Method} {c : Code} {g : GG} {A : Nat → Prop} (C : KX p m c cX6_wouldHold 7 s args RX6) (K : KC l g A s) (M : KM meth (some .boolean)) {σ' : RS} {r : Int32} {x1 : Int32} {x2 : Int32} {x3 : Int32}   {self31 : RS → Int32 → Int32 → Int32 → Option (RS × Int32)} (ih31 : ∀ (lay : Nat → Nat) (σ : RS) (v4 : Int32) (v5 : Int32) (v6 : Int32), self31 σ v4 v5 v6 = some (σ', r) → JJ p l e (rmk 1 21 0 0) s m args below meth c (MQ below (va_Qi (fun (r0 : Int32) (u : RS) => r0 = r ∧ u = σ') (BC (RH g A)) A) args s 0 0 A) A 7 (RH g A lay σ) 0 0 31 [(0, .ref (gm g 0)), (1, .int x1), (2, .int x2), (3, .int x3), (4, .int v4), (5, .int v5), (6, .int v6)] []) (lay : Nat → Nat) (σ : RS) (v5 : Int32) (v6 : Int32) (w0 : Int32)  (h : B_X6_wouldHold_66 x1 x2 x3 self31 σ v5 v6 w0 = some (σ', r)) : JJ p l e (rmk 1 21 0 0) s m args below meth c (MQ below (va_Qi (fun (r0 : Int32) (u : RS) => r0 = r ∧ u = σ') (BC (RH g A)) A) args s 0 0 A) A 7 (RH g A lay σ) 0 0 66 [(0, .ref (gm g 0)), (1, .int x1), (2, .int x2), (3, .int x3), (5, .int v5), (6, .int v6)] [.int w0] := by
  unfold B_X6_wouldHold_66 at h
  refine j_istore 68 C dX6_wouldHold_66 (lo' := [(4, .int w0), (0, .ref (gm g 0)), (1, .int x1), (2, .int x2), (3, .int x3), (5, .int v5), (6, .int v6)]) (by decide) rfl rfl ?_
  refine j_aload_n 69 C dX6_wouldHold_68 1 rfl rfl ?_
  refine g_M 72 C K 15 (by decide) mw_978 rfl dX6_wouldHold_69 rfl ?_
  refine j_iload 74 C dX6_wouldHold_72 6 rfl rfl ?_
  obtain ⟨hz120, h⟩ := gd_e h
  refine m_ild 75 C K ra_15 hz120 dX6_wouldHold_74 rfl ?_
  refine j_iload_n 76 C dX6_wouldHold_75 3 rfl rfl ?_
  refine j_icmp_ne 79 89 C dX6_wouldHold_76 (by decide) rfl (fun hc121 => ?_) (fun hc121 => ?_)
  · replace h := it_f hc121 h
    refine j_iload 91 C dX6_wouldHold_89 5 rfl rfl ?_
    refine j_sub [1, 2, 3, 4, 0, 6] (lo' := [(0, .ref (gm g 0)), (1, .int x1), (2, .int x2), (3, .int x3), (4, .int w0), (6, .int v6)]) rfl ?_
    exact wn_X6_wouldHold_91 C K M ih31 lay σ w0 v6 v5 h
  · replace h := it_t hc121 h
    refine j_aload_n 80 C dX6_wouldHold_79 1 rfl rfl ?_
    refine g_M 83 C K 17 (by decide) mw_980 rfl dX6_wouldHold_80 rfl ?_
    refine j_iload 85 C dX6_wouldHold_83 6 rfl rfl ?_
    obtain ⟨hz122, h⟩ := gd_e h
    refine m_ild 86 C K ra_17 hz122 dX6_wouldHold_85 rfl ?_
    refine j_goto 91 C dX6_wouldHold_86 (by decide) ?_
    refine j_sub [1, 2, 3, 4, 0, 6] (lo' := [(0, .ref (gm g 0)), (1, .int x1), (2, .int x2), (3, .int x3), (4, .int w0), (6, .int v6)]) rfl ?_
    exact wn_X6_wouldHold_91 C K M ih31 lay σ w0 v6 (σ.1 17 (tn v6)) h
set_option maxHeartbeats 4000000 in
set_option maxRecDepth 100000 in
theorem wn_X6_wouldHold_31 {l : Launch} {p : Program} {e : Env} {s : State} {m : MethodId} {args : Array Value} {below : List Frame} {meth : Method} {c : Code} {g : GG} {A : Nat → Prop} (C : KX p m c cX6_wouldHold 7 s args RX6) (K : KC l g A s) (M : KM meth (some .boolean)) {σ' : RS} {r : Int32} {x1 : Int32} {x2 : Int32} {x3 : Int32}     : ∀ (fu : Nat) (lay : Nat → Nat) (σ : RS) (v4 : Int32) (v5 : Int32) (v6 : Int32), B_X6_wouldHold_31 x1 x2 x3 fu σ v4 v5 v6 = some (σ', r) → JJ p l e (rmk 1 21 0 0) s m args below meth c (MQ below (va_Qi (fun (r0 : Int32) (u : RS) => r0 = r ∧ u = σ') (BC (RH g A)) A) args s 0 0 A) A 7 (RH g A lay σ) 0 0 31 [(0, .ref (gm g 0)), (1, .int x1), (2, .int x2), (3, .int x3), (4, .int v4), (5, .int v5), (6, .int v6)] [] := by
  intro fu
  induction fu with
  | zero =>
    intro lay σ v4 v5 v6 h
    exact nomatch (show (none : Option _) = some _ from h)
  | succ fu ih31 =>
    intro lay σ v4 v5 v6 h
    unfold B_X6_wouldHold_31 at h
    rw [lo4_s] at h
    refine j_iload 33 C dX6_wouldHold_31 6 rfl rfl ?_
    refine j_sipush 36 C dX6_wouldHold_33 sp_2048 rfl ?_
    refine j_iload_n 37 C dX6_wouldHold_36 1 rfl rfl ?_
    refine j_imul 38 C dX6_wouldHold_37 rfl ?_
    refine j_iload_n 39 C dX6_wouldHold_38 3 rfl rfl ?_
    refine j_iadd 40 C dX6_wouldHold_39 rfl ?_
    refine j_icmp_ge 43 99 C dX6_wouldHold_40 (by decide) rfl (fun hc110 => ?_) (fun hc110 => ?_)
    · replace h := it_t hc110 h
      refine j_aload_n 100 C dX6_wouldHold_99 0 rfl rfl ?_
      refine g_M 103 C K 20 (by decide) mw_983 rfl dX6_wouldHold_100 rfl ?_
      refine j_iload_n 104 C dX6_wouldHold_103 2 rfl rfl ?_
      obtain ⟨hz111, h⟩ := gd_e h
      refine m_ild 105 C K ra_20 hz111 dX6_wouldHold_104 rfl ?_
      refine j_if_le 108 134 C dX6_wouldHold_105 (by decide) rfl (fun hc112 => ?_) (fun hc112 => ?_)
      · replace h := it_t hc112 h
        refine j_sub [] (lo' := []) rfl ?_
        exact wn_X6_wouldHold_134 C K M  lay σ  h
      · replace h := it_f hc112 h
        refine j_iload 110 C dX6_wouldHold_108 5 rfl rfl ?_
        refine j_aload_n 111 C dX6_wouldHold_110 0 rfl rfl ?_
        refine g_M 114 C K 22 (by decide) mw_985 rfl dX6_wouldHold_111 rfl ?_
        refine j_iload_n 115 C dX6_wouldHold_114 2 rfl rfl ?_
        obtain ⟨hz113, h⟩ := gd_e h
        refine m_ild 116 C K ra_22 hz113 dX6_wouldHold_115 rfl ?_
        refine j_icmp_ne 119 134 C dX6_wouldHold_116 (by decide) rfl (fun hc114 => ?_) (fun hc114 => ?_)
        · replace h := it_f hc114 h
          refine j_sub [] (lo' := []) rfl ?_
          exact wn_X6_wouldHold_134 C K M  lay σ  h
        · replace h := it_t hc114 h
          refine j_iload 121 C dX6_wouldHold_119 4 rfl rfl ?_
          refine j_aload_n 122 C dX6_wouldHold_121 0 rfl rfl ?_
          refine g_M 125 C K 21 (by decide) mw_984 rfl dX6_wouldHold_122 rfl ?_
          refine j_iload_n 126 C dX6_wouldHold_125 2 rfl rfl ?_
          obtain ⟨hz115, h⟩ := gd_e h
          refine m_ild 127 C K ra_21 hz115 dX6_wouldHold_126 rfl ?_
          refine j_icmp_lt 130 134 C dX6_wouldHold_127 (by decide) rfl (fun hc116 => ?_) (fun hc116 => ?_)
          · replace h := it_t hc116 h
            refine j_sub [] (lo' := []) rfl ?_
            exact wn_X6_wouldHold_134 C K M  lay σ  h
          · replace h := it_f hc116 h
            refine j_iconst 131 C dX6_wouldHold_130 ic_1 rfl ?_
            refine j_goto 135 C dX6_wouldHold_131 (by decide) ?_
            cases h
            exact x_z C M dX6_wouldHold_135 (by decide)
    · replace h := it_f hc110 h
      refine j_aload_n 44 C dX6_wouldHold_43 0 rfl rfl ?_
      refine g_M 47 C K 15 (by decide) mw_978 rfl dX6_wouldHold_44 rfl ?_
      refine j_iload 49 C dX6_wouldHold_47 6 rfl rfl ?_
      obtain ⟨hz117, h⟩ := gd_e h
      refine m_ild 50 C K ra_15 hz117 dX6_wouldHold_49 rfl ?_
      refine j_iload_n 51 C dX6_wouldHold_50 2 rfl rfl ?_
      refine j_icmp_ne 54 64 C dX6_wouldHold_51 (by decide) rfl (fun hc118 => ?_) (fun hc118 => ?_)
      · replace h := it_f hc118 h
        refine j_iload 66 C dX6_wouldHold_64 4 rfl rfl ?_
        refine j_sub [0, 1, 2, 3, 5, 6] (lo' := [(0, .ref (gm g 0)), (1, .int x1), (2, .int x2), (3, .int x3), (5, .int v5), (6, .int v6)]) rfl ?_
        exact wn_X6_wouldHold_66 C K M ih31 lay σ v5 v6 v4 h
      · replace h := it_t hc118 h
        refine j_aload_n 55 C dX6_wouldHold_54 0 rfl rfl ?_
        refine g_M 58 C K 16 (by decide) mw_979 rfl dX6_wouldHold_55 rfl ?_
        refine j_iload 60 C dX6_wouldHold_58 6 rfl rfl ?_
        obtain ⟨hz119, h⟩ := gd_e h
        refine m_ild 61 C K ra_16 hz119 dX6_wouldHold_60 rfl ?_
        refine j_goto 66 C dX6_wouldHold_61 (by decide) ?_
        refine j_sub [0, 1, 2, 3, 5, 6] (lo' := [(0, .ref (gm g 0)), (1, .int x1), (2, .int x2), (3, .int x3), (5, .int v5), (6, .int v6)]) rfl ?_
        exact wn_X6_wouldHold_66 C K M ih31 lay σ v5 v6 (σ.1 16 (tn v6)) h
set_option maxHeartbeats 4000000 in
set_option maxRecDepth 100000 in
theorem c_X6_wouldHold {l : Launch} (hst : l.stackTraces = false) (g : GG) (A : Nat → Prop) (lay : Nat → Nat) {σ : RS} {σ' : RS} {r : Int32} {x1 : Int32} {x2 : Int32} {x3 : Int32}  (h : F_X6_wouldHold σ x1 x2 x3 = some (σ', r)) : MI l yX6_wouldHold cX6_wouldHold 7 .boolean 1 21 0 0 [.ref (gm g 0), .int x1, .int x2, .int x3] (RH g A) g A lay σ σ' r := by
  unfold F_X6_wouldHold at h
  refine e_i (own := RX6) (lo := [(0, .ref (gm g 0)), (1, .int x1), (2, .int x2), (3, .int x3)]) hst (plainFor_of_name (by decide)) rfl rfl (Nat.le_of_ble_eq_true rfl) ?_
  intro p e s m args below meth c C K M
  refine j_aload_n 1 C dX6_wouldHold_0 0 rfl rfl ?_
  refine g_M 4 C K 9 (by decide) mw_972 rfl dX6_wouldHold_1 rfl ?_
  refine j_iload_n 5 C dX6_wouldHold_4 1 rfl rfl ?_
  refine j_iload_n 6 C dX6_wouldHold_5 2 rfl rfl ?_
  obtain ⟨σ101, r102, hF, h⟩ := bd_e h
  refine k_Si 9 C K (c_X6_at K.2.2.2 g A lay  hF) cp_X6_at mw_956 dX6_wouldHold_6 rfl rfl (Nat.le_of_ble_eq_true rfl) ⟨Nat.le_of_ble_eq_true rfl, Nat.le_of_ble_eq_true rfl⟩ ⟨Nat.le_of_ble_eq_true rfl, Nat.le_of_ble_eq_true rfl⟩ rfl (fun lay => ?_)
  obtain ⟨hz103, h⟩ := gd_e h
  refine m_ild 10 C K ra_9 hz103 dX6_wouldHold_9 rfl ?_
  refine j_topi (fun x104 ex104 => ?_)
  replace h := lt_e h x104 ex104
  refine j_istore 12 C dX6_wouldHold_10 (lo' := [(4, .int x104), (0, .ref (gm g 0)), (1, .int x1), (2, .int x2), (3, .int x3)]) (by decide) rfl rfl ?_
  refine j_aload_n 13 C dX6_wouldHold_12 1 rfl rfl ?_
  refine g_M 16 C K 10 (by decide) mw_973 rfl dX6_wouldHold_13 rfl ?_
  refine j_iload_n 17 C dX6_wouldHold_16 2 rfl rfl ?_
  refine j_iload_n 18 C dX6_wouldHold_17 3 rfl rfl ?_
  obtain ⟨σ105, r106, hF, h⟩ := bd_e h
  refine k_Si 21 C K (c_X6_at K.2.2.2 g A lay  hF) cp_X6_at mw_956 dX6_wouldHold_18 rfl rfl (Nat.le_of_ble_eq_true rfl) ⟨Nat.le_of_ble_eq_true rfl, Nat.le_of_ble_eq_true rfl⟩ ⟨Nat.le_of_ble_eq_true rfl, Nat.le_of_ble_eq_true rfl⟩ rfl (fun lay => ?_)
  obtain ⟨hz107, h⟩ := gd_e h
  refine m_ild 22 C K ra_10 hz107 dX6_wouldHold_21 rfl ?_
  refine j_topi (fun x108 ex108 => ?_)
  replace h := lt_e h x108 ex108
  refine j_istore 24 C dX6_wouldHold_22 (lo' := [(5, .int x108), (4, .int x104), (0, .ref (gm g 0)), (1, .int x1), (2, .int x2), (3, .int x3)]) (by decide) rfl rfl ?_
  refine j_sipush 27 C dX6_wouldHold_24 sp_2048 rfl ?_
  refine j_iload_n 28 C dX6_wouldHold_27 3 rfl rfl ?_
  refine j_imul 29 C dX6_wouldHold_28 rfl ?_
  refine j_topi (fun x109 ex109 => ?_)
  replace h := lt_e h x109 ex109
  refine j_istore 31 C dX6_wouldHold_29 (lo' := [(6, .int x109), (5, .int x108), (4, .int x104), (0, .ref (gm g 0)), (1, .int x1), (2, .int x2), (3, .int x3)]) (by decide) rfl rfl ?_
  refine j_sub [3, 4, 5, 6, 2, 1, 0] (lo' := [(0, .ref (gm g 0)), (1, .int x1), (2, .int x2), (3, .int x3), (4, .int x104), (5, .int x108), (6, .int x109)]) rfl ?_
  exact wn_X6_wouldHold_31 C K M  4096 lay σ105 x104 x108 x109 h
theorem cp_X6_holdersWith : CPv yX6_holdersWith cX6_holdersWith 5 (some .int) RX6 3 := ⟨mw_1331, mw_88, mw_105, mw_1332, rfl, by decide, by decide, by decide +kernel⟩
set_option maxHeartbeats 4000000 in
set_option maxRecDepth 100000 in
theorem wn_X6_holdersWith_61 {l : Launch} {p : Program} {e : Env} {s : State} {m : MethodId} {args : Array Value} {below : List Frame} {meth : Method} {c : Code} {g : GG} {A : Nat → Prop} (C : KX p m c cX6_holdersWith 5 s args RX6) (K : KC l g A s) (M : KM meth (some .int)) {σ' : RS} {r : Int32} {x1 : Int32} {x2 : Int32} {x3 : Int32}     (lay : Nat → Nat) (σ : RS) (w0 : Int32) (w1 : Int32)  (h : B_X6_holdersWith_61 x1 x2 x3 σ w0 w1 = some (σ', r)) : JJ p l e (rmk 3 67 0 0) s m args below meth c (MQ below (va_Qi (fun (r0 : Int32) (u : RS) => r0 = r ∧ u = σ') (BC (RH g A)) A) args s 0 0 A) A 5 (RH g A lay σ) 0 0 61 [] [.int w0, .int w1] := by
  unfold B_X6_holdersWith_61 at h
  refine j_iadd 62 C dX6_holdersWith_61 rfl ?_
  cases h
  exact x_i C M dX6_holdersWith_62
set_option maxHeartbeats 4000000 in
set_option maxRecDepth 100000 in
theorem wn_X6_holdersWith_44 {l : Launch} {p : Program} {e : Env} {s : State} {m : MethodId} {args : Array Value} {below : List Frame} {meth : Method} {c : Code} {g : GG} {A : Nat → Prop} (C : KX p m c cX6_holdersWith 5 s args RX6) (K : KC l g A s) (M : KM meth (some .int)) {σ' : RS} {r : Int32} {x1 : Int32} {x2 : Int32} {x3 : Int32}     (lay : Nat → Nat) (σ : RS) (v4 : Int32) (w0 : Int32) (w1 : Int32)  (h : B_X6_holdersWith_44 x1 x2 x3 σ v4 w0 w1 = some (σ', r)) : JJ p l e (rmk 3 67 0 0) s m args below meth c (MQ below (va_Qi (fun (r0 : Int32) (u : RS) => r0 = r ∧ u = σ') (BC (RH g A)) A) args s 0 0 A) A 5 (RH g A lay σ) 0 0 44 [(0, .ref (gm g 0)), (1, .int x1), (2, .int x2), (4, .int v4)] [.int w0, .int w1] := by
  unfold B_X6_holdersWith_44 at h
  refine j_isub 45 C dX6_holdersWith_44 rfl ?_
  refine j_aload_n 46 C dX6_holdersWith_45 0 rfl rfl ?_
  refine j_iload_n 47 C dX6_holdersWith_46 1 rfl rfl ?_
  refine j_iload_n 48 C dX6_holdersWith_47 2 rfl rfl ?_
  refine j_iload 50 C dX6_holdersWith_48 3 rfl rfl ?_
  obtain ⟨σ109, r110, hF, h⟩ := bd_e h
  refine k_Vi 53 C K (c_X6_wouldHold K.2.2.2 g A lay  hF) cp_X6_wouldHold (rv_M) mw_1333 dX6_holdersWith_50 rfl rfl (Nat.le_of_ble_eq_true rfl) ⟨Nat.le_of_ble_eq_true rfl, Nat.le_of_ble_eq_true rfl⟩ ⟨Nat.le_of_ble_eq_true rfl, Nat.le_of_ble_eq_true rfl⟩ rfl (fun lay => ?_)
  refine j_if_eq 56 60 C dX6_holdersWith_53 (by decide) rfl (fun hc111 => ?_) (fun hc111 => ?_)
  · replace h := it_t hc111 h
    refine j_iconst 61 C dX6_holdersWith_60 ic_0 rfl ?_
    refine j_sub [] (lo' := []) rfl ?_
    exact wn_X6_holdersWith_61 C K M  lay σ109 (0 : Int32) (w1 - w0) h
  · replace h := it_f hc111 h
    refine j_iconst 57 C dX6_holdersWith_56 ic_1 rfl ?_
    refine j_goto 61 C dX6_holdersWith_57 (by decide) ?_
    refine j_sub [] (lo' := []) rfl ?_
    exact wn_X6_holdersWith_61 C K M  lay σ109 (1 : Int32) (w1 - w0) h
set_option maxHeartbeats 4000000 in
set_option maxRecDepth 100000 in
theorem wn_X6_holdersWith_22 {l : Launch} {p : Program} {e : Env} {s : State} {m : MethodId} {args : Array Value} {below : List Frame} {meth : Method} {c : Code} {g : GG} {A : Nat → Prop} (C : KX p m c cX6_holdersWith 5 s args RX6) (K : KC l g A s) (M : KM meth (some .int)) {σ' : RS} {r : Int32} {x1 : Int32} {x2 : Int32} {x3 : Int32}     (lay : Nat → Nat) (σ : RS) (w0 : Int32)  (h : B_X6_holdersWith_22 x1 x2 x3 σ w0 = some (σ', r)) : JJ p l e (rmk 3 67 0 0) s m args below meth c (MQ below (va_Qi (fun (r0 : Int32) (u : RS) => r0 = r ∧ u = σ') (BC (RH g A)) A) args s 0 0 A) A 5 (RH g A lay σ) 0 0 22 [(0, .ref (gm g 0)), (1, .int x1), (2, .int x2)] [.int w0] := by
  unfold B_X6_holdersWith_22 at h
  refine j_istore 24 C dX6_holdersWith_22 (lo' := [(4, .int w0), (0, .ref (gm g 0)), (1, .int x1), (2, .int x2)]) (by decide) rfl rfl ?_
  refine j_aload_n 25 C dX6_holdersWith_24 1 rfl rfl ?_
  refine j_iload_n 26 C dX6_holdersWith_25 3 rfl rfl ?_
  refine j_iconst 27 C dX6_holdersWith_26 ic_0 rfl ?_
  obtain ⟨σ104, r105, hF, h⟩ := bd_e h
  refine k_Vi 30 C K (c_X6_holders K.2.2.2 g A lay  hF) cp_X6_holders (rv_M) mw_1305 dX6_holdersWith_27 rfl rfl (Nat.le_of_ble_eq_true rfl) ⟨Nat.le_of_ble_eq_true rfl, Nat.le_of_ble_eq_true rfl⟩ ⟨Nat.le_of_ble_eq_true rfl, Nat.le_of_ble_eq_true rfl⟩ rfl (fun lay => ?_)
  refine j_aload_n 31 C dX6_holdersWith_30 1 rfl rfl ?_
  refine j_iload_n 32 C dX6_holdersWith_31 2 rfl rfl ?_
  refine j_iload_n 33 C dX6_holdersWith_32 3 rfl rfl ?_
  obtain ⟨σ106, r107, hF, h⟩ := bd_e h
  refine k_Vi 36 C K (c_X6_holds K.2.2.2 g A lay  hF) cp_X6_holds (rv_M) mw_1313 dX6_holdersWith_33 rfl rfl (Nat.le_of_ble_eq_true rfl) ⟨Nat.le_of_ble_eq_true rfl, Nat.le_of_ble_eq_true rfl⟩ ⟨Nat.le_of_ble_eq_true rfl, Nat.le_of_ble_eq_true rfl⟩ rfl (fun lay => ?_)
  refine j_if_eq 39 43 C dX6_holdersWith_36 (by decide) rfl (fun hc108 => ?_) (fun hc108 => ?_)
  · replace h := it_t hc108 h
    refine j_iconst 44 C dX6_holdersWith_43 ic_0 rfl ?_
    refine j_sub [1, 2, 3, 0] (lo' := [(0, .ref (gm g 0)), (1, .int x1), (2, .int x2), (4, .int w0)]) rfl ?_
    exact wn_X6_holdersWith_44 C K M  lay σ106 w0 (0 : Int32) r105 h
  · replace h := it_f hc108 h
    refine j_iconst 40 C dX6_holdersWith_39 ic_1 rfl ?_
    refine j_goto 44 C dX6_holdersWith_40 (by decide) ?_
    refine j_sub [1, 2, 3, 0] (lo' := [(0, .ref (gm g 0)), (1, .int x1), (2, .int x2), (4, .int w0)]) rfl ?_
    exact wn_X6_holdersWith_44 C K M  lay σ106 w0 (1 : Int32) r105 h
set_option maxHeartbeats 4000000 in
set_option maxRecDepth 100000 in
theorem c_X6_holdersWith {l : Launch} (hst : l.stackTraces = false) (g : GG) (A : Nat → Prop) (lay : Nat → Nat) {σ : RS} {σ' : RS} {r : Int32} {x1 : Int32} {x2 : Int32} {x3 : Int32}  (h : F_X6_holdersWith σ x1 x2 x3 = some (σ', r)) : MI l yX6_holdersWith cX6_holdersWith 5 .int 3 67 0 0 [.ref (gm g 0), .int x1, .int x2, .int x3] (RH g A) g A lay σ σ' r := by
  unfold F_X6_holdersWith at h
  refine e_i (own := RX6) (lo := [(0, .ref (gm g 0)), (1, .int x1), (2, .int x2), (3, .int x3)]) hst (plainFor_of_name (by decide)) rfl rfl (Nat.le_of_ble_eq_true rfl) ?_
  intro p e s m args below meth c C K M
  refine j_iload_n 1 C dX6_holdersWith_0 3 rfl rfl ?_
  refine j_aload_n 2 C dX6_holdersWith_1 0 rfl rfl ?_
  refine g_M 5 C K 14 (by decide) mw_977 rfl dX6_holdersWith_2 rfl ?_
  refine j_iload_n 6 C dX6_holdersWith_5 1 rfl rfl ?_
  obtain ⟨hz101, h⟩ := gd_e h
  refine m_ild 7 C K ra_14 hz101 dX6_holdersWith_6 rfl ?_
  refine j_icmp_ge 10 21 C dX6_holdersWith_7 (by decide) rfl (fun hc102 => ?_) (fun hc102 => ?_)
  · replace h := it_t hc102 h
    refine j_iconst 22 C dX6_holdersWith_21 ic_0 rfl ?_
    refine j_sub [0, 1, 2] (lo' := [(0, .ref (gm g 0)), (1, .int x1), (2, .int x2)]) rfl ?_
    exact wn_X6_holdersWith_22 C K M  lay σ (0 : Int32) h
  · replace h := it_f hc102 h
    refine j_aload_n 11 C dX6_holdersWith_10 0 rfl rfl ?_
    refine g_M 14 C K 14 (by decide) mw_977 rfl dX6_holdersWith_11 rfl ?_
    refine j_iload_n 15 C dX6_holdersWith_14 1 rfl rfl ?_
    obtain ⟨hz103, h⟩ := gd_e h
    refine m_ild 16 C K ra_14 hz103 dX6_holdersWith_15 rfl ?_
    refine j_iload_n 17 C dX6_holdersWith_16 3 rfl rfl ?_
    refine j_isub 18 C dX6_holdersWith_17 rfl ?_
    refine j_goto 22 C dX6_holdersWith_18 (by decide) ?_
    refine j_sub [0, 1, 2] (lo' := [(0, .ref (gm g 0)), (1, .int x1), (2, .int x2)]) rfl ?_
    exact wn_X6_holdersWith_22 C K M  lay σ ((σ.1 14 (tn x1)) - x3) h
theorem cp_X6_counted : CPv yX6_counted cX6_counted 8 (some .int) RX6 1 := ⟨mw_1271, mw_79, mw_105, mw_1272, rfl, by decide, by decide, by decide +kernel⟩
set_option maxHeartbeats 4000000 in
set_option maxRecDepth 100000 in
theorem wn_X6_counted_128 {l : Launch} {p : Program} {e : Env} {s : State} {m : MethodId} {args : Array Value} {below : List Frame} {meth : Method} {c : Code} {g : GG} {A : Nat → Prop} (C : KX p m c cX6_counted 8 s args RX6) (K : KC l g A s) (M : KM meth (some .int)) {σ' : RS} {r : Int32} {x1 : Int32}   {self82 : RS → Int32 → Int32 → Int32 → Int32 → Int32 → Int32 → Option (RS × Int32)} (ih82 : ∀ (lay : Nat → Nat) (σ : RS) (v2 : Int32) (v3 : Int32) (v4 : Int32) (v5 : Int32) (v6 : Int32) (v7 : Int32), self82 σ v2 v3 v4 v5 v6 v7 = some (σ', r) → JJ p l e (rmk 1 20 0 0) s m args below meth c (MQ below (va_Qi (fun (r0 : Int32) (u : RS) => r0 = r ∧ u = σ') (BC (RH g A)) A) args s 0 0 A) A 8 (RH g A lay σ) 0 0 82 [(0, .ref (gm g 0)), (1, .int x1), (2, .int v2), (3, .int v3), (4, .int v4), (5, .int v5), (6, .int v6), (7, .int v7)] []) (lay : Nat → Nat) (σ : RS) (v2 : Int32) (v3 : Int32) (v4 : Int32) (v6 : Int32) (v7 : Int32) (w0 : Int32) (w1 : Int32)  (h : B_X6_counted_128 x1 self82 σ v2 v3 v4 v6 v7 w0 w1 = some (σ', r)) : JJ p l e (rmk 1 20 0 0) s m args below meth c (MQ below (va_Qi (fun (r0 : Int32) (u : RS) => r0 = r ∧ u = σ') (BC (RH g A)) A) args s 0 0 A) A 8 (RH g A lay σ) 0 0 128 [(0, .ref (gm g 0)), (1, .int x1), (2, .int v2), (3, .int v3), (4, .int v4), (6, .int v6), (7, .int v7)] [.int w0, .int w1] := by
  unfold B_X6_counted_128 at h
  refine j_iadd 129 C dX6_counted_128 rfl ?_
  refine j_topi (fun x131 ex131 => ?_)
  replace h := lt_e h x131 ex131
  refine j_istore 131 C dX6_counted_129 (lo' := [(5, .int x131), (0, .ref (gm g 0)), (1, .int x1), (2, .int v2), (3, .int v3), (4, .int v4), (6, .int v6), (7, .int v7)]) (by decide) rfl rfl ?_
  obtain ⟨x132, ex132⟩ : ∃ z : Int32, z = v7 + 1 := ⟨_, rfl⟩
  replace h := lt_e h x132 ex132
  refine j_iinc 134 C dX6_counted_131 7 rfl (v := x132) ((ii_1 _).trans ex132.symm) (lo' := [(7, .int x132), (5, .int x131), (0, .ref (gm g 0)), (1, .int x1), (2, .int v2), (3, .int v3), (4, .int v4), (6, .int v6)]) (by decide) rfl rfl ?_
  refine j_goto 82 C dX6_counted_134 (by decide) ?_
  refine j_sub [2, 3, 4, 5, 6, 1, 7, 0] (lo' := [(0, .ref (gm g 0)), (1, .int x1), (2, .int v2), (3, .int v3), (4, .int v4), (5, .int x131), (6, .int v6), (7, .int x132)]) rfl ?_
  exact ih82 lay σ v2 v3 v4 x131 v6 x132 h
set_option maxHeartbeats 4000000 in
set_option maxRecDepth 100000 in
theorem wn_X6_counted_108 {l : Launch} {p : Program} {e : Env} {s : State} {m : MethodId} {args : Array Value} {below : List Frame} {meth : Method} {c : Code} {g : GG} {A : Nat → Prop} (C : KX p m c cX6_counted 8 s args RX6) (K : KC l g A s) (M : KM meth (some .int)) {σ' : RS} {r : Int32} {x1 : Int32}   {self82 : RS → Int32 → Int32 → Int32 → Int32 → Int32 → Int32 → Option (RS × Int32)} (ih82 : ∀ (lay : Nat → Nat) (σ : RS) (v2 : Int32) (v3 : Int32) (v4 : Int32) (v5 : Int32) (v6 : Int32) (v7 : Int32), self82 σ v2 v3 v4 v5 v6 v7 = some (σ', r) → JJ p l e (rmk 1 20 0 0) s m args below meth c (MQ below (va_Qi (fun (r0 : Int32) (u : RS) => r0 = r ∧ u = σ') (BC (RH g A)) A) args s 0 0 A) A 8 (RH g A lay σ) 0 0 82 [(0, .ref (gm g 0)), (1, .int x1), (2, .int v2), (3, .int v3), (4, .int v4), (5, .int v5), (6, .int v6), (7, .int v7)] []) (lay : Nat → Nat) (σ : RS) (v2 : Int32) (v3 : Int32) (v5 : Int32) (v6 : Int32) (v7 : Int32) (w0 : Int32) (w1 : Int32)  (h : B_X6_counted_108 x1 self82 σ v2 v3 v5 v6 v7 w0 w1 = some (σ', r)) : JJ p l e (rmk 1 20 0 0) s m args below meth c (MQ below (va_Qi (fun (r0 : Int32) (u : RS) => r0 = r ∧ u = σ') (BC (RH g A)) A) args s 0 0 A) A 8 (RH g A lay σ) 0 0 108 [(0, .ref (gm g 0)), (1, .int x1), (2, .int v2), (3, .int v3), (5, .int v5), (6, .int v6), (7, .int v7)] [.int w0, .int w1] := by
  unfold B_X6_counted_108 at h
  refine j_iadd 109 C dX6_counted_108 rfl ?_
  refine j_topi (fun x124 ex124 => ?_)
  replace h := lt_e h x124 ex124
  refine j_istore 111 C dX6_counted_109 (lo' := [(4, .int x124), (0, .ref (gm g 0)), (1, .int x1), (2, .int v2), (3, .int v3), (5, .int v5), (6, .int v6), (7, .int v7)]) (by decide) rfl rfl ?_
  refine j_iload 113 C dX6_counted_111 5 rfl rfl ?_
  refine j_aload_n 114 C dX6_counted_113 1 rfl rfl ?_
  refine g_M 117 C K 23 (by decide) mw_986 rfl dX6_counted_114 rfl ?_
  refine j_iload 119 C dX6_counted_117 7 rfl rfl ?_
  obtain ⟨hz125, h⟩ := gd_e h
  refine m_zld 120 C K ra_23 hz125 dX6_counted_119 rfl ?_
  refine j_if_eq 123 127 C dX6_counted_120 (by decide) rfl (fun hc126 => ?_) (fun hc126 => ?_)
  · replace h := it_t hc126 h
    refine j_iconst 128 C dX6_counted_127 ic_0 rfl ?_
    refine j_sub [1, 2, 3, 4, 0, 6, 7] (lo' := [(0, .ref (gm g 0)), (1, .int x1), (2, .int v2), (3, .int v3), (4, .int x124), (6, .int v6), (7, .int v7)]) rfl ?_
    exact wn_X6_counted_128 C K M ih82 lay σ v2 v3 x124 v6 v7 (0 : Int32) v5 h
  · replace h := it_f hc126 h
    refine j_iconst 124 C dX6_counted_123 ic_1 rfl ?_
    refine j_goto 128 C dX6_counted_124 (by decide) ?_
    refine j_sub [1, 2, 3, 4, 0, 6, 7] (lo' := [(0, .ref (gm g 0)), (1, .int x1), (2, .int v2), (3, .int v3), (4, .int x124), (6, .int v6), (7, .int v7)]) rfl ?_
    exact wn_X6_counted_128 C K M ih82 lay σ v2 v3 x124 v6 v7 (1 : Int32) v5 h
set_option maxHeartbeats 4000000 in
set_option maxRecDepth 100000 in
theorem wn_X6_counted_82 {l : Launch} {p : Program} {e : Env} {s : State} {m : MethodId} {args : Array Value} {below : List Frame} {meth : Method} {c : Code} {g : GG} {A : Nat → Prop} (C : KX p m c cX6_counted 8 s args RX6) (K : KC l g A s) (M : KM meth (some .int)) {σ' : RS} {r : Int32} {x1 : Int32}     : ∀ (fu : Nat) (lay : Nat → Nat) (σ : RS) (v2 : Int32) (v3 : Int32) (v4 : Int32) (v5 : Int32) (v6 : Int32) (v7 : Int32), B_X6_counted_82 x1 fu σ v2 v3 v4 v5 v6 v7 = some (σ', r) → JJ p l e (rmk 1 20 0 0) s m args below meth c (MQ below (va_Qi (fun (r0 : Int32) (u : RS) => r0 = r ∧ u = σ') (BC (RH g A)) A) args s 0 0 A) A 8 (RH g A lay σ) 0 0 82 [(0, .ref (gm g 0)), (1, .int x1), (2, .int v2), (3, .int v3), (4, .int v4), (5, .int v5), (6, .int v6), (7, .int v7)] [] := by
  intro fu
  induction fu with
  | zero =>
    intro lay σ v2 v3 v4 v5 v6 v7 h
    exact nomatch (show (none : Option _) = some _ from h)
  | succ fu ih82 =>
    intro lay σ v2 v3 v4 v5 v6 v7 h
    unfold B_X6_counted_82 at h
    rw [lo7_s] at h
    refine j_iload 84 C dX6_counted_82 7 rfl rfl ?_
    refine j_aload_n 85 C dX6_counted_84 0 rfl rfl ?_
    refine g_M 88 C K 2 (by decide) mw_965 rfl dX6_counted_85 rfl ?_
    refine j_icmp_ge 91 137 C dX6_counted_88 (by decide) rfl (fun hc104 => ?_) (fun hc104 => ?_)
    · replace h := it_t hc104 h
      refine j_iload_n 138 C dX6_counted_137 1 rfl rfl ?_
      by_cases hc105 : x1 = 0
      · replace h := it_t hc105 h
        refine j_tin 196 C dX6_counted_138 (off := 58) (by rw [hc105]; decide) (by rw [hc105]; decide) (by rw [hc105]; decide) (by decide) ?_
        refine j_aload_n 197 C dX6_counted_196 0 rfl rfl ?_
        refine g_M 200 C K 1 (by decide) mw_964 rfl dX6_counted_197 rfl ?_
        cases h
        exact x_i C M dX6_counted_200
      replace h := it_f hc105 h
      by_cases hc106 : x1 = 1
      · replace h := it_t hc106 h
        refine j_tin 201 C dX6_counted_138 (off := 63) (by rw [hc106]; decide) (by rw [hc106]; decide) (by rw [hc106]; decide) (by decide) ?_
        refine j_aload_n 202 C dX6_counted_201 0 rfl rfl ?_
        refine g_M 205 C K 2 (by decide) mw_965 rfl dX6_counted_202 rfl ?_
        cases h
        exact x_i C M dX6_counted_205
      replace h := it_f hc106 h
      by_cases hc107 : x1 = 2
      · replace h := it_t hc107 h
        refine j_tin 206 C dX6_counted_138 (off := 68) (by rw [hc107]; decide) (by rw [hc107]; decide) (by rw [hc107]; decide) (by decide) ?_
        refine j_aload_n 207 C dX6_counted_206 0 rfl rfl ?_
        obtain ⟨σ108, r109, hF, h⟩ := bd_e h
        refine k_Vi 210 C K (c_X6_q K.2.2.2 g A lay  hF) cp_X6_q (rv_M) mw_1129 dX6_counted_207 rfl rfl (Nat.le_of_ble_eq_true rfl) ⟨Nat.le_of_ble_eq_true rfl, Nat.le_of_ble_eq_true rfl⟩ ⟨Nat.le_of_ble_eq_true rfl, Nat.le_of_ble_eq_true rfl⟩ rfl (fun lay => ?_)
        cases h
        exact x_i C M dX6_counted_210
      replace h := it_f hc107 h
      by_cases hc110 : x1 = 3
      · replace h := it_t hc110 h
        refine j_tin 211 C dX6_counted_138 (off := 73) (by rw [hc110]; decide) (by rw [hc110]; decide) (by rw [hc110]; decide) (by decide) ?_
        refine j_aload_n 212 C dX6_counted_211 0 rfl rfl ?_
        refine g_M 215 C K 3 (by decide) mw_966 rfl dX6_counted_212 rfl ?_
        refine j_if_eq 218 222 C dX6_counted_215 (by decide) rfl (fun hc111 => ?_) (fun hc111 => ?_)
        · replace h := it_t hc111 h
          refine j_iconst 223 C dX6_counted_222 ic_0 rfl ?_
          cases h
          exact x_i C M dX6_counted_223
        · replace h := it_f hc111 h
          refine j_iconst 219 C dX6_counted_218 ic_1 rfl ?_
          refine j_goto 223 C dX6_counted_219 (by decide) ?_
          cases h
          exact x_i C M dX6_counted_223
      replace h := it_f hc110 h
      by_cases hc112 : x1 = 4
      · replace h := it_t hc112 h
        refine j_tin 224 C dX6_counted_138 (off := 86) (by rw [hc112]; decide) (by rw [hc112]; decide) (by rw [hc112]; decide) (by decide) ?_
        refine j_iload_n 225 C dX6_counted_224 2 rfl rfl ?_
        cases h
        exact x_i C M dX6_counted_225
      replace h := it_f hc112 h
      by_cases hc113 : x1 = 5
      · replace h := it_t hc113 h
        refine j_tin 226 C dX6_counted_138 (off := 88) (by rw [hc113]; decide) (by rw [hc113]; decide) (by rw [hc113]; decide) (by decide) ?_
        refine j_iload_n 227 C dX6_counted_226 3 rfl rfl ?_
        cases h
        exact x_i C M dX6_counted_227
      replace h := it_f hc113 h
      by_cases hc114 : x1 = 6
      · replace h := it_t hc114 h
        refine j_tin 228 C dX6_counted_138 (off := 90) (by rw [hc114]; decide) (by rw [hc114]; decide) (by rw [hc114]; decide) (by decide) ?_
        refine j_iload 230 C dX6_counted_228 4 rfl rfl ?_
        cases h
        exact x_i C M dX6_counted_230
      replace h := it_f hc114 h
      by_cases hc115 : x1 = 7
      · replace h := it_t hc115 h
        refine j_tin 231 C dX6_counted_138 (off := 93) (by rw [hc115]; decide) (by rw [hc115]; decide) (by rw [hc115]; decide) (by decide) ?_
        refine j_iload 233 C dX6_counted_231 5 rfl rfl ?_
        cases h
        exact x_i C M dX6_counted_233
      replace h := it_f hc115 h
      by_cases hc116 : x1 = 8
      · replace h := it_t hc116 h
        refine j_tin 234 C dX6_counted_138 (off := 96) (by rw [hc116]; decide) (by rw [hc116]; decide) (by rw [hc116]; decide) (by decide) ?_
        refine j_aload_n 235 C dX6_counted_234 0 rfl rfl ?_
        refine g_M 238 C K 24 (by decide) mw_987 rfl dX6_counted_235 rfl ?_
        cases h
        exact x_i C M dX6_counted_238
      replace h := it_f hc116 h
      by_cases hc117 : x1 = 9
      · replace h := it_t hc117 h
        refine j_tin 239 C dX6_counted_138 (off := 101) (by rw [hc117]; decide) (by rw [hc117]; decide) (by rw [hc117]; decide) (by decide) ?_
        refine j_aload_n 240 C dX6_counted_239 0 rfl rfl ?_
        refine g_M 243 C K 25 (by decide) mw_988 rfl dX6_counted_240 rfl ?_
        cases h
        exact x_i C M dX6_counted_243
      replace h := it_f hc117 h
      by_cases hc118 : x1 = 10
      · replace h := it_t hc118 h
        refine j_tin 244 C dX6_counted_138 (off := 106) (by rw [hc118]; decide) (by rw [hc118]; decide) (by rw [hc118]; decide) (by decide) ?_
        refine j_iload 246 C dX6_counted_244 6 rfl rfl ?_
        cases h
        exact x_i C M dX6_counted_246
      replace h := it_f hc118 h
      refine j_tout 247 C dX6_counted_138 (by have := lv_neT hc105 (a := 0) (by decide); have := lv_neT hc106 (a := 1) (by decide); have := lv_neT hc107 (a := 2) (by decide); have := lv_neT hc110 (a := 3) (by decide); have := lv_neT hc112 (a := 4) (by decide); have := lv_neT hc113 (a := 5) (by decide); have := lv_neT hc114 (a := 6) (by decide); have := lv_neT hc115 (a := 7) (by decide); have := lv_neT hc116 (a := 8) (by decide); have := lv_neT hc117 (a := 9) (by decide); have := lv_neT hc118 (a := 10) (by decide); omega) (by decide) ?_
      refine j_aload_n 248 C dX6_counted_247 0 rfl rfl ?_
      refine g_M 251 C K 26 (by decide) mw_989 rfl dX6_counted_248 rfl ?_
      cases h
      exact x_i C M dX6_counted_251
    · replace h := it_f hc104 h
      refine j_iload 93 C dX6_counted_91 4 rfl rfl ?_
      refine j_aload_n 94 C dX6_counted_93 0 rfl rfl ?_
      refine g_M 97 C K 20 (by decide) mw_983 rfl dX6_counted_94 rfl ?_
      refine j_iload 99 C dX6_counted_97 7 rfl rfl ?_
      obtain ⟨hz119, h⟩ := gd_e h
      refine m_ild 100 C K ra_20 hz119 dX6_counted_99 rfl ?_
      refine j_if_le 103 107 C dX6_counted_100 (by decide) rfl (fun hc120 => ?_) (fun hc120 => ?_)
      · replace h := it_t hc120 h
        refine j_iconst 108 C dX6_counted_107 ic_0 rfl ?_
        refine j_sub [0, 1, 2, 3, 5, 6, 7] (lo' := [(0, .ref (gm g 0)), (1, .int x1), (2, .int v2), (3, .int v3), (5, .int v5), (6, .int v6), (7, .int v7)]) rfl ?_
        exact wn_X6_counted_108 C K M ih82 lay σ v2 v3 v5 v6 v7 (0 : Int32) v4 h
      · replace h := it_f hc120 h
        refine j_iconst 104 C dX6_counted_103 ic_1 rfl ?_
        refine j_goto 108 C dX6_counted_104 (by decide) ?_
        refine j_sub [0, 1, 2, 3, 5, 6, 7] (lo' := [(0, .ref (gm g 0)), (1, .int x1), (2, .int v2), (3, .int v3), (5, .int v5), (6, .int v6), (7, .int v7)]) rfl ?_
        exact wn_X6_counted_108 C K M ih82 lay σ v2 v3 v5 v6 v7 (1 : Int32) v4 h
set_option maxHeartbeats 4000000 in
set_option maxRecDepth 100000 in
theorem wn_X6_counted_59 {l : Launch} {p : Program} {e : Env} {s : State} {m : MethodId} {args : Array Value} {below : List Frame} {meth : Method} {c : Code} {g : GG} {A : Nat → Prop} (C : KX p m c cX6_counted 8 s args RX6) (K : KC l g A s) (M : KM meth (some .int)) {σ' : RS} {r : Int32} {x1 : Int32}   {self16 : RS → Int32 → Int32 → Int32 → Int32 → Int32 → Int32 → Option (RS × Int32)} (ih16 : ∀ (lay : Nat → Nat) (σ : RS) (v2 : Int32) (v3 : Int32) (v4 : Int32) (v5 : Int32) (v6 : Int32) (v7 : Int32), self16 σ v2 v3 v4 v5 v6 v7 = some (σ', r) → JJ p l e (rmk 1 20 0 0) s m args below meth c (MQ below (va_Qi (fun (r0 : Int32) (u : RS) => r0 = r ∧ u = σ') (BC (RH g A)) A) args s 0 0 A) A 8 (RH g A lay σ) 0 0 16 [(0, .ref (gm g 0)), (1, .int x1), (2, .int v2), (3, .int v3), (4, .int v4), (5, .int v5), (6, .int v6), (7, .int v7)] []) (lay : Nat → Nat) (σ : RS) (v2 : Int32) (v4 : Int32) (v5 : Int32) (v6 : Int32) (v7 : Int32) (w0 : Int32) (w1 : Int32)  (h : B_X6_counted_59 x1 self16 σ v2 v4 v5 v6 v7 w0 w1 = some (σ', r)) : JJ p l e (rmk 1 20 0 0) s m args below meth c (MQ below (va_Qi (fun (r0 : Int32) (u : RS) => r0 = r ∧ u = σ') (BC (RH g A)) A) args s 0 0 A) A 8 (RH g A lay σ) 0 0 59 [(0, .ref (gm g 0)), (1, .int x1), (2, .int v2), (4, .int v4), (5, .int v5), (6, .int v6), (7, .int v7)] [.int w0, .int w1] := by
  unfold B_X6_counted_59 at h
  refine j_iadd 60 C dX6_counted_59 rfl ?_
  refine j_topi (fun x127 ex127 => ?_)
  replace h := lt_e h x127 ex127
  refine j_istore_n 61 C dX6_counted_60 (lo' := [(3, .int x127), (0, .ref (gm g 0)), (1, .int x1), (2, .int v2), (4, .int v4), (5, .int v5), (6, .int v6), (7, .int v7)]) (by decide) rfl rfl ?_
  refine j_iload 63 C dX6_counted_61 6 rfl rfl ?_
  refine j_aload_n 64 C dX6_counted_63 1 rfl rfl ?_
  refine g_M 67 C K 14 (by decide) mw_977 rfl dX6_counted_64 rfl ?_
  refine j_iload 69 C dX6_counted_67 7 rfl rfl ?_
  obtain ⟨hz128, h⟩ := gd_e h
  refine m_ild 70 C K ra_14 hz128 dX6_counted_69 rfl ?_
  refine j_iadd 71 C dX6_counted_70 rfl ?_
  refine j_topi (fun x129 ex129 => ?_)
  replace h := lt_e h x129 ex129
  refine j_istore 73 C dX6_counted_71 (lo' := [(6, .int x129), (3, .int x127), (0, .ref (gm g 0)), (1, .int x1), (2, .int v2), (4, .int v4), (5, .int v5), (7, .int v7)]) (by decide) rfl rfl ?_
  obtain ⟨x130, ex130⟩ : ∃ z : Int32, z = v7 + 1 := ⟨_, rfl⟩
  replace h := lt_e h x130 ex130
  refine j_iinc 76 C dX6_counted_73 7 rfl (v := x130) ((ii_1 _).trans ex130.symm) (lo' := [(7, .int x130), (6, .int x129), (3, .int x127), (0, .ref (gm g 0)), (1, .int x1), (2, .int v2), (4, .int v4), (5, .int v5)]) (by decide) rfl rfl ?_
  refine j_goto 16 C dX6_counted_76 (by decide) ?_
  refine j_sub [3, 4, 5, 2, 6, 7, 1, 0] (lo' := [(0, .ref (gm g 0)), (1, .int x1), (2, .int v2), (3, .int x127), (4, .int v4), (5, .int v5), (6, .int x129), (7, .int x130)]) rfl ?_
  exact ih16 lay σ v2 x127 v4 v5 x129 x130 h
set_option maxHeartbeats 4000000 in
set_option maxRecDepth 100000 in
theorem wn_X6_counted_41 {l : Launch} {p : Program} {e : Env} {s : State} {m : MethodId} {args : Array Value} {below : List Frame} {meth : Method} {c : Code} {g : GG} {A : Nat → Prop} (C : KX p m c cX6_counted 8 s args RX6) (K : KC l g A s) (M : KM meth (some .int)) {σ' : RS} {r : Int32} {x1 : Int32}   {self16 : RS → Int32 → Int32 → Int32 → Int32 → Int32 → Int32 → Option (RS × Int32)} (ih16 : ∀ (lay : Nat → Nat) (σ : RS) (v2 : Int32) (v3 : Int32) (v4 : Int32) (v5 : Int32) (v6 : Int32) (v7 : Int32), self16 σ v2 v3 v4 v5 v6 v7 = some (σ', r) → JJ p l e (rmk 1 20 0 0) s m args below meth c (MQ below (va_Qi (fun (r0 : Int32) (u : RS) => r0 = r ∧ u = σ') (BC (RH g A)) A) args s 0 0 A) A 8 (RH g A lay σ) 0 0 16 [(0, .ref (gm g 0)), (1, .int x1), (2, .int v2), (3, .int v3), (4, .int v4), (5, .int v5), (6, .int v6), (7, .int v7)] []) (lay : Nat → Nat) (σ : RS) (v3 : Int32) (v4 : Int32) (v5 : Int32) (v6 : Int32) (v7 : Int32) (w0 : Int32) (w1 : Int32)  (h : B_X6_counted_41 x1 self16 σ v3 v4 v5 v6 v7 w0 w1 = some (σ', r)) : JJ p l e (rmk 1 20 0 0) s m args below meth c (MQ below (va_Qi (fun (r0 : Int32) (u : RS) => r0 = r ∧ u = σ') (BC (RH g A)) A) args s 0 0 A) A 8 (RH g A lay σ) 0 0 41 [(0, .ref (gm g 0)), (1, .int x1), (3, .int v3), (4, .int v4), (5, .int v5), (6, .int v6), (7, .int v7)] [.int w0, .int w1] := by
  unfold B_X6_counted_41 at h
  refine j_iadd 42 C dX6_counted_41 rfl ?_
  refine j_topi (fun x121 ex121 => ?_)
  replace h := lt_e h x121 ex121
  refine j_istore_n 43 C dX6_counted_42 (lo' := [(2, .int x121), (0, .ref (gm g 0)), (1, .int x1), (3, .int v3), (4, .int v4), (5, .int v5), (6, .int v6), (7, .int v7)]) (by decide) rfl rfl ?_
  refine j_iload_n 44 C dX6_counted_43 3 rfl rfl ?_
  refine j_aload_n 45 C dX6_counted_44 1 rfl rfl ?_
  refine g_M 48 C K 5 (by decide) mw_968 rfl dX6_counted_45 rfl ?_
  refine j_iload 50 C dX6_counted_48 7 rfl rfl ?_
  obtain ⟨hz122, h⟩ := gd_e h
  refine m_zld 51 C K ra_5 hz122 dX6_counted_50 rfl ?_
  refine j_if_eq 54 58 C dX6_counted_51 (by decide) rfl (fun hc123 => ?_) (fun hc123 => ?_)
  · replace h := it_t hc123 h
    refine j_iconst 59 C dX6_counted_58 ic_0 rfl ?_
    refine j_sub [1, 2, 0, 4, 5, 6, 7] (lo' := [(0, .ref (gm g 0)), (1, .int x1), (2, .int x121), (4, .int v4), (5, .int v5), (6, .int v6), (7, .int v7)]) rfl ?_
    exact wn_X6_counted_59 C K M ih16 lay σ x121 v4 v5 v6 v7 (0 : Int32) v3 h
  · replace h := it_f hc123 h
    refine j_iconst 55 C dX6_counted_54 ic_1 rfl ?_
    refine j_goto 59 C dX6_counted_55 (by decide) ?_
    refine j_sub [1, 2, 0, 4, 5, 6, 7] (lo' := [(0, .ref (gm g 0)), (1, .int x1), (2, .int x121), (4, .int v4), (5, .int v5), (6, .int v6), (7, .int v7)]) rfl ?_
    exact wn_X6_counted_59 C K M ih16 lay σ x121 v4 v5 v6 v7 (1 : Int32) v3 h
set_option maxHeartbeats 4000000 in
set_option maxRecDepth 100000 in
theorem wn_X6_counted_16 {l : Launch} {p : Program} {e : Env} {s : State} {m : MethodId} {args : Array Value} {below : List Frame} {meth : Method} {c : Code} {g : GG} {A : Nat → Prop} (C : KX p m c cX6_counted 8 s args RX6) (K : KC l g A s) (M : KM meth (some .int)) {σ' : RS} {r : Int32} {x1 : Int32}     : ∀ (fu : Nat) (lay : Nat → Nat) (σ : RS) (v2 : Int32) (v3 : Int32) (v4 : Int32) (v5 : Int32) (v6 : Int32) (v7 : Int32), B_X6_counted_16 x1 fu σ v2 v3 v4 v5 v6 v7 = some (σ', r) → JJ p l e (rmk 1 20 0 0) s m args below meth c (MQ below (va_Qi (fun (r0 : Int32) (u : RS) => r0 = r ∧ u = σ') (BC (RH g A)) A) args s 0 0 A) A 8 (RH g A lay σ) 0 0 16 [(0, .ref (gm g 0)), (1, .int x1), (2, .int v2), (3, .int v3), (4, .int v4), (5, .int v5), (6, .int v6), (7, .int v7)] [] := by
  intro fu
  induction fu with
  | zero =>
    intro lay σ v2 v3 v4 v5 v6 v7 h
    exact nomatch (show (none : Option _) = some _ from h)
  | succ fu ih16 =>
    intro lay σ v2 v3 v4 v5 v6 v7 h
    unfold B_X6_counted_16 at h
    rw [lo7_s] at h
    refine j_iload 18 C dX6_counted_16 7 rfl rfl ?_
    refine j_aload_n 19 C dX6_counted_18 0 rfl rfl ?_
    refine g_M 22 C K 1 (by decide) mw_964 rfl dX6_counted_19 rfl ?_
    refine j_icmp_ge 25 79 C dX6_counted_22 (by decide) rfl (fun hc101 => ?_) (fun hc101 => ?_)
    · replace h := it_t hc101 h
      refine j_iconst 80 C dX6_counted_79 ic_0 rfl ?_
      refine j_istore 82 C dX6_counted_80 (lo' := [(7, .int (0 : Int32)), (0, .ref (gm g 0)), (1, .int x1), (2, .int v2), (3, .int v3), (4, .int v4), (5, .int v5), (6, .int v6)]) (by decide) rfl rfl ?_
      refine j_sub [1, 2, 3, 4, 5, 6, 7, 0] (lo' := [(0, .ref (gm g 0)), (1, .int x1), (2, .int v2), (3, .int v3), (4, .int v4), (5, .int v5), (6, .int v6), (7, .int (0 : Int32))]) rfl ?_
      exact wn_X6_counted_82 C K M  4096 lay σ v2 v3 v4 v5 v6 (0 : Int32) h
    · replace h := it_f hc101 h
      refine j_iload_n 26 C dX6_counted_25 2 rfl rfl ?_
      refine j_aload_n 27 C dX6_counted_26 0 rfl rfl ?_
      refine g_M 30 C K 4 (by decide) mw_967 rfl dX6_counted_27 rfl ?_
      refine j_iload 32 C dX6_counted_30 7 rfl rfl ?_
      obtain ⟨hz102, h⟩ := gd_e h
      refine m_zld 33 C K ra_4 hz102 dX6_counted_32 rfl ?_
      refine j_if_eq 36 40 C dX6_counted_33 (by decide) rfl (fun hc103 => ?_) (fun hc103 => ?_)
      · replace h := it_t hc103 h
        refine j_iconst 41 C dX6_counted_40 ic_0 rfl ?_
        refine j_sub [0, 1, 3, 4, 5, 6, 7] (lo' := [(0, .ref (gm g 0)), (1, .int x1), (3, .int v3), (4, .int v4), (5, .int v5), (6, .int v6), (7, .int v7)]) rfl ?_
        exact wn_X6_counted_41 C K M ih16 lay σ v3 v4 v5 v6 v7 (0 : Int32) v2 h
      · replace h := it_f hc103 h
        refine j_iconst 37 C dX6_counted_36 ic_1 rfl ?_
        refine j_goto 41 C dX6_counted_37 (by decide) ?_
        refine j_sub [0, 1, 3, 4, 5, 6, 7] (lo' := [(0, .ref (gm g 0)), (1, .int x1), (3, .int v3), (4, .int v4), (5, .int v5), (6, .int v6), (7, .int v7)]) rfl ?_
        exact wn_X6_counted_41 C K M ih16 lay σ v3 v4 v5 v6 v7 (1 : Int32) v2 h
set_option maxHeartbeats 4000000 in
set_option maxRecDepth 100000 in
theorem c_X6_counted {l : Launch} (hst : l.stackTraces = false) (g : GG) (A : Nat → Prop) (lay : Nat → Nat) {σ : RS} {σ' : RS} {r : Int32} {x1 : Int32}  (h : F_X6_counted σ x1 = some (σ', r)) : MI l yX6_counted cX6_counted 8 .int 1 20 0 0 [.ref (gm g 0), .int x1] (RH g A) g A lay σ σ' r := by
  unfold F_X6_counted at h
  refine e_i (own := RX6) (lo := [(0, .ref (gm g 0)), (1, .int x1)]) hst (plainFor_of_name (by decide)) rfl rfl (Nat.le_of_ble_eq_true rfl) ?_
  intro p e s m args below meth c C K M
  refine j_iconst 1 C dX6_counted_0 ic_0 rfl ?_
  refine j_istore_n 2 C dX6_counted_1 (lo' := [(2, .int (0 : Int32)), (0, .ref (gm g 0)), (1, .int x1)]) (by decide) rfl rfl ?_
  refine j_iconst 3 C dX6_counted_2 ic_0 rfl ?_
  refine j_istore_n 4 C dX6_counted_3 (lo' := [(3, .int (0 : Int32)), (2, .int (0 : Int32)), (0, .ref (gm g 0)), (1, .int x1)]) (by decide) rfl rfl ?_
  refine j_iconst 5 C dX6_counted_4 ic_0 rfl ?_
  refine j_istore 7 C dX6_counted_5 (lo' := [(4, .int (0 : Int32)), (3, .int (0 : Int32)), (2, .int (0 : Int32)), (0, .ref (gm g 0)), (1, .int x1)]) (by decide) rfl rfl ?_
  refine j_iconst 8 C dX6_counted_7 ic_0 rfl ?_
  refine j_istore 10 C dX6_counted_8 (lo' := [(5, .int (0 : Int32)), (4, .int (0 : Int32)), (3, .int (0 : Int32)), (2, .int (0 : Int32)), (0, .ref (gm g 0)), (1, .int x1)]) (by decide) rfl rfl ?_
  refine j_iconst 11 C dX6_counted_10 ic_0 rfl ?_
  refine j_istore 13 C dX6_counted_11 (lo' := [(6, .int (0 : Int32)), (5, .int (0 : Int32)), (4, .int (0 : Int32)), (3, .int (0 : Int32)), (2, .int (0 : Int32)), (0, .ref (gm g 0)), (1, .int x1)]) (by decide) rfl rfl ?_
  refine j_iconst 14 C dX6_counted_13 ic_0 rfl ?_
  refine j_istore 16 C dX6_counted_14 (lo' := [(7, .int (0 : Int32)), (6, .int (0 : Int32)), (5, .int (0 : Int32)), (4, .int (0 : Int32)), (3, .int (0 : Int32)), (2, .int (0 : Int32)), (0, .ref (gm g 0)), (1, .int x1)]) (by decide) rfl rfl ?_
  refine j_sub [6, 7, 5, 4, 3, 2, 1, 0] (lo' := [(0, .ref (gm g 0)), (1, .int x1), (2, .int (0 : Int32)), (3, .int (0 : Int32)), (4, .int (0 : Int32)), (5, .int (0 : Int32)), (6, .int (0 : Int32)), (7, .int (0 : Int32))]) rfl ?_
  exact wn_X6_counted_16 C K M  4096 lay σ (0 : Int32) (0 : Int32) (0 : Int32) (0 : Int32) (0 : Int32) (0 : Int32) h
theorem cp_X6_count : CPv yX6_count cX6_count 2 (some .int) RX6 1 := ⟨mw_1266, mw_1267, mw_105, mw_1268, rfl, by decide, by decide, by decide +kernel⟩
set_option maxHeartbeats 4000000 in
set_option maxRecDepth 100000 in
theorem wn_X6_count_16 {l : Launch} {p : Program} {e : Env} {s : State} {m : MethodId} {args : Array Value} {below : List Frame} {meth : Method} {c : Code} {g : GG} {A : Nat → Prop} (C : KX p m c cX6_count 2 s args RX6) (K : KC l g A s) (M : KM meth (some .int)) {σ' : RS} {r : Int32} {x1 : Int32}     (lay : Nat → Nat) (σ : RS) (w0 : Int32)  (h : B_X6_count_16 x1 σ w0 = some (σ', r)) : JJ p l e (rmk 2 47 0 0) s m args below meth c (MQ below (va_Qi (fun (r0 : Int32) (u : RS) => r0 = r ∧ u = σ') (BC (RH g A)) A) args s 0 0 A) A 2 (RH g A lay σ) 0 0 16 [(0, .ref (gm g 0)), (1, .int x1)] [.int w0, .ref (gm g 0)] := by
  unfold B_X6_count_16 at h
  refine p_M 19 C K 0 (by decide) rs_0 rfl mw_963 rfl rfl dX6_count_16 rfl (fun σ104 eσ104 => ?_)
  replace h := lt_e h σ104 eσ104
  refine j_aload_n 20 C dX6_count_19 0 rfl rfl ?_
  refine g_M 23 C K 0 (by decide) mw_963 rfl dX6_count_20 rfl ?_
  refine j_if_le 26 30 C dX6_count_23 (by decide) rfl (fun hc105 => ?_) (fun hc105 => ?_)
  · replace h := it_t hc105 h
    refine j_aload_n 31 C dX6_count_30 0 rfl rfl ?_
    refine j_iload_n 32 C dX6_count_31 1 rfl rfl ?_
    obtain ⟨σ106, r107, hF, h⟩ := bd_e h
    refine k_Vi 35 C K (c_X6_counted K.2.2.2 g A lay  hF) cp_X6_counted (rv_M) mw_1269 dX6_count_32 rfl rfl (Nat.le_of_ble_eq_true rfl) ⟨Nat.le_of_ble_eq_true rfl, Nat.le_of_ble_eq_true rfl⟩ ⟨Nat.le_of_ble_eq_true rfl, Nat.le_of_ble_eq_true rfl⟩ rfl (fun lay => ?_)
    cases h
    exact x_i C M dX6_count_35
  · replace h := it_f hc105 h
    refine j_iconst 27 C dX6_count_26 ic_0 rfl ?_
    refine j_goto 35 C dX6_count_27 (by decide) ?_
    cases h
    exact x_i C M dX6_count_35
set_option maxHeartbeats 4000000 in
set_option maxRecDepth 100000 in
theorem c_X6_count {l : Launch} (hst : l.stackTraces = false) (g : GG) (A : Nat → Prop) (lay : Nat → Nat) {σ : RS} {σ' : RS} {r : Int32} {x1 : Int32}  (h : F_X6_count σ x1 = some (σ', r)) : MI l yX6_count cX6_count 2 .int 2 47 0 0 [.ref (gm g 0), .int x1] (RH g A) g A lay σ σ' r := by
  unfold F_X6_count at h
  refine e_i (own := RX6) (lo := [(0, .ref (gm g 0)), (1, .int x1)]) hst (plainFor_of_name (by decide)) rfl rfl (Nat.le_of_ble_eq_true rfl) ?_
  intro p e s m args below meth c C K M
  refine j_aload_n 1 C dX6_count_0 0 rfl rfl ?_
  refine j_iload_n 2 C dX6_count_1 1 rfl rfl ?_
  refine j_iconst 3 C dX6_count_2 ic_0 rfl ?_
  refine j_bipush 5 C dX6_count_3 bp_11 rfl ?_
  obtain ⟨σ101, r102, hF, h⟩ := bd_e h
  refine k_Si 8 C K (c_X6_within K.2.2.2 g A lay  hF) cp_X6_within mw_1078 dX6_count_5 rfl rfl (Nat.le_of_ble_eq_true rfl) ⟨Nat.le_of_ble_eq_true rfl, Nat.le_of_ble_eq_true rfl⟩ ⟨Nat.le_of_ble_eq_true rfl, Nat.le_of_ble_eq_true rfl⟩ rfl (fun lay => ?_)
  refine j_if_eq 11 15 C dX6_count_8 (by decide) rfl (fun hc103 => ?_) (fun hc103 => ?_)
  · replace h := it_t hc103 h
    refine j_iconst 16 C dX6_count_15 ic_1 rfl ?_
    exact wn_X6_count_16 C K M  lay σ101 (1 : Int32) h
  · replace h := it_f hc103 h
    refine j_iconst 12 C dX6_count_11 ic_0 rfl ?_
    refine j_goto 16 C dX6_count_12 (by decide) ?_
    exact wn_X6_count_16 C K M  lay σ101 (0 : Int32) h
theorem cp_X6_nodeNow : CPv yX6_nodeNow cX6_nodeNow 3 (some .int) RX6 2 := ⟨mw_1279, mw_80, mw_105, mw_1280, rfl, by decide, by decide, by decide +kernel⟩
set_option maxHeartbeats 4000000 in
set_option maxRecDepth 100000 in
theorem c_X6_nodeNow {l : Launch} (hst : l.stackTraces = false) (g : GG) (A : Nat → Prop) (lay : Nat → Nat) {σ : RS} {σ' : RS} {r : Int32} {x1 : Int32} {x2 : Int32}  (h : F_X6_nodeNow σ x1 x2 = some (σ', r)) : MI l yX6_nodeNow cX6_nodeNow 3 .int 1 23 0 0 [.ref (gm g 0), .int x1, .int x2] (RH g A) g A lay σ σ' r := by
  unfold F_X6_nodeNow at h
  refine e_i (own := RX6) (lo := [(0, .ref (gm g 0)), (1, .int x1), (2, .int x2)]) hst (plainFor_of_name (by decide)) rfl rfl (Nat.le_of_ble_eq_true rfl) ?_
  intro p e s m args below meth c C K M
  refine j_iload_n 1 C dX6_nodeNow_0 2 rfl rfl ?_
  by_cases hc101 : x2 = 0
  · replace h := it_t hc101 h
    refine j_tin 48 C dX6_nodeNow_1 (off := 47) (by rw [hc101]; decide) (by rw [hc101]; decide) (by rw [hc101]; decide) (by decide) ?_
    refine j_aload_n 49 C dX6_nodeNow_48 0 rfl rfl ?_
    refine g_M 52 C K 4 (by decide) mw_967 rfl dX6_nodeNow_49 rfl ?_
    refine j_iload_n 53 C dX6_nodeNow_52 1 rfl rfl ?_
    obtain ⟨hz102, h⟩ := gd_e h
    refine m_zld 54 C K ra_4 hz102 dX6_nodeNow_53 rfl ?_
    refine j_if_eq 57 61 C dX6_nodeNow_54 (by decide) rfl (fun hc103 => ?_) (fun hc103 => ?_)
    · replace h := it_t hc103 h
      refine j_iconst 62 C dX6_nodeNow_61 ic_0 rfl ?_
      cases h
      exact x_i C M dX6_nodeNow_62
    · replace h := it_f hc103 h
      refine j_iconst 58 C dX6_nodeNow_57 ic_1 rfl ?_
      refine j_goto 62 C dX6_nodeNow_58 (by decide) ?_
      cases h
      exact x_i C M dX6_nodeNow_62
  replace h := it_f hc101 h
  by_cases hc104 : x2 = 1
  · replace h := it_t hc104 h
    refine j_tin 63 C dX6_nodeNow_1 (off := 62) (by rw [hc104]; decide) (by rw [hc104]; decide) (by rw [hc104]; decide) (by decide) ?_
    refine j_aload_n 64 C dX6_nodeNow_63 0 rfl rfl ?_
    refine g_M 67 C K 5 (by decide) mw_968 rfl dX6_nodeNow_64 rfl ?_
    refine j_iload_n 68 C dX6_nodeNow_67 1 rfl rfl ?_
    obtain ⟨hz105, h⟩ := gd_e h
    refine m_zld 69 C K ra_5 hz105 dX6_nodeNow_68 rfl ?_
    refine j_if_eq 72 76 C dX6_nodeNow_69 (by decide) rfl (fun hc106 => ?_) (fun hc106 => ?_)
    · replace h := it_t hc106 h
      refine j_iconst 77 C dX6_nodeNow_76 ic_0 rfl ?_
      cases h
      exact x_i C M dX6_nodeNow_77
    · replace h := it_f hc106 h
      refine j_iconst 73 C dX6_nodeNow_72 ic_1 rfl ?_
      refine j_goto 77 C dX6_nodeNow_73 (by decide) ?_
      cases h
      exact x_i C M dX6_nodeNow_77
  replace h := it_f hc104 h
  by_cases hc107 : x2 = 2
  · replace h := it_t hc107 h
    refine j_tin 78 C dX6_nodeNow_1 (off := 77) (by rw [hc107]; decide) (by rw [hc107]; decide) (by rw [hc107]; decide) (by decide) ?_
    refine j_aload_n 79 C dX6_nodeNow_78 0 rfl rfl ?_
    refine g_M 82 C K 6 (by decide) mw_969 rfl dX6_nodeNow_79 rfl ?_
    refine j_iload_n 83 C dX6_nodeNow_82 1 rfl rfl ?_
    obtain ⟨hz108, h⟩ := gd_e h
    refine m_ild 84 C K ra_6 hz108 dX6_nodeNow_83 rfl ?_
    cases h
    exact x_i C M dX6_nodeNow_84
  replace h := it_f hc107 h
  by_cases hc109 : x2 = 3
  · replace h := it_t hc109 h
    refine j_tin 85 C dX6_nodeNow_1 (off := 84) (by rw [hc109]; decide) (by rw [hc109]; decide) (by rw [hc109]; decide) (by decide) ?_
    refine j_aload_n 86 C dX6_nodeNow_85 0 rfl rfl ?_
    refine g_M 89 C K 11 (by decide) mw_974 rfl dX6_nodeNow_86 rfl ?_
    refine j_iload_n 90 C dX6_nodeNow_89 1 rfl rfl ?_
    obtain ⟨hz110, h⟩ := gd_e h
    refine m_ild 91 C K ra_11 hz110 dX6_nodeNow_90 rfl ?_
    cases h
    exact x_i C M dX6_nodeNow_91
  replace h := it_f hc109 h
  by_cases hc111 : x2 = 4
  · replace h := it_t hc111 h
    refine j_tin 92 C dX6_nodeNow_1 (off := 91) (by rw [hc111]; decide) (by rw [hc111]; decide) (by rw [hc111]; decide) (by decide) ?_
    refine j_aload_n 93 C dX6_nodeNow_92 0 rfl rfl ?_
    refine g_M 96 C K 8 (by decide) mw_971 rfl dX6_nodeNow_93 rfl ?_
    refine j_iload_n 97 C dX6_nodeNow_96 1 rfl rfl ?_
    obtain ⟨hz112, h⟩ := gd_e h
    refine m_ild 98 C K ra_8 hz112 dX6_nodeNow_97 rfl ?_
    cases h
    exact x_i C M dX6_nodeNow_98
  replace h := it_f hc111 h
  by_cases hc113 : x2 = 5
  · replace h := it_t hc113 h
    refine j_tin 99 C dX6_nodeNow_1 (off := 98) (by rw [hc113]; decide) (by rw [hc113]; decide) (by rw [hc113]; decide) (by decide) ?_
    refine j_aload_n 100 C dX6_nodeNow_99 0 rfl rfl ?_
    refine g_M 103 C K 14 (by decide) mw_977 rfl dX6_nodeNow_100 rfl ?_
    refine j_iload_n 104 C dX6_nodeNow_103 1 rfl rfl ?_
    obtain ⟨hz114, h⟩ := gd_e h
    refine m_ild 105 C K ra_14 hz114 dX6_nodeNow_104 rfl ?_
    cases h
    exact x_i C M dX6_nodeNow_105
  replace h := it_f hc113 h
  by_cases hc115 : x2 = 6
  · replace h := it_t hc115 h
    refine j_tin 106 C dX6_nodeNow_1 (off := 105) (by rw [hc115]; decide) (by rw [hc115]; decide) (by rw [hc115]; decide) (by decide) ?_
    refine j_aload_n 107 C dX6_nodeNow_106 0 rfl rfl ?_
    refine g_M 110 C K 7 (by decide) mw_970 rfl dX6_nodeNow_107 rfl ?_
    refine j_iload_n 111 C dX6_nodeNow_110 1 rfl rfl ?_
    obtain ⟨hz116, h⟩ := gd_e h
    refine m_ild 112 C K ra_7 hz116 dX6_nodeNow_111 rfl ?_
    cases h
    exact x_i C M dX6_nodeNow_112
  replace h := it_f hc115 h
  by_cases hc117 : x2 = 7
  · replace h := it_t hc117 h
    refine j_tin 113 C dX6_nodeNow_1 (off := 112) (by rw [hc117]; decide) (by rw [hc117]; decide) (by rw [hc117]; decide) (by decide) ?_
    refine j_aload_n 114 C dX6_nodeNow_113 0 rfl rfl ?_
    refine g_M 117 C K 18 (by decide) mw_981 rfl dX6_nodeNow_114 rfl ?_
    refine j_iload_n 118 C dX6_nodeNow_117 1 rfl rfl ?_
    obtain ⟨hz118, h⟩ := gd_e h
    refine m_ild 119 C K ra_18 hz118 dX6_nodeNow_118 rfl ?_
    cases h
    exact x_i C M dX6_nodeNow_119
  replace h := it_f hc117 h
  refine j_tout 120 C dX6_nodeNow_1 (by have := lv_neT hc101 (a := 0) (by decide); have := lv_neT hc104 (a := 1) (by decide); have := lv_neT hc107 (a := 2) (by decide); have := lv_neT hc109 (a := 3) (by decide); have := lv_neT hc111 (a := 4) (by decide); have := lv_neT hc113 (a := 5) (by decide); have := lv_neT hc115 (a := 6) (by decide); have := lv_neT hc117 (a := 7) (by decide); omega) (by decide) ?_
  refine j_aload_n 121 C dX6_nodeNow_120 0 rfl rfl ?_
  refine j_iload_n 122 C dX6_nodeNow_121 1 rfl rfl ?_
  obtain ⟨σ119, r120, hF, h⟩ := bd_e h
  refine k_Vi 125 C K (c_X6_nextBallot K.2.2.2 g A lay  hF) cp_X6_nextBallot (rv_M) mw_1105 dX6_nodeNow_122 rfl rfl (Nat.le_of_ble_eq_true rfl) ⟨Nat.le_of_ble_eq_true rfl, Nat.le_of_ble_eq_true rfl⟩ ⟨Nat.le_of_ble_eq_true rfl, Nat.le_of_ble_eq_true rfl⟩ rfl (fun lay => ?_)
  cases h
  exact x_i C M dX6_nodeNow_125
theorem cp_X6_node : CPv yX6_node cX6_node 3 (some .int) RX6 2 := ⟨mw_1274, mw_1275, mw_105, mw_1276, rfl, by decide, by decide, by decide +kernel⟩
set_option maxHeartbeats 4000000 in
set_option maxRecDepth 100000 in
theorem wn_X6_node_28 {l : Launch} {p : Program} {e : Env} {s : State} {m : MethodId} {args : Array Value} {below : List Frame} {meth : Method} {c : Code} {g : GG} {A : Nat → Prop} (C : KX p m c cX6_node 3 s args RX6) (K : KC l g A s) (M : KM meth (some .int)) {σ' : RS} {r : Int32} {x1 : Int32} {x2 : Int32}     (lay : Nat → Nat) (σ : RS) (w0 : Int32)  (h : B_X6_node_28 x1 x2 σ w0 = some (σ', r)) : JJ p l e (rmk 2 45 0 0) s m args below meth c (MQ below (va_Qi (fun (r0 : Int32) (u : RS) => r0 = r ∧ u = σ') (BC (RH g A)) A) args s 0 0 A) A 3 (RH g A lay σ) 0 0 28 [(0, .ref (gm g 0)), (1, .int x1), (2, .int x2)] [.int w0, .ref (gm g 0)] := by
  unfold B_X6_node_28 at h
  refine p_M 31 C K 0 (by decide) rs_0 rfl mw_963 rfl rfl dX6_node_28 rfl (fun σ107 eσ107 => ?_)
  replace h := lt_e h σ107 eσ107
  refine j_aload_n 32 C dX6_node_31 0 rfl rfl ?_
  refine g_M 35 C K 0 (by decide) mw_963 rfl dX6_node_32 rfl ?_
  refine j_if_le 38 42 C dX6_node_35 (by decide) rfl (fun hc108 => ?_) (fun hc108 => ?_)
  · replace h := it_t hc108 h
    refine j_aload_n 43 C dX6_node_42 0 rfl rfl ?_
    refine j_iload_n 44 C dX6_node_43 1 rfl rfl ?_
    refine j_iload_n 45 C dX6_node_44 2 rfl rfl ?_
    obtain ⟨σ109, r110, hF, h⟩ := bd_e h
    refine k_Vi 48 C K (c_X6_nodeNow K.2.2.2 g A lay  hF) cp_X6_nodeNow (rv_M) mw_1277 dX6_node_45 rfl rfl (Nat.le_of_ble_eq_true rfl) ⟨Nat.le_of_ble_eq_true rfl, Nat.le_of_ble_eq_true rfl⟩ ⟨Nat.le_of_ble_eq_true rfl, Nat.le_of_ble_eq_true rfl⟩ rfl (fun lay => ?_)
    cases h
    exact x_i C M dX6_node_48
  · replace h := it_f hc108 h
    refine j_iconst 39 C dX6_node_38 ic_0 rfl ?_
    refine j_goto 48 C dX6_node_39 (by decide) ?_
    cases h
    exact x_i C M dX6_node_48
set_option maxHeartbeats 4000000 in
set_option maxRecDepth 100000 in
theorem c_X6_node {l : Launch} (hst : l.stackTraces = false) (g : GG) (A : Nat → Prop) (lay : Nat → Nat) {σ : RS} {σ' : RS} {r : Int32} {x1 : Int32} {x2 : Int32}  (h : F_X6_node σ x1 x2 = some (σ', r)) : MI l yX6_node cX6_node 3 .int 2 45 0 0 [.ref (gm g 0), .int x1, .int x2] (RH g A) g A lay σ σ' r := by
  unfold F_X6_node at h
  refine e_i (own := RX6) (lo := [(0, .ref (gm g 0)), (1, .int x1), (2, .int x2)]) hst (plainFor_of_name (by decide)) rfl rfl (Nat.le_of_ble_eq_true rfl) ?_
  intro p e s m args below meth c C K M
  refine j_aload_n 1 C dX6_node_0 0 rfl rfl ?_
  refine j_aload_n 2 C dX6_node_1 0 rfl rfl ?_
  refine j_iload_n 3 C dX6_node_2 1 rfl rfl ?_
  obtain ⟨σ101, r102, hF, h⟩ := bd_e h
  refine k_Vi 6 C K (c_X6_isNode K.2.2.2 g A lay  hF) cp_X6_isNode (rv_M) mw_1093 dX6_node_3 rfl rfl (Nat.le_of_ble_eq_true rfl) ⟨Nat.le_of_ble_eq_true rfl, Nat.le_of_ble_eq_true rfl⟩ ⟨Nat.le_of_ble_eq_true rfl, Nat.le_of_ble_eq_true rfl⟩ rfl (fun lay => ?_)
  refine j_if_ne 9 13 C dX6_node_6 (by decide) rfl (fun hc103 => ?_) (fun hc103 => ?_)
  · replace h := it_f hc103 h
    refine j_iload_n 14 C dX6_node_13 2 rfl rfl ?_
    refine j_iconst 15 C dX6_node_14 ic_0 rfl ?_
    refine j_bipush 17 C dX6_node_15 bp_8 rfl ?_
    obtain ⟨σ104, r105, hF, h⟩ := bd_e h
    refine k_Si 20 C K (c_X6_within K.2.2.2 g A lay  hF) cp_X6_within mw_1078 dX6_node_17 rfl rfl (Nat.le_of_ble_eq_true rfl) ⟨Nat.le_of_ble_eq_true rfl, Nat.le_of_ble_eq_true rfl⟩ ⟨Nat.le_of_ble_eq_true rfl, Nat.le_of_ble_eq_true rfl⟩ rfl (fun lay => ?_)
    refine j_if_eq 23 27 C dX6_node_20 (by decide) rfl (fun hc106 => ?_) (fun hc106 => ?_)
    · replace h := it_t hc106 h
      refine j_iconst 28 C dX6_node_27 ic_2 rfl ?_
      exact wn_X6_node_28 C K M  lay σ104 (2 : Int32) h
    · replace h := it_f hc106 h
      refine j_iconst 24 C dX6_node_23 ic_0 rfl ?_
      refine j_goto 28 C dX6_node_24 (by decide) ?_
      exact wn_X6_node_28 C K M  lay σ104 (0 : Int32) h
  · replace h := it_t hc103 h
    refine j_iconst 10 C dX6_node_9 ic_1 rfl ?_
    refine j_goto 28 C dX6_node_10 (by decide) ?_
    exact wn_X6_node_28 C K M  lay σ101 (1 : Int32) h
theorem cp_X6_acceptedNow : CPv yX6_acceptedNow cX6_acceptedNow 5 (some .int) RX6 3 := ⟨mw_1287, mw_81, mw_105, mw_1288, rfl, by decide, by decide, by decide +kernel⟩
set_option maxHeartbeats 4000000 in
set_option maxRecDepth 100000 in
theorem c_X6_acceptedNow {l : Launch} (hst : l.stackTraces = false) (g : GG) (A : Nat → Prop) (lay : Nat → Nat) {σ : RS} {σ' : RS} {r : Int32} {x1 : Int32} {x2 : Int32} {x3 : Int32}  (h : F_X6_acceptedNow σ x1 x2 x3 = some (σ', r)) : MI l yX6_acceptedNow cX6_acceptedNow 5 .int 1 21 0 0 [.ref (gm g 0), .int x1, .int x2, .int x3] (RH g A) g A lay σ σ' r := by
  unfold F_X6_acceptedNow at h
  refine e_i (own := RX6) (lo := [(0, .ref (gm g 0)), (1, .int x1), (2, .int x2), (3, .int x3)]) hst (plainFor_of_name (by decide)) rfl rfl (Nat.le_of_ble_eq_true rfl) ?_
  intro p e s m args below meth c C K M
  refine j_iload_n 1 C dX6_acceptedNow_0 1 rfl rfl ?_
  refine j_iload_n 2 C dX6_acceptedNow_1 2 rfl rfl ?_
  obtain ⟨σ101, r102, hF, h⟩ := bd_e h
  refine k_Si 5 C K (c_X6_at K.2.2.2 g A lay  hF) cp_X6_at mw_956 dX6_acceptedNow_2 rfl rfl (Nat.le_of_ble_eq_true rfl) ⟨Nat.le_of_ble_eq_true rfl, Nat.le_of_ble_eq_true rfl⟩ ⟨Nat.le_of_ble_eq_true rfl, Nat.le_of_ble_eq_true rfl⟩ rfl (fun lay => ?_)
  refine j_istore 7 C dX6_acceptedNow_5 (lo' := [(4, .int r102), (0, .ref (gm g 0)), (1, .int x1), (2, .int x2), (3, .int x3)]) (by decide) rfl rfl ?_
  refine j_iload_n 8 C dX6_acceptedNow_7 4 rfl rfl ?_
  refine j_if_ne 11 21 C dX6_acceptedNow_8 (by decide) rfl (fun hc103 => ?_) (fun hc103 => ?_)
  · replace h := it_f hc103 h
    refine j_iload_n 22 C dX6_acceptedNow_21 4 rfl rfl ?_
    refine j_iconst 23 C dX6_acceptedNow_22 ic_1 rfl ?_
    refine j_icmp_ne 26 36 C dX6_acceptedNow_23 (by decide) rfl (fun hc104 => ?_) (fun hc104 => ?_)
    · replace h := it_f hc104 h
      refine j_iload_n 37 C dX6_acceptedNow_36 4 rfl rfl ?_
      refine j_iconst 38 C dX6_acceptedNow_37 ic_2 rfl ?_
      refine j_icmp_ne 41 51 C dX6_acceptedNow_38 (by decide) rfl (fun hc105 => ?_) (fun hc105 => ?_)
      · replace h := it_f hc105 h
        refine j_aload_n 52 C dX6_acceptedNow_51 1 rfl rfl ?_
        refine g_M 55 C K 10 (by decide) mw_973 rfl dX6_acceptedNow_52 rfl ?_
        refine j_iload 57 C dX6_acceptedNow_55 0 rfl rfl ?_
        obtain ⟨hz106, h⟩ := gd_e h
        refine m_ild 58 C K ra_10 hz106 dX6_acceptedNow_57 rfl ?_
        cases h
        exact x_i C M dX6_acceptedNow_58
      · replace h := it_t hc105 h
        refine j_aload_n 42 C dX6_acceptedNow_41 1 rfl rfl ?_
        refine g_M 45 C K 9 (by decide) mw_972 rfl dX6_acceptedNow_42 rfl ?_
        refine j_iload 47 C dX6_acceptedNow_45 0 rfl rfl ?_
        obtain ⟨hz107, h⟩ := gd_e h
        refine m_ild 48 C K ra_9 hz107 dX6_acceptedNow_47 rfl ?_
        refine j_goto 58 C dX6_acceptedNow_48 (by decide) ?_
        cases h
        exact x_i C M dX6_acceptedNow_58
    · replace h := it_t hc104 h
      refine j_aload_n 27 C dX6_acceptedNow_26 1 rfl rfl ?_
      refine g_M 30 C K 13 (by decide) mw_976 rfl dX6_acceptedNow_27 rfl ?_
      refine j_iload 32 C dX6_acceptedNow_30 0 rfl rfl ?_
      obtain ⟨hz108, h⟩ := gd_e h
      refine m_ild 33 C K ra_13 hz108 dX6_acceptedNow_32 rfl ?_
      refine j_goto 58 C dX6_acceptedNow_33 (by decide) ?_
      cases h
      exact x_i C M dX6_acceptedNow_58
  · replace h := it_t hc103 h
    refine j_aload_n 12 C dX6_acceptedNow_11 1 rfl rfl ?_
    refine g_M 15 C K 12 (by decide) mw_975 rfl dX6_acceptedNow_12 rfl ?_
    refine j_iload 17 C dX6_acceptedNow_15 0 rfl rfl ?_
    obtain ⟨hz109, h⟩ := gd_e h
    refine m_ild 18 C K ra_12 hz109 dX6_acceptedNow_17 rfl ?_
    refine j_goto 58 C dX6_acceptedNow_18 (by decide) ?_
    cases h
    exact x_i C M dX6_acceptedNow_58
theorem cp_X6_accepted : CPv yX6_accepted cX6_accepted 4 (some .int) RX6 3 := ⟨mw_1282, mw_1283, mw_105, mw_1284, rfl, by decide, by decide, by decide +kernel⟩
set_option maxHeartbeats 4000000 in
set_option maxRecDepth 100000 in
theorem wn_X6_accepted_35 {l : Launch} {p : Program} {e : Env} {s : State} {m : MethodId} {args : Array Value} {below : List Frame} {meth : Method} {c : Code} {g : GG} {A : Nat → Prop} (C : KX p m c cX6_accepted 4 s args RX6) (K : KC l g A s) (M : KM meth (some .int)) {σ' : RS} {r : Int32} {x1 : Int32} {x2 : Int32} {x3 : Int32}     (lay : Nat → Nat) (σ : RS) (w0 : Int32)  (h : B_X6_accepted_35 x1 x2 x3 σ w0 = some (σ', r)) : JJ p l e (rmk 2 45 0 0) s m args below meth c (MQ below (va_Qi (fun (r0 : Int32) (u : RS) => r0 = r ∧ u = σ') (BC (RH g A)) A) args s 0 0 A) A 4 (RH g A lay σ) 0 0 35 [(0, .ref (gm g 0)), (1, .int x1), (2, .int x2), (3, .int x3)] [.int w0, .ref (gm g 0)] := by
  unfold B_X6_accepted_35 at h
  refine p_M 38 C K 0 (by decide) rs_0 rfl mw_963 rfl rfl dX6_accepted_35 rfl (fun σ110 eσ110 => ?_)
  replace h := lt_e h σ110 eσ110
  refine j_aload_n 39 C dX6_accepted_38 0 rfl rfl ?_
  refine g_M 42 C K 0 (by decide) mw_963 rfl dX6_accepted_39 rfl ?_
  refine j_if_le 45 49 C dX6_accepted_42 (by decide) rfl (fun hc111 => ?_) (fun hc111 => ?_)
  · replace h := it_t hc111 h
    refine j_aload_n 50 C dX6_accepted_49 0 rfl rfl ?_
    refine j_iload_n 51 C dX6_accepted_50 1 rfl rfl ?_
    refine j_iload_n 52 C dX6_accepted_51 2 rfl rfl ?_
    refine j_iload_n 53 C dX6_accepted_52 3 rfl rfl ?_
    obtain ⟨σ112, r113, hF, h⟩ := bd_e h
    refine k_Vi 56 C K (c_X6_acceptedNow K.2.2.2 g A lay  hF) cp_X6_acceptedNow (rv_M) mw_1285 dX6_accepted_53 rfl rfl (Nat.le_of_ble_eq_true rfl) ⟨Nat.le_of_ble_eq_true rfl, Nat.le_of_ble_eq_true rfl⟩ ⟨Nat.le_of_ble_eq_true rfl, Nat.le_of_ble_eq_true rfl⟩ rfl (fun lay => ?_)
    cases h
    exact x_i C M dX6_accepted_56
  · replace h := it_f hc111 h
    refine j_iconst 46 C dX6_accepted_45 ic_0 rfl ?_
    refine j_goto 56 C dX6_accepted_46 (by decide) ?_
    cases h
    exact x_i C M dX6_accepted_56
set_option maxHeartbeats 4000000 in
set_option maxRecDepth 100000 in
theorem wn_X6_accepted_17 {l : Launch} {p : Program} {e : Env} {s : State} {m : MethodId} {args : Array Value} {below : List Frame} {meth : Method} {c : Code} {g : GG} {A : Nat → Prop} (C : KX p m c cX6_accepted 4 s args RX6) (K : KC l g A s) (M : KM meth (some .int)) {σ' : RS} {r : Int32} {x1 : Int32} {x2 : Int32} {x3 : Int32}     (lay : Nat → Nat) (σ : RS)   (h : B_X6_accepted_17 x1 x2 x3 σ  = some (σ', r)) : JJ p l e (rmk 2 45 0 0) s m args below meth c (MQ below (va_Qi (fun (r0 : Int32) (u : RS) => r0 = r ∧ u = σ') (BC (RH g A)) A) args s 0 0 A) A 4 (RH g A lay σ) 0 0 17 [(0, .ref (gm g 0)), (1, .int x1), (2, .int x2), (3, .int x3)] [.ref (gm g 0)] := by
  unfold B_X6_accepted_17 at h
  refine j_iconst 18 C dX6_accepted_17 ic_1 rfl ?_
  refine j_goto 35 C dX6_accepted_18 (by decide) ?_
  exact wn_X6_accepted_35 C K M  lay σ (1 : Int32) h
set_option maxHeartbeats 4000000 in
set_option maxRecDepth 100000 in
theorem c_X6_accepted {l : Launch} (hst : l.stackTraces = false) (g : GG) (A : Nat → Prop) (lay : Nat → Nat) {σ : RS} {σ' : RS} {r : Int32} {x1 : Int32} {x2 : Int32} {x3 : Int32}  (h : F_X6_accepted σ x1 x2 x3 = some (σ', r)) : MI l yX6_accepted cX6_accepted 4 .int 2 45 0 0 [.ref (gm g 0), .int x1, .int x2, .int x3] (RH g A) g A lay σ σ' r := by
  unfold F_X6_accepted at h
  refine e_i (own := RX6) (lo := [(0, .ref (gm g 0)), (1, .int x1), (2, .int x2), (3, .int x3)]) hst (plainFor_of_name (by decide)) rfl rfl (Nat.le_of_ble_eq_true rfl) ?_
  intro p e s m args below meth c C K M
  refine j_aload_n 1 C dX6_accepted_0 0 rfl rfl ?_
  refine j_aload_n 2 C dX6_accepted_1 0 rfl rfl ?_
  refine j_iload_n 3 C dX6_accepted_2 1 rfl rfl ?_
  obtain ⟨σ101, r102, hF, h⟩ := bd_e h
  refine k_Vi 6 C K (c_X6_isNode K.2.2.2 g A lay  hF) cp_X6_isNode (rv_M) mw_1093 dX6_accepted_3 rfl rfl (Nat.le_of_ble_eq_true rfl) ⟨Nat.le_of_ble_eq_true rfl, Nat.le_of_ble_eq_true rfl⟩ ⟨Nat.le_of_ble_eq_true rfl, Nat.le_of_ble_eq_true rfl⟩ rfl (fun lay => ?_)
  refine j_if_eq 9 17 C dX6_accepted_6 (by decide) rfl (fun hc103 => ?_) (fun hc103 => ?_)
  · replace h := it_t hc103 h
    exact wn_X6_accepted_17 C K M  lay σ101  h
  · replace h := it_f hc103 h
    refine j_aload_n 10 C dX6_accepted_9 0 rfl rfl ?_
    refine j_iload_n 11 C dX6_accepted_10 2 rfl rfl ?_
    obtain ⟨σ104, r105, hF, h⟩ := bd_e h
    refine k_Vi 14 C K (c_X6_isSlot K.2.2.2 g A lay  hF) cp_X6_isSlot (rv_M) mw_1141 dX6_accepted_11 rfl rfl (Nat.le_of_ble_eq_true rfl) ⟨Nat.le_of_ble_eq_true rfl, Nat.le_of_ble_eq_true rfl⟩ ⟨Nat.le_of_ble_eq_true rfl, Nat.le_of_ble_eq_true rfl⟩ rfl (fun lay => ?_)
    refine j_if_ne 17 21 C dX6_accepted_14 (by decide) rfl (fun hc106 => ?_) (fun hc106 => ?_)
    · replace h := it_f hc106 h
      refine j_iload_n 22 C dX6_accepted_21 3 rfl rfl ?_
      refine j_iconst 23 C dX6_accepted_22 ic_0 rfl ?_
      refine j_iconst 24 C dX6_accepted_23 ic_3 rfl ?_
      obtain ⟨σ107, r108, hF, h⟩ := bd_e h
      refine k_Si 27 C K (c_X6_within K.2.2.2 g A lay  hF) cp_X6_within mw_1078 dX6_accepted_24 rfl rfl (Nat.le_of_ble_eq_true rfl) ⟨Nat.le_of_ble_eq_true rfl, Nat.le_of_ble_eq_true rfl⟩ ⟨Nat.le_of_ble_eq_true rfl, Nat.le_of_ble_eq_true rfl⟩ rfl (fun lay => ?_)
      refine j_if_eq 30 34 C dX6_accepted_27 (by decide) rfl (fun hc109 => ?_) (fun hc109 => ?_)
      · replace h := it_t hc109 h
        refine j_iconst 35 C dX6_accepted_34 ic_2 rfl ?_
        exact wn_X6_accepted_35 C K M  lay σ107 (2 : Int32) h
      · replace h := it_f hc109 h
        refine j_iconst 31 C dX6_accepted_30 ic_0 rfl ?_
        refine j_goto 35 C dX6_accepted_31 (by decide) ?_
        exact wn_X6_accepted_35 C K M  lay σ107 (0 : Int32) h
    · replace h := it_t hc106 h
      exact wn_X6_accepted_17 C K M  lay σ104  h
theorem cp_X6_waitingNow : CPv yX6_waitingNow cX6_waitingNow 5 (some .int) RX6 3 := ⟨mw_1295, mw_82, mw_105, mw_1296, rfl, by decide, by decide, by decide +kernel⟩
set_option maxHeartbeats 4000000 in
set_option maxRecDepth 100000 in
theorem c_X6_waitingNow {l : Launch} (hst : l.stackTraces = false) (g : GG) (A : Nat → Prop) (lay : Nat → Nat) {σ : RS} {σ' : RS} {r : Int32} {x1 : Int32} {x2 : Int32} {x3 : Int32}  (h : F_X6_waitingNow σ x1 x2 x3 = some (σ', r)) : MI l yX6_waitingNow cX6_waitingNow 5 .int 0 0 0 0 [.ref (gm g 0), .int x1, .int x2, .int x3] (RH g A) g A lay σ σ' r := by
  unfold F_X6_waitingNow at h
  refine e_i (own := RX6) (lo := [(0, .ref (gm g 0)), (1, .int x1), (2, .int x2), (3, .int x3)]) hst (plainFor_of_name (by decide)) rfl rfl (Nat.le_of_ble_eq_true rfl) ?_
  intro p e s m args below meth c C K M
  refine j_sipush 3 C dX6_waitingNow_0 sp_2048 rfl ?_
  refine j_iload_n 4 C dX6_waitingNow_3 1 rfl rfl ?_
  refine j_imul 5 C dX6_waitingNow_4 rfl ?_
  refine j_iload_n 6 C dX6_waitingNow_5 2 rfl rfl ?_
  refine j_iadd 7 C dX6_waitingNow_6 rfl ?_
  refine j_topi (fun x101 ex101 => ?_)
  replace h := lt_e h x101 ex101
  refine j_istore 9 C dX6_waitingNow_7 (lo' := [(4, .int x101), (0, .ref (gm g 0)), (1, .int x1), (2, .int x2), (3, .int x3)]) (by decide) rfl rfl ?_
  refine j_iload_n 10 C dX6_waitingNow_9 4 rfl rfl ?_
  refine j_if_ne 13 23 C dX6_waitingNow_10 (by decide) rfl (fun hc102 => ?_) (fun hc102 => ?_)
  · replace h := it_f hc102 h
    refine j_iload_n 24 C dX6_waitingNow_23 4 rfl rfl ?_
    refine j_iconst 25 C dX6_waitingNow_24 ic_1 rfl ?_
    refine j_icmp_ne 28 38 C dX6_waitingNow_25 (by decide) rfl (fun hc103 => ?_) (fun hc103 => ?_)
    · replace h := it_f hc103 h
      refine j_aload_n 39 C dX6_waitingNow_38 1 rfl rfl ?_
      refine g_M 42 C K 17 (by decide) mw_980 rfl dX6_waitingNow_39 rfl ?_
      refine j_iload 44 C dX6_waitingNow_42 0 rfl rfl ?_
      obtain ⟨hz104, h⟩ := gd_e h
      refine m_ild 45 C K ra_17 hz104 dX6_waitingNow_44 rfl ?_
      cases h
      exact x_i C M dX6_waitingNow_45
    · replace h := it_t hc103 h
      refine j_aload_n 29 C dX6_waitingNow_28 1 rfl rfl ?_
      refine g_M 32 C K 16 (by decide) mw_979 rfl dX6_waitingNow_29 rfl ?_
      refine j_iload 34 C dX6_waitingNow_32 0 rfl rfl ?_
      obtain ⟨hz105, h⟩ := gd_e h
      refine m_ild 35 C K ra_16 hz105 dX6_waitingNow_34 rfl ?_
      refine j_goto 45 C dX6_waitingNow_35 (by decide) ?_
      cases h
      exact x_i C M dX6_waitingNow_45
  · replace h := it_t hc102 h
    refine j_aload_n 14 C dX6_waitingNow_13 1 rfl rfl ?_
    refine g_M 17 C K 15 (by decide) mw_978 rfl dX6_waitingNow_14 rfl ?_
    refine j_iload 19 C dX6_waitingNow_17 0 rfl rfl ?_
    obtain ⟨hz106, h⟩ := gd_e h
    refine m_ild 20 C K ra_15 hz106 dX6_waitingNow_19 rfl ?_
    refine j_goto 45 C dX6_waitingNow_20 (by decide) ?_
    cases h
    exact x_i C M dX6_waitingNow_45
theorem cp_X6_waiting : CPv yX6_waiting cX6_waiting 5 (some .int) RX6 3 := ⟨mw_1290, mw_1291, mw_105, mw_1292, rfl, by decide, by decide, by decide +kernel⟩
set_option maxHeartbeats 4000000 in
set_option maxRecDepth 100000 in
theorem wn_X6_waiting_55 {l : Launch} {p : Program} {e : Env} {s : State} {m : MethodId} {args : Array Value} {below : List Frame} {meth : Method} {c : Code} {g : GG} {A : Nat → Prop} (C : KX p m c cX6_waiting 5 s args RX6) (K : KC l g A s) (M : KM meth (some .int)) {σ' : RS} {r : Int32} {x1 : Int32} {x2 : Int32} {x3 : Int32}     (lay : Nat → Nat) (σ : RS) (w0 : Int32)  (h : B_X6_waiting_55 x1 x2 x3 σ w0 = some (σ', r)) : JJ p l e (rmk 2 43 0 0) s m args below meth c (MQ below (va_Qi (fun (r0 : Int32) (u : RS) => r0 = r ∧ u = σ') (BC (RH g A)) A) args s 0 0 A) A 5 (RH g A lay σ) 0 0 55 [(0, .ref (gm g 0)), (1, .int x1), (2, .int x2), (3, .int x3)] [.int w0, .ref (gm g 0)] := by
  unfold B_X6_waiting_55 at h
  refine p_M 58 C K 0 (by decide) rs_0 rfl mw_963 rfl rfl dX6_waiting_55 rfl (fun σ112 eσ112 => ?_)
  replace h := lt_e h σ112 eσ112
  refine j_aload_n 59 C dX6_waiting_58 0 rfl rfl ?_
  refine g_M 62 C K 0 (by decide) mw_963 rfl dX6_waiting_59 rfl ?_
  refine j_if_le 65 69 C dX6_waiting_62 (by decide) rfl (fun hc113 => ?_) (fun hc113 => ?_)
  · replace h := it_t hc113 h
    refine j_aload_n 70 C dX6_waiting_69 0 rfl rfl ?_
    refine j_iload_n 71 C dX6_waiting_70 1 rfl rfl ?_
    refine j_iload_n 72 C dX6_waiting_71 2 rfl rfl ?_
    refine j_iload_n 73 C dX6_waiting_72 3 rfl rfl ?_
    obtain ⟨σ114, r115, hF, h⟩ := bd_e h
    refine k_Vi 76 C K (c_X6_waitingNow K.2.2.2 g A lay  hF) cp_X6_waitingNow (rv_M) mw_1293 dX6_waiting_73 rfl rfl (Nat.le_of_ble_eq_true rfl) ⟨Nat.le_of_ble_eq_true rfl, Nat.le_of_ble_eq_true rfl⟩ ⟨Nat.le_of_ble_eq_true rfl, Nat.le_of_ble_eq_true rfl⟩ rfl (fun lay => ?_)
    cases h
    exact x_i C M dX6_waiting_76
  · replace h := it_f hc113 h
    refine j_iconst 66 C dX6_waiting_65 ic_0 rfl ?_
    refine j_goto 76 C dX6_waiting_66 (by decide) ?_
    cases h
    exact x_i C M dX6_waiting_76
set_option maxHeartbeats 4000000 in
set_option maxRecDepth 100000 in
theorem wn_X6_waiting_29 {l : Launch} {p : Program} {e : Env} {s : State} {m : MethodId} {args : Array Value} {below : List Frame} {meth : Method} {c : Code} {g : GG} {A : Nat → Prop} (C : KX p m c cX6_waiting 5 s args RX6) (K : KC l g A s) (M : KM meth (some .int)) {σ' : RS} {r : Int32} {x1 : Int32} {x2 : Int32} {x3 : Int32}     (lay : Nat → Nat) (σ : RS) (w0 : Int32)  (h : B_X6_waiting_29 x1 x2 x3 σ w0 = some (σ', r)) : JJ p l e (rmk 2 43 0 0) s m args below meth c (MQ below (va_Qi (fun (r0 : Int32) (u : RS) => r0 = r ∧ u = σ') (BC (RH g A)) A) args s 0 0 A) A 5 (RH g A lay σ) 0 0 29 [(0, .ref (gm g 0)), (1, .int x1), (2, .int x2), (3, .int x3)] [.int w0] := by
  unfold B_X6_waiting_29 at h
  refine j_istore 31 C dX6_waiting_29 (lo' := [(4, .int w0), (0, .ref (gm g 0)), (1, .int x1), (2, .int x2), (3, .int x3)]) (by decide) rfl rfl ?_
  refine j_aload_n 32 C dX6_waiting_31 1 rfl rfl ?_
  refine j_iload 34 C dX6_waiting_32 0 rfl rfl ?_
  refine j_if_ne 37 41 C dX6_waiting_34 (by decide) rfl (fun hc108 => ?_) (fun hc108 => ?_)
  · replace h := it_f hc108 h
    refine j_iload_n 42 C dX6_waiting_41 4 rfl rfl ?_
    refine j_iconst 43 C dX6_waiting_42 ic_0 rfl ?_
    refine j_iconst 44 C dX6_waiting_43 ic_2 rfl ?_
    obtain ⟨σ109, r110, hF, h⟩ := bd_e h
    refine k_Si 47 C K (c_X6_within K.2.2.2 g A lay  hF) cp_X6_within mw_1078 dX6_waiting_44 rfl rfl (Nat.le_of_ble_eq_true rfl) ⟨Nat.le_of_ble_eq_true rfl, Nat.le_of_ble_eq_true rfl⟩ ⟨Nat.le_of_ble_eq_true rfl, Nat.le_of_ble_eq_true rfl⟩ rfl (fun lay => ?_)
    refine j_if_eq 50 54 C dX6_waiting_47 (by decide) rfl (fun hc111 => ?_) (fun hc111 => ?_)
    · replace h := it_t hc111 h
      refine j_iconst 55 C dX6_waiting_54 ic_2 rfl ?_
      refine j_sub [1, 2, 3, 4] (lo' := [(0, .ref (gm g 0)), (1, .int x1), (2, .int x2), (3, .int x3)]) rfl ?_
      exact wn_X6_waiting_55 C K M  lay σ109 (2 : Int32) h
    · replace h := it_f hc111 h
      refine j_iconst 51 C dX6_waiting_50 ic_0 rfl ?_
      refine j_goto 55 C dX6_waiting_51 (by decide) ?_
      refine j_sub [1, 2, 3, 4] (lo' := [(0, .ref (gm g 0)), (1, .int x1), (2, .int x2), (3, .int x3)]) rfl ?_
      exact wn_X6_waiting_55 C K M  lay σ109 (0 : Int32) h
  · replace h := it_t hc108 h
    refine j_iconst 38 C dX6_waiting_37 ic_1 rfl ?_
    refine j_goto 55 C dX6_waiting_38 (by decide) ?_
    refine j_sub [1, 2, 3, 4] (lo' := [(0, .ref (gm g 0)), (1, .int x1), (2, .int x2), (3, .int x3)]) rfl ?_
    exact wn_X6_waiting_55 C K M  lay σ (1 : Int32) h
set_option maxHeartbeats 4000000 in
set_option maxRecDepth 100000 in
theorem wn_X6_waiting_28 {l : Launch} {p : Program} {e : Env} {s : State} {m : MethodId} {args : Array Value} {below : List Frame} {meth : Method} {c : Code} {g : GG} {A : Nat → Prop} (C : KX p m c cX6_waiting 5 s args RX6) (K : KC l g A s) (M : KM meth (some .int)) {σ' : RS} {r : Int32} {x1 : Int32} {x2 : Int32} {x3 : Int32}     (lay : Nat → Nat) (σ : RS)   (h : B_X6_waiting_28 x1 x2 x3 σ  = some (σ', r)) : JJ p l e (rmk 2 43 0 0) s m args below meth c (MQ below (va_Qi (fun (r0 : Int32) (u : RS) => r0 = r ∧ u = σ') (BC (RH g A)) A) args s 0 0 A) A 5 (RH g A lay σ) 0 0 28 [(0, .ref (gm g 0)), (1, .int x1), (2, .int x2), (3, .int x3)] [] := by
  unfold B_X6_waiting_28 at h
  refine j_iconst 29 C dX6_waiting_28 ic_0 rfl ?_
  exact wn_X6_waiting_29 C K M  lay σ (0 : Int32) h
set_option maxHeartbeats 4000000 in
set_option maxRecDepth 100000 in
theorem c_X6_waiting {l : Launch} (hst : l.stackTraces = false) (g : GG) (A : Nat → Prop) (lay : Nat → Nat) {σ : RS} {σ' : RS} {r : Int32} {x1 : Int32} {x2 : Int32} {x3 : Int32}  (h : F_X6_waiting σ x1 x2 x3 = some (σ', r)) : MI l yX6_waiting cX6_waiting 5 .int 2 43 0 0 [.ref (gm g 0), .int x1, .int x2, .int x3] (RH g A) g A lay σ σ' r := by
  unfold F_X6_waiting at h
  refine e_i (own := RX6) (lo := [(0, .ref (gm g 0)), (1, .int x1), (2, .int x2), (3, .int x3)]) hst (plainFor_of_name (by decide)) rfl rfl (Nat.le_of_ble_eq_true rfl) ?_
  intro p e s m args below meth c C K M
  refine j_aload_n 1 C dX6_waiting_0 0 rfl rfl ?_
  refine j_iload_n 2 C dX6_waiting_1 1 rfl rfl ?_
  obtain ⟨σ101, r102, hF, h⟩ := bd_e h
  refine k_Vi 5 C K (c_X6_isNode K.2.2.2 g A lay  hF) cp_X6_isNode (rv_M) mw_1093 dX6_waiting_2 rfl rfl (Nat.le_of_ble_eq_true rfl) ⟨Nat.le_of_ble_eq_true rfl, Nat.le_of_ble_eq_true rfl⟩ ⟨Nat.le_of_ble_eq_true rfl, Nat.le_of_ble_eq_true rfl⟩ rfl (fun lay => ?_)
  refine j_if_eq 8 28 C dX6_waiting_5 (by decide) rfl (fun hc103 => ?_) (fun hc103 => ?_)
  · replace h := it_t hc103 h
    exact wn_X6_waiting_28 C K M  lay σ101  h
  · replace h := it_f hc103 h
    refine j_iload_n 9 C dX6_waiting_8 2 rfl rfl ?_
    refine j_iconst 10 C dX6_waiting_9 ic_0 rfl ?_
    refine j_aload_n 11 C dX6_waiting_10 0 rfl rfl ?_
    refine g_M 14 C K 14 (by decide) mw_977 rfl dX6_waiting_11 rfl ?_
    refine j_iload_n 15 C dX6_waiting_14 1 rfl rfl ?_
    obtain ⟨hz104, h⟩ := gd_e h
    refine m_ild 16 C K ra_14 hz104 dX6_waiting_15 rfl ?_
    refine j_iconst 17 C dX6_waiting_16 ic_1 rfl ?_
    refine j_isub 18 C dX6_waiting_17 rfl ?_
    obtain ⟨σ105, r106, hF, h⟩ := bd_e h
    refine k_Si 21 C K (c_X6_within K.2.2.2 g A lay  hF) cp_X6_within mw_1078 dX6_waiting_18 rfl rfl (Nat.le_of_ble_eq_true rfl) ⟨Nat.le_of_ble_eq_true rfl, Nat.le_of_ble_eq_true rfl⟩ ⟨Nat.le_of_ble_eq_true rfl, Nat.le_of_ble_eq_true rfl⟩ rfl (fun lay => ?_)
    refine j_if_eq 24 28 C dX6_waiting_21 (by decide) rfl (fun hc107 => ?_) (fun hc107 => ?_)
    · replace h := it_t hc107 h
      exact wn_X6_waiting_28 C K M  lay σ105  h
    · replace h := it_f hc107 h
      refine j_iconst 25 C dX6_waiting_24 ic_1 rfl ?_
      refine j_goto 29 C dX6_waiting_25 (by decide) ?_
      exact wn_X6_waiting_29 C K M  lay σ105 (1 : Int32) h
theorem cp_X6_slotNow : CPv yX6_slotNow cX6_slotNow 3 (some .int) RX6 2 := ⟨mw_1303, mw_83, mw_105, mw_1304, rfl, by decide, by decide, by decide +kernel⟩
set_option maxHeartbeats 4000000 in
set_option maxRecDepth 100000 in
theorem wn_X6_slotNow_101 {l : Launch} {p : Program} {e : Env} {s : State} {m : MethodId} {args : Array Value} {below : List Frame} {meth : Method} {c : Code} {g : GG} {A : Nat → Prop} (C : KX p m c cX6_slotNow 3 s args RX6) (K : KC l g A s) (M : KM meth (some .int)) {σ' : RS} {r : Int32} {x1 : Int32} {x2 : Int32}     (lay : Nat → Nat) (σ : RS)   (h : B_X6_slotNow_101 x1 x2 σ  = some (σ', r)) : JJ p l e (rmk 3 67 0 0) s m args below meth c (MQ below (va_Qi (fun (r0 : Int32) (u : RS) => r0 = r ∧ u = σ') (BC (RH g A)) A) args s 0 0 A) A 3 (RH g A lay σ) 0 0 101 [] [] := by
  unfold B_X6_slotNow_101 at h
  refine j_iconst 102 C dX6_slotNow_101 ic_0 rfl ?_
  cases h
  exact x_i C M dX6_slotNow_102
set_option maxHeartbeats 4000000 in
set_option maxRecDepth 100000 in
theorem c_X6_slotNow {l : Launch} (hst : l.stackTraces = false) (g : GG) (A : Nat → Prop) (lay : Nat → Nat) {σ : RS} {σ' : RS} {r : Int32} {x1 : Int32} {x2 : Int32}  (h : F_X6_slotNow σ x1 x2 = some (σ', r)) : MI l yX6_slotNow cX6_slotNow 3 .int 3 67 0 0 [.ref (gm g 0), .int x1, .int x2] (RH g A) g A lay σ σ' r := by
  unfold F_X6_slotNow at h
  refine e_i (own := RX6) (lo := [(0, .ref (gm g 0)), (1, .int x1), (2, .int x2)]) hst (plainFor_of_name (by decide)) rfl rfl (Nat.le_of_ble_eq_true rfl) ?_
  intro p e s m args below meth c C K M
  refine j_iload_n 1 C dX6_slotNow_0 2 rfl rfl ?_
  by_cases hc101 : x2 = 0
  · replace h := it_t hc101 h
    refine j_tin 40 C dX6_slotNow_1 (off := 39) (by rw [hc101]; decide) (by rw [hc101]; decide) (by rw [hc101]; decide) (by decide) ?_
    refine j_aload_n 41 C dX6_slotNow_40 0 rfl rfl ?_
    refine g_M 44 C K 21 (by decide) mw_984 rfl dX6_slotNow_41 rfl ?_
    refine j_iload_n 45 C dX6_slotNow_44 1 rfl rfl ?_
    obtain ⟨hz102, h⟩ := gd_e h
    refine m_ild 46 C K ra_21 hz102 dX6_slotNow_45 rfl ?_
    cases h
    exact x_i C M dX6_slotNow_46
  replace h := it_f hc101 h
  by_cases hc103 : x2 = 1
  · replace h := it_t hc103 h
    refine j_tin 47 C dX6_slotNow_1 (off := 46) (by rw [hc103]; decide) (by rw [hc103]; decide) (by rw [hc103]; decide) (by decide) ?_
    refine j_aload_n 48 C dX6_slotNow_47 0 rfl rfl ?_
    refine g_M 51 C K 22 (by decide) mw_985 rfl dX6_slotNow_48 rfl ?_
    refine j_iload_n 52 C dX6_slotNow_51 1 rfl rfl ?_
    obtain ⟨hz104, h⟩ := gd_e h
    refine m_ild 53 C K ra_22 hz104 dX6_slotNow_52 rfl ?_
    cases h
    exact x_i C M dX6_slotNow_53
  replace h := it_f hc103 h
  by_cases hc105 : x2 = 2
  · replace h := it_t hc105 h
    refine j_tin 54 C dX6_slotNow_1 (off := 53) (by rw [hc105]; decide) (by rw [hc105]; decide) (by rw [hc105]; decide) (by decide) ?_
    refine j_aload_n 55 C dX6_slotNow_54 0 rfl rfl ?_
    refine g_M 58 C K 20 (by decide) mw_983 rfl dX6_slotNow_55 rfl ?_
    refine j_iload_n 59 C dX6_slotNow_58 1 rfl rfl ?_
    obtain ⟨hz106, h⟩ := gd_e h
    refine m_ild 60 C K ra_20 hz106 dX6_slotNow_59 rfl ?_
    cases h
    exact x_i C M dX6_slotNow_60
  replace h := it_f hc105 h
  by_cases hc107 : x2 = 3
  · replace h := it_t hc107 h
    refine j_tin 61 C dX6_slotNow_1 (off := 60) (by rw [hc107]; decide) (by rw [hc107]; decide) (by rw [hc107]; decide) (by decide) ?_
    refine j_aload_n 62 C dX6_slotNow_61 0 rfl rfl ?_
    refine j_iload_n 63 C dX6_slotNow_62 1 rfl rfl ?_
    refine j_iconst 64 C dX6_slotNow_63 ic_0 rfl ?_
    obtain ⟨σ108, r109, hF, h⟩ := bd_e h
    refine k_Vi 67 C K (c_X6_holders K.2.2.2 g A lay  hF) cp_X6_holders (rv_M) mw_1305 dX6_slotNow_64 rfl rfl (Nat.le_of_ble_eq_true rfl) ⟨Nat.le_of_ble_eq_true rfl, Nat.le_of_ble_eq_true rfl⟩ ⟨Nat.le_of_ble_eq_true rfl, Nat.le_of_ble_eq_true rfl⟩ rfl (fun lay => ?_)
    cases h
    exact x_i C M dX6_slotNow_67
  replace h := it_f hc107 h
  by_cases hc110 : x2 = 4
  · replace h := it_t hc110 h
    refine j_tin 68 C dX6_slotNow_1 (off := 67) (by rw [hc110]; decide) (by rw [hc110]; decide) (by rw [hc110]; decide) (by decide) ?_
    refine j_aload_n 69 C dX6_slotNow_68 0 rfl rfl ?_
    refine j_iload_n 70 C dX6_slotNow_69 1 rfl rfl ?_
    refine j_iconst 71 C dX6_slotNow_70 ic_1 rfl ?_
    obtain ⟨σ111, r112, hF, h⟩ := bd_e h
    refine k_Vi 74 C K (c_X6_holders K.2.2.2 g A lay  hF) cp_X6_holders (rv_M) mw_1305 dX6_slotNow_71 rfl rfl (Nat.le_of_ble_eq_true rfl) ⟨Nat.le_of_ble_eq_true rfl, Nat.le_of_ble_eq_true rfl⟩ ⟨Nat.le_of_ble_eq_true rfl, Nat.le_of_ble_eq_true rfl⟩ rfl (fun lay => ?_)
    cases h
    exact x_i C M dX6_slotNow_74
  replace h := it_f hc110 h
  by_cases hc113 : x2 = 5
  · replace h := it_t hc113 h
    refine j_tin 75 C dX6_slotNow_1 (off := 74) (by rw [hc113]; decide) (by rw [hc113]; decide) (by rw [hc113]; decide) (by decide) ?_
    refine j_aload_n 76 C dX6_slotNow_75 0 rfl rfl ?_
    refine g_M 79 C K 20 (by decide) mw_983 rfl dX6_slotNow_76 rfl ?_
    refine j_iload_n 80 C dX6_slotNow_79 1 rfl rfl ?_
    obtain ⟨hz114, h⟩ := gd_e h
    refine m_ild 81 C K ra_20 hz114 dX6_slotNow_80 rfl ?_
    refine j_if_le 84 101 C dX6_slotNow_81 (by decide) rfl (fun hc115 => ?_) (fun hc115 => ?_)
    · replace h := it_t hc115 h
      refine j_sub [] (lo' := []) rfl ?_
      exact wn_X6_slotNow_101 C K M  lay σ  h
    · replace h := it_f hc115 h
      refine j_aload_n 85 C dX6_slotNow_84 0 rfl rfl ?_
      refine j_aload_n 86 C dX6_slotNow_85 0 rfl rfl ?_
      refine j_iload_n 87 C dX6_slotNow_86 1 rfl rfl ?_
      refine j_iconst 88 C dX6_slotNow_87 ic_0 rfl ?_
      obtain ⟨σ116, r117, hF, h⟩ := bd_e h
      refine k_Vi 91 C K (c_X6_holders K.2.2.2 g A lay  hF) cp_X6_holders (rv_M) mw_1305 dX6_slotNow_88 rfl rfl (Nat.le_of_ble_eq_true rfl) ⟨Nat.le_of_ble_eq_true rfl, Nat.le_of_ble_eq_true rfl⟩ ⟨Nat.le_of_ble_eq_true rfl, Nat.le_of_ble_eq_true rfl⟩ rfl (fun lay => ?_)
      obtain ⟨σ118, r119, hF, h⟩ := bd_e h
      refine k_Vi 94 C K (c_X6_protects K.2.2.2 g A lay  hF) cp_X6_protects (rv_M) mw_1317 dX6_slotNow_91 rfl rfl (Nat.le_of_ble_eq_true rfl) ⟨Nat.le_of_ble_eq_true rfl, Nat.le_of_ble_eq_true rfl⟩ ⟨Nat.le_of_ble_eq_true rfl, Nat.le_of_ble_eq_true rfl⟩ rfl (fun lay => ?_)
      refine j_if_eq 97 101 C dX6_slotNow_94 (by decide) rfl (fun hc120 => ?_) (fun hc120 => ?_)
      · replace h := it_t hc120 h
        refine j_sub [] (lo' := []) rfl ?_
        exact wn_X6_slotNow_101 C K M  lay σ118  h
      · replace h := it_f hc120 h
        refine j_iconst 98 C dX6_slotNow_97 ic_1 rfl ?_
        refine j_goto 102 C dX6_slotNow_98 (by decide) ?_
        cases h
        exact x_i C M dX6_slotNow_102
  replace h := it_f hc113 h
  refine j_tout 103 C dX6_slotNow_1 (by have := lv_neT hc101 (a := 0) (by decide); have := lv_neT hc103 (a := 1) (by decide); have := lv_neT hc105 (a := 2) (by decide); have := lv_neT hc107 (a := 3) (by decide); have := lv_neT hc110 (a := 4) (by decide); have := lv_neT hc113 (a := 5) (by decide); omega) (by decide) ?_
  refine j_aload_n 104 C dX6_slotNow_103 0 rfl rfl ?_
  refine g_M 107 C K 23 (by decide) mw_986 rfl dX6_slotNow_104 rfl ?_
  refine j_iload_n 108 C dX6_slotNow_107 1 rfl rfl ?_
  obtain ⟨hz121, h⟩ := gd_e h
  refine m_zld 109 C K ra_23 hz121 dX6_slotNow_108 rfl ?_
  refine j_if_eq 112 116 C dX6_slotNow_109 (by decide) rfl (fun hc122 => ?_) (fun hc122 => ?_)
  · replace h := it_t hc122 h
    refine j_iconst 117 C dX6_slotNow_116 ic_0 rfl ?_
    cases h
    exact x_i C M dX6_slotNow_117
  · replace h := it_f hc122 h
    refine j_iconst 113 C dX6_slotNow_112 ic_1 rfl ?_
    refine j_goto 117 C dX6_slotNow_113 (by decide) ?_
    cases h
    exact x_i C M dX6_slotNow_117
theorem cp_X6_slot : CPv yX6_slot cX6_slot 3 (some .int) RX6 2 := ⟨mw_1298, mw_1299, mw_105, mw_1300, rfl, by decide, by decide, by decide +kernel⟩
set_option maxHeartbeats 4000000 in
set_option maxRecDepth 100000 in
theorem wn_X6_slot_28 {l : Launch} {p : Program} {e : Env} {s : State} {m : MethodId} {args : Array Value} {below : List Frame} {meth : Method} {c : Code} {g : GG} {A : Nat → Prop} (C : KX p m c cX6_slot 3 s args RX6) (K : KC l g A s) (M : KM meth (some .int)) {σ' : RS} {r : Int32} {x1 : Int32} {x2 : Int32}     (lay : Nat → Nat) (σ : RS) (w0 : Int32)  (h : B_X6_slot_28 x1 x2 σ w0 = some (σ', r)) : JJ p l e (rmk 4 89 0 0) s m args below meth c (MQ below (va_Qi (fun (r0 : Int32) (u : RS) => r0 = r ∧ u = σ') (BC (RH g A)) A) args s 0 0 A) A 3 (RH g A lay σ) 0 0 28 [(0, .ref (gm g 0)), (1, .int x1), (2, .int x2)] [.int w0, .ref (gm g 0)] := by
  unfold B_X6_slot_28 at h
  refine p_M 31 C K 0 (by decide) rs_0 rfl mw_963 rfl rfl dX6_slot_28 rfl (fun σ107 eσ107 => ?_)
  replace h := lt_e h σ107 eσ107
  refine j_aload_n 32 C dX6_slot_31 0 rfl rfl ?_
  refine g_M 35 C K 0 (by decide) mw_963 rfl dX6_slot_32 rfl ?_
  refine j_if_le 38 42 C dX6_slot_35 (by decide) rfl (fun hc108 => ?_) (fun hc108 => ?_)
  · replace h := it_t hc108 h
    refine j_aload_n 43 C dX6_slot_42 0 rfl rfl ?_
    refine j_iload_n 44 C dX6_slot_43 1 rfl rfl ?_
    refine j_iload_n 45 C dX6_slot_44 2 rfl rfl ?_
    obtain ⟨σ109, r110, hF, h⟩ := bd_e h
    refine k_Vi 48 C K (c_X6_slotNow K.2.2.2 g A lay  hF) cp_X6_slotNow (rv_M) mw_1301 dX6_slot_45 rfl rfl (Nat.le_of_ble_eq_true rfl) ⟨Nat.le_of_ble_eq_true rfl, Nat.le_of_ble_eq_true rfl⟩ ⟨Nat.le_of_ble_eq_true rfl, Nat.le_of_ble_eq_true rfl⟩ rfl (fun lay => ?_)
    cases h
    exact x_i C M dX6_slot_48
  · replace h := it_f hc108 h
    refine j_iconst 39 C dX6_slot_38 ic_0 rfl ?_
    refine j_goto 48 C dX6_slot_39 (by decide) ?_
    cases h
    exact x_i C M dX6_slot_48
set_option maxHeartbeats 4000000 in
set_option maxRecDepth 100000 in
theorem c_X6_slot {l : Launch} (hst : l.stackTraces = false) (g : GG) (A : Nat → Prop) (lay : Nat → Nat) {σ : RS} {σ' : RS} {r : Int32} {x1 : Int32} {x2 : Int32}  (h : F_X6_slot σ x1 x2 = some (σ', r)) : MI l yX6_slot cX6_slot 3 .int 4 89 0 0 [.ref (gm g 0), .int x1, .int x2] (RH g A) g A lay σ σ' r := by
  unfold F_X6_slot at h
  refine e_i (own := RX6) (lo := [(0, .ref (gm g 0)), (1, .int x1), (2, .int x2)]) hst (plainFor_of_name (by decide)) rfl rfl (Nat.le_of_ble_eq_true rfl) ?_
  intro p e s m args below meth c C K M
  refine j_aload_n 1 C dX6_slot_0 0 rfl rfl ?_
  refine j_aload_n 2 C dX6_slot_1 0 rfl rfl ?_
  refine j_iload_n 3 C dX6_slot_2 1 rfl rfl ?_
  obtain ⟨σ101, r102, hF, h⟩ := bd_e h
  refine k_Vi 6 C K (c_X6_isSlot K.2.2.2 g A lay  hF) cp_X6_isSlot (rv_M) mw_1141 dX6_slot_3 rfl rfl (Nat.le_of_ble_eq_true rfl) ⟨Nat.le_of_ble_eq_true rfl, Nat.le_of_ble_eq_true rfl⟩ ⟨Nat.le_of_ble_eq_true rfl, Nat.le_of_ble_eq_true rfl⟩ rfl (fun lay => ?_)
  refine j_if_ne 9 13 C dX6_slot_6 (by decide) rfl (fun hc103 => ?_) (fun hc103 => ?_)
  · replace h := it_f hc103 h
    refine j_iload_n 14 C dX6_slot_13 2 rfl rfl ?_
    refine j_iconst 15 C dX6_slot_14 ic_0 rfl ?_
    refine j_bipush 17 C dX6_slot_15 bp_6 rfl ?_
    obtain ⟨σ104, r105, hF, h⟩ := bd_e h
    refine k_Si 20 C K (c_X6_within K.2.2.2 g A lay  hF) cp_X6_within mw_1078 dX6_slot_17 rfl rfl (Nat.le_of_ble_eq_true rfl) ⟨Nat.le_of_ble_eq_true rfl, Nat.le_of_ble_eq_true rfl⟩ ⟨Nat.le_of_ble_eq_true rfl, Nat.le_of_ble_eq_true rfl⟩ rfl (fun lay => ?_)
    refine j_if_eq 23 27 C dX6_slot_20 (by decide) rfl (fun hc106 => ?_) (fun hc106 => ?_)
    · replace h := it_t hc106 h
      refine j_iconst 28 C dX6_slot_27 ic_2 rfl ?_
      exact wn_X6_slot_28 C K M  lay σ104 (2 : Int32) h
    · replace h := it_f hc106 h
      refine j_iconst 24 C dX6_slot_23 ic_0 rfl ?_
      refine j_goto 28 C dX6_slot_24 (by decide) ?_
      exact wn_X6_slot_28 C K M  lay σ104 (0 : Int32) h
  · replace h := it_t hc103 h
    refine j_iconst 10 C dX6_slot_9 ic_1 rfl ?_
    refine j_goto 28 C dX6_slot_10 (by decide) ?_
    exact wn_X6_slot_28 C K M  lay σ101 (1 : Int32) h
theorem cp_X6_roundValue : CPv yX6_roundValue cX6_roundValue 3 (some .int) RX6 2 := ⟨mw_1322, mw_1323, mw_105, mw_1324, rfl, by decide, by decide, by decide +kernel⟩
set_option maxHeartbeats 4000000 in
set_option maxRecDepth 100000 in
theorem wn_X6_roundValue_36 {l : Launch} {p : Program} {e : Env} {s : State} {m : MethodId} {args : Array Value} {below : List Frame} {meth : Method} {c : Code} {g : GG} {A : Nat → Prop} (C : KX p m c cX6_roundValue 3 s args RX6) (K : KC l g A s) (M : KM meth (some .int)) {σ' : RS} {r : Int32} {x1 : Int32} {x2 : Int32}     (lay : Nat → Nat) (σ : RS) (w0 : Int32)  (h : B_X6_roundValue_36 x1 x2 σ w0 = some (σ', r)) : JJ p l e (rmk 2 43 0 0) s m args below meth c (MQ below (va_Qi (fun (r0 : Int32) (u : RS) => r0 = r ∧ u = σ') (BC (RH g A)) A) args s 0 0 A) A 3 (RH g A lay σ) 0 0 36 [(0, .ref (gm g 0)), (1, .int x1), (2, .int x2)] [.int w0, .ref (gm g 0)] := by
  unfold B_X6_roundValue_36 at h
  refine p_M 39 C K 0 (by decide) rs_0 rfl mw_963 rfl rfl dX6_roundValue_36 rfl (fun σ109 eσ109 => ?_)
  replace h := lt_e h σ109 eσ109
  refine j_aload_n 40 C dX6_roundValue_39 0 rfl rfl ?_
  refine g_M 43 C K 0 (by decide) mw_963 rfl dX6_roundValue_40 rfl ?_
  refine j_if_le 46 50 C dX6_roundValue_43 (by decide) rfl (fun hc110 => ?_) (fun hc110 => ?_)
  · replace h := it_t hc110 h
    refine j_aload_n 51 C dX6_roundValue_50 0 rfl rfl ?_
    refine g_M 54 C K 19 (by decide) mw_982 rfl dX6_roundValue_51 rfl ?_
    refine j_iload_n 55 C dX6_roundValue_54 1 rfl rfl ?_
    refine j_iload_n 56 C dX6_roundValue_55 2 rfl rfl ?_
    obtain ⟨σ111, r112, hF, h⟩ := bd_e h
    refine k_Si 59 C K (c_X6_at K.2.2.2 g A lay  hF) cp_X6_at mw_956 dX6_roundValue_56 rfl rfl (Nat.le_of_ble_eq_true rfl) ⟨Nat.le_of_ble_eq_true rfl, Nat.le_of_ble_eq_true rfl⟩ ⟨Nat.le_of_ble_eq_true rfl, Nat.le_of_ble_eq_true rfl⟩ rfl (fun lay => ?_)
    obtain ⟨hz113, h⟩ := gd_e h
    refine m_ild 60 C K ra_19 hz113 dX6_roundValue_59 rfl ?_
    cases h
    exact x_i C M dX6_roundValue_60
  · replace h := it_f hc110 h
    refine j_iconst 47 C dX6_roundValue_46 ic_0 rfl ?_
    refine j_goto 60 C dX6_roundValue_47 (by decide) ?_
    cases h
    exact x_i C M dX6_roundValue_60
set_option maxHeartbeats 4000000 in
set_option maxRecDepth 100000 in
theorem wn_X6_roundValue_17 {l : Launch} {p : Program} {e : Env} {s : State} {m : MethodId} {args : Array Value} {below : List Frame} {meth : Method} {c : Code} {g : GG} {A : Nat → Prop} (C : KX p m c cX6_roundValue 3 s args RX6) (K : KC l g A s) (M : KM meth (some .int)) {σ' : RS} {r : Int32} {x1 : Int32} {x2 : Int32}     (lay : Nat → Nat) (σ : RS)   (h : B_X6_roundValue_17 x1 x2 σ  = some (σ', r)) : JJ p l e (rmk 2 43 0 0) s m args below meth c (MQ below (va_Qi (fun (r0 : Int32) (u : RS) => r0 = r ∧ u = σ') (BC (RH g A)) A) args s 0 0 A) A 3 (RH g A lay σ) 0 0 17 [(0, .ref (gm g 0)), (1, .int x1), (2, .int x2)] [.ref (gm g 0)] := by
  unfold B_X6_roundValue_17 at h
  refine j_iconst 18 C dX6_roundValue_17 ic_1 rfl ?_
  refine j_goto 36 C dX6_roundValue_18 (by decide) ?_
  exact wn_X6_roundValue_36 C K M  lay σ (1 : Int32) h
set_option maxHeartbeats 4000000 in
set_option maxRecDepth 100000 in
theorem c_X6_roundValue {l : Launch} (hst : l.stackTraces = false) (g : GG) (A : Nat → Prop) (lay : Nat → Nat) {σ : RS} {σ' : RS} {r : Int32} {x1 : Int32} {x2 : Int32}  (h : F_X6_roundValue σ x1 x2 = some (σ', r)) : MI l yX6_roundValue cX6_roundValue 3 .int 2 43 0 0 [.ref (gm g 0), .int x1, .int x2] (RH g A) g A lay σ σ' r := by
  unfold F_X6_roundValue at h
  refine e_i (own := RX6) (lo := [(0, .ref (gm g 0)), (1, .int x1), (2, .int x2)]) hst (plainFor_of_name (by decide)) rfl rfl (Nat.le_of_ble_eq_true rfl) ?_
  intro p e s m args below meth c C K M
  refine j_aload_n 1 C dX6_roundValue_0 0 rfl rfl ?_
  refine j_aload_n 2 C dX6_roundValue_1 0 rfl rfl ?_
  refine j_iload_n 3 C dX6_roundValue_2 1 rfl rfl ?_
  obtain ⟨σ101, r102, hF, h⟩ := bd_e h
  refine k_Vi 6 C K (c_X6_isNode K.2.2.2 g A lay  hF) cp_X6_isNode (rv_M) mw_1093 dX6_roundValue_3 rfl rfl (Nat.le_of_ble_eq_true rfl) ⟨Nat.le_of_ble_eq_true rfl, Nat.le_of_ble_eq_true rfl⟩ ⟨Nat.le_of_ble_eq_true rfl, Nat.le_of_ble_eq_true rfl⟩ rfl (fun lay => ?_)
  refine j_if_eq 9 17 C dX6_roundValue_6 (by decide) rfl (fun hc103 => ?_) (fun hc103 => ?_)
  · replace h := it_t hc103 h
    exact wn_X6_roundValue_17 C K M  lay σ101  h
  · replace h := it_f hc103 h
    refine j_aload_n 10 C dX6_roundValue_9 0 rfl rfl ?_
    refine j_iload_n 11 C dX6_roundValue_10 2 rfl rfl ?_
    obtain ⟨σ104, r105, hF, h⟩ := bd_e h
    refine k_Vi 14 C K (c_X6_isSlot K.2.2.2 g A lay  hF) cp_X6_isSlot (rv_M) mw_1141 dX6_roundValue_11 rfl rfl (Nat.le_of_ble_eq_true rfl) ⟨Nat.le_of_ble_eq_true rfl, Nat.le_of_ble_eq_true rfl⟩ ⟨Nat.le_of_ble_eq_true rfl, Nat.le_of_ble_eq_true rfl⟩ rfl (fun lay => ?_)
    refine j_if_ne 17 21 C dX6_roundValue_14 (by decide) rfl (fun hc106 => ?_) (fun hc106 => ?_)
    · replace h := it_f hc106 h
      refine j_aload_n 22 C dX6_roundValue_21 0 rfl rfl ?_
      refine g_M 25 C K 18 (by decide) mw_981 rfl dX6_roundValue_22 rfl ?_
      refine j_iload_n 26 C dX6_roundValue_25 1 rfl rfl ?_
      obtain ⟨hz107, h⟩ := gd_e h
      refine m_ild 27 C K ra_18 hz107 dX6_roundValue_26 rfl ?_
      refine j_iconst 28 C dX6_roundValue_27 ic_m1 rfl ?_
      refine j_icmp_ne 31 35 C dX6_roundValue_28 (by decide) rfl (fun hc108 => ?_) (fun hc108 => ?_)
      · replace h := it_f hc108 h
        refine j_iconst 36 C dX6_roundValue_35 ic_0 rfl ?_
        exact wn_X6_roundValue_36 C K M  lay σ104 (0 : Int32) h
      · replace h := it_t hc108 h
        refine j_iconst 32 C dX6_roundValue_31 ic_2 rfl ?_
        refine j_goto 36 C dX6_roundValue_32 (by decide) ?_
        exact wn_X6_roundValue_36 C K M  lay σ104 (2 : Int32) h
    · replace h := it_t hc106 h
      exact wn_X6_roundValue_17 C K M  lay σ104  h
theorem cp_X6_ifCrashed : CPv yX6_ifCrashed cX6_ifCrashed 4 (some .int) RX6 3 := ⟨mw_1326, mw_1327, mw_105, mw_1328, rfl, by decide, by decide, by decide +kernel⟩
set_option maxHeartbeats 4000000 in
set_option maxRecDepth 100000 in
theorem wn_X6_ifCrashed_49 {l : Launch} {p : Program} {e : Env} {s : State} {m : MethodId} {args : Array Value} {below : List Frame} {meth : Method} {c : Code} {g : GG} {A : Nat → Prop} (C : KX p m c cX6_ifCrashed 4 s args RX6) (K : KC l g A s) (M : KM meth (some .int)) {σ' : RS} {r : Int32} {x1 : Int32} {x2 : Int32} {x3 : Int32}     (lay : Nat → Nat) (σ : RS)   (h : B_X6_ifCrashed_49 x1 x2 x3 σ  = some (σ', r)) : JJ p l e (rmk 4 91 0 0) s m args below meth c (MQ below (va_Qi (fun (r0 : Int32) (u : RS) => r0 = r ∧ u = σ') (BC (RH g A)) A) args s 0 0 A) A 4 (RH g A lay σ) 0 0 49 [] [] := by
  unfold B_X6_ifCrashed_49 at h
  refine j_iconst 50 C dX6_ifCrashed_49 ic_0 rfl ?_
  refine j_goto 60 C dX6_ifCrashed_50 (by decide) ?_
  cases h
  exact x_i C M dX6_ifCrashed_60
set_option maxHeartbeats 4000000 in
set_option maxRecDepth 100000 in
theorem wn_X6_ifCrashed_30 {l : Launch} {p : Program} {e : Env} {s : State} {m : MethodId} {args : Array Value} {below : List Frame} {meth : Method} {c : Code} {g : GG} {A : Nat → Prop} (C : KX p m c cX6_ifCrashed 4 s args RX6) (K : KC l g A s) (M : KM meth (some .int)) {σ' : RS} {r : Int32} {x1 : Int32} {x2 : Int32} {x3 : Int32}     (lay : Nat → Nat) (σ : RS) (w0 : Int32)  (h : B_X6_ifCrashed_30 x1 x2 x3 σ w0 = some (σ', r)) : JJ p l e (rmk 4 91 0 0) s m args below meth c (MQ below (va_Qi (fun (r0 : Int32) (u : RS) => r0 = r ∧ u = σ') (BC (RH g A)) A) args s 0 0 A) A 4 (RH g A lay σ) 0 0 30 [(0, .ref (gm g 0)), (1, .int x1), (2, .int x2), (3, .int x3)] [.int w0, .ref (gm g 0)] := by
  unfold B_X6_ifCrashed_30 at h
  refine p_M 33 C K 0 (by decide) rs_0 rfl mw_963 rfl rfl dX6_ifCrashed_30 rfl (fun σ108 eσ108 => ?_)
  replace h := lt_e h σ108 eσ108
  refine j_aload_n 34 C dX6_ifCrashed_33 0 rfl rfl ?_
  refine g_M 37 C K 0 (by decide) mw_963 rfl dX6_ifCrashed_34 rfl ?_
  refine j_if_gt 40 49 C dX6_ifCrashed_37 (by decide) rfl (fun hc109 => ?_) (fun hc109 => ?_)
  · replace h := it_t hc109 h
    refine j_sub [] (lo' := []) rfl ?_
    exact wn_X6_ifCrashed_49 C K M  lay σ108  h
  · replace h := it_f hc109 h
    refine j_aload_n 41 C dX6_ifCrashed_40 0 rfl rfl ?_
    refine g_M 44 C K 20 (by decide) mw_983 rfl dX6_ifCrashed_41 rfl ?_
    refine j_iload_n 45 C dX6_ifCrashed_44 3 rfl rfl ?_
    obtain ⟨hz110, h⟩ := gd_e h
    refine m_ild 46 C K ra_20 hz110 dX6_ifCrashed_45 rfl ?_
    refine j_if_ne 49 53 C dX6_ifCrashed_46 (by decide) rfl (fun hc111 => ?_) (fun hc111 => ?_)
    · replace h := it_f hc111 h
      refine j_aload_n 54 C dX6_ifCrashed_53 0 rfl rfl ?_
      refine j_iload_n 55 C dX6_ifCrashed_54 1 rfl rfl ?_
      refine j_iload_n 56 C dX6_ifCrashed_55 3 rfl rfl ?_
      refine j_iload_n 57 C dX6_ifCrashed_56 2 rfl rfl ?_
      obtain ⟨σ112, r113, hF, h⟩ := bd_e h
      refine k_Vi 60 C K (c_X6_holdersWith K.2.2.2 g A lay  hF) cp_X6_holdersWith (rv_M) mw_1329 dX6_ifCrashed_57 rfl rfl (Nat.le_of_ble_eq_true rfl) ⟨Nat.le_of_ble_eq_true rfl, Nat.le_of_ble_eq_true rfl⟩ ⟨Nat.le_of_ble_eq_true rfl, Nat.le_of_ble_eq_true rfl⟩ rfl (fun lay => ?_)
      cases h
      exact x_i C M dX6_ifCrashed_60
    · replace h := it_t hc111 h
      refine j_sub [] (lo' := []) rfl ?_
      exact wn_X6_ifCrashed_49 C K M  lay σ108  h
set_option maxHeartbeats 4000000 in
set_option maxRecDepth 100000 in
theorem wn_X6_ifCrashed_17 {l : Launch} {p : Program} {e : Env} {s : State} {m : MethodId} {args : Array Value} {below : List Frame} {meth : Method} {c : Code} {g : GG} {A : Nat → Prop} (C : KX p m c cX6_ifCrashed 4 s args RX6) (K : KC l g A s) (M : KM meth (some .int)) {σ' : RS} {r : Int32} {x1 : Int32} {x2 : Int32} {x3 : Int32}     (lay : Nat → Nat) (σ : RS)   (h : B_X6_ifCrashed_17 x1 x2 x3 σ  = some (σ', r)) : JJ p l e (rmk 4 91 0 0) s m args below meth c (MQ below (va_Qi (fun (r0 : Int32) (u : RS) => r0 = r ∧ u = σ') (BC (RH g A)) A) args s 0 0 A) A 4 (RH g A lay σ) 0 0 17 [(0, .ref (gm g 0)), (1, .int x1), (2, .int x2), (3, .int x3)] [.ref (gm g 0)] := by
  unfold B_X6_ifCrashed_17 at h
  refine j_iconst 18 C dX6_ifCrashed_17 ic_1 rfl ?_
  refine j_goto 30 C dX6_ifCrashed_18 (by decide) ?_
  exact wn_X6_ifCrashed_30 C K M  lay σ (1 : Int32) h
set_option maxHeartbeats 4000000 in
set_option maxRecDepth 100000 in
theorem c_X6_ifCrashed {l : Launch} (hst : l.stackTraces = false) (g : GG) (A : Nat → Prop) (lay : Nat → Nat) {σ : RS} {σ' : RS} {r : Int32} {x1 : Int32} {x2 : Int32} {x3 : Int32}  (h : F_X6_ifCrashed σ x1 x2 x3 = some (σ', r)) : MI l yX6_ifCrashed cX6_ifCrashed 4 .int 4 91 0 0 [.ref (gm g 0), .int x1, .int x2, .int x3] (RH g A) g A lay σ σ' r := by
  unfold F_X6_ifCrashed at h
  refine e_i (own := RX6) (lo := [(0, .ref (gm g 0)), (1, .int x1), (2, .int x2), (3, .int x3)]) hst (plainFor_of_name (by decide)) rfl rfl (Nat.le_of_ble_eq_true rfl) ?_
  intro p e s m args below meth c C K M
  refine j_aload_n 1 C dX6_ifCrashed_0 0 rfl rfl ?_
  refine j_aload_n 2 C dX6_ifCrashed_1 0 rfl rfl ?_
  refine j_iload_n 3 C dX6_ifCrashed_2 1 rfl rfl ?_
  obtain ⟨σ101, r102, hF, h⟩ := bd_e h
  refine k_Vi 6 C K (c_X6_isNode K.2.2.2 g A lay  hF) cp_X6_isNode (rv_M) mw_1093 dX6_ifCrashed_3 rfl rfl (Nat.le_of_ble_eq_true rfl) ⟨Nat.le_of_ble_eq_true rfl, Nat.le_of_ble_eq_true rfl⟩ ⟨Nat.le_of_ble_eq_true rfl, Nat.le_of_ble_eq_true rfl⟩ rfl (fun lay => ?_)
  refine j_if_eq 9 17 C dX6_ifCrashed_6 (by decide) rfl (fun hc103 => ?_) (fun hc103 => ?_)
  · replace h := it_t hc103 h
    exact wn_X6_ifCrashed_17 C K M  lay σ101  h
  · replace h := it_f hc103 h
    refine j_aload_n 10 C dX6_ifCrashed_9 0 rfl rfl ?_
    refine j_iload_n 11 C dX6_ifCrashed_10 3 rfl rfl ?_
    obtain ⟨σ104, r105, hF, h⟩ := bd_e h
    refine k_Vi 14 C K (c_X6_isSlot K.2.2.2 g A lay  hF) cp_X6_isSlot (rv_M) mw_1141 dX6_ifCrashed_11 rfl rfl (Nat.le_of_ble_eq_true rfl) ⟨Nat.le_of_ble_eq_true rfl, Nat.le_of_ble_eq_true rfl⟩ ⟨Nat.le_of_ble_eq_true rfl, Nat.le_of_ble_eq_true rfl⟩ rfl (fun lay => ?_)
    refine j_if_ne 17 21 C dX6_ifCrashed_14 (by decide) rfl (fun hc106 => ?_) (fun hc106 => ?_)
    · replace h := it_f hc106 h
      refine j_iload_n 22 C dX6_ifCrashed_21 2 rfl rfl ?_
      refine j_if_ge 25 29 C dX6_ifCrashed_22 (by decide) rfl (fun hc107 => ?_) (fun hc107 => ?_)
      · replace h := it_t hc107 h
        refine j_iconst 30 C dX6_ifCrashed_29 ic_0 rfl ?_
        exact wn_X6_ifCrashed_30 C K M  lay σ104 (0 : Int32) h
      · replace h := it_f hc107 h
        refine j_iconst 26 C dX6_ifCrashed_25 ic_2 rfl ?_
        refine j_goto 30 C dX6_ifCrashed_26 (by decide) ?_
        exact wn_X6_ifCrashed_30 C K M  lay σ104 (2 : Int32) h
    · replace h := it_t hc106 h
      exact wn_X6_ifCrashed_17 C K M  lay σ104  h
