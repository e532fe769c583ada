theorem cp_X5_load : CPv yX5_load cX5_load 3 (some .int) RX5 0 := ⟨mw_870, mw_871, mw_98, mw_872, rfl, by decide, by decide, by decide +kernel⟩
set_option maxHeartbeats 4000000 in
set_option maxRecDepth 100000 in
theorem wn_X5_load_105 {l : Launch} {p : Program} {e : Env} {s : State} {m : MethodId} {args : Array Value} {below : List Frame} {meth : Method} {c : Code} {g : GG} {A : Nat → Prop} (C : KX p m c cX5_load 3 s args RX5) (K : KC l g A s) (M : KM meth (some .int)) {σ' : CS} {r : Int32} {N0 : Nat}  {fu42 : Nat} {self42 : CS → Int32 → Int32 → Option (CS × (Int32 ⊕ Nat))} (ih42 : ∀ (lay : Nat → Nat) (σ : CS) (v1 : Int32) (v2 : Int32), ∀ (k n : Nat), k + 24 * fu42 ≤ (24 * N0) → n + 12288 * fu42 ≤ (12288 * N0) → self42 σ v1 v2 = some (σ', .inl r) → JJ p l e (rmk 8 204 (24 * N0) (12288 * N0)) s m args below meth c (MQ below (va_Qi (fun (r0 : Int32) (u : CS) => r0 = r ∧ u = σ') (BC (CH g A)) A) args s (24 * N0) (12288 * N0) A) A 3 (CH g A lay σ) k n 42 [(0, .ref (ga g 0)), (1, .int v1), (2, .int v2)] []) (lay : Nat → Nat) (σ : CS) (v1 : Int32) (v2 : Int32)  (k n : Nat) (hk : k + 24 * fu42 ≤ (24 * N0)) (hn : n + 12288 * fu42 ≤ (12288 * N0)) (h : B_X5_load_105 N0 self42 σ v1 v2 = some (σ', .inl r)) : JJ p l e (rmk 8 204 (24 * N0) (12288 * N0)) s m args below meth c (MQ below (va_Qi (fun (r0 : Int32) (u : CS) => r0 = r ∧ u = σ') (BC (CH g A)) A) args s (24 * N0) (12288 * N0) A) A 3 (CH g A lay σ) k n 105 [(0, .ref (ga g 0)), (1, .int v1), (2, .int v2)] [] := by
  unfold B_X5_load_105 at h
  obtain ⟨x122, ex122⟩ : ∃ z : Int32, z = v2 + 1 := ⟨_, rfl⟩
  replace h := lt_e h x122 ex122
  refine j_iinc 108 C dX5_load_105 2 rfl (v := x122) ((ii_1 _).trans ex122.symm) (lo' := [(2, .int x122), (0, .ref (ga g 0)), (1, .int v1)]) (by decide) rfl rfl ?_
  refine j_goto 42 C dX5_load_108 (by decide) ?_
  refine j_sub [1, 2, 0] (lo' := [(0, .ref (ga g 0)), (1, .int v1), (2, .int x122)]) rfl ?_
  exact ih42 lay σ v1 x122 k n (by omega) (by omega) h
set_option maxHeartbeats 4000000 in
set_option maxRecDepth 100000 in
theorem wn_X5_load_95 {l : Launch} {p : Program} {e : Env} {s : State} {m : MethodId} {args : Array Value} {below : List Frame} {meth : Method} {c : Code} {g : GG} {A : Nat → Prop} (C : KX p m c cX5_load 3 s args RX5) (K : KC l g A s) (M : KM meth (some .int)) {σ' : CS} {r : Int32} {N0 : Nat}  {fu42 : Nat} {self42 : CS → Int32 → Int32 → Option (CS × (Int32 ⊕ Nat))} (ih42 : ∀ (lay : Nat → Nat) (σ : CS) (v1 : Int32) (v2 : Int32), ∀ (k n : Nat), k + 24 * fu42 ≤ (24 * N0) → n + 12288 * fu42 ≤ (12288 * N0) → self42 σ v1 v2 = some (σ', .inl r) → JJ p l e (rmk 8 204 (24 * N0) (12288 * N0)) s m args below meth c (MQ below (va_Qi (fun (r0 : Int32) (u : CS) => r0 = r ∧ u = σ') (BC (CH g A)) A) args s (24 * N0) (12288 * N0) A) A 3 (CH g A lay σ) k n 42 [(0, .ref (ga g 0)), (1, .int v1), (2, .int v2)] []) (lay : Nat → Nat) (σ : CS) (v1 : Int32) (v2 : Int32)  (k n : Nat) (hk : k + 24 * (fu42 + 1) ≤ (24 * N0)) (hn : n + 12288 * (fu42 + 1) ≤ (12288 * N0)) (h : B_X5_load_95 N0 self42 σ v1 v2 = some (σ', .inl r)) : JJ p l e (rmk 8 204 (24 * N0) (12288 * N0)) s m args below meth c (MQ below (va_Qi (fun (r0 : Int32) (u : CS) => r0 = r ∧ u = σ') (BC (CH g A)) A) args s (24 * N0) (12288 * N0) A) A 3 (CH g A lay σ) k n 95 [(0, .ref (ga g 0)), (1, .int v1), (2, .int v2)] [] := by
  unfold B_X5_load_95 at h
  refine j_iload_n 96 C dX5_load_95 1 rfl rfl ?_
  refine j_aload_n 97 C dX5_load_96 0 rfl rfl ?_
  obtain ⟨σ117, r118, hF, h⟩ := bd_e h
  refine k_Vi 100 C K (c_X5_carriesOutEvent K.2.2.2 g A lay  hF) cp_X5_carriesOutEvent (rv_F) mw_878 dX5_load_97 rfl rfl (Nat.le_of_ble_eq_true rfl) ⟨Nat.le_of_ble_eq_true rfl, Nat.le_of_ble_eq_true rfl⟩ ⟨by simp only [rmk]; omega, by simp only [rmk]; omega⟩ rfl (fun lay => ?_)
  obtain ⟨σ119, r120, hF, h⟩ := bd_e h
  refine k_Si 103 C K (c_X5_asNumber K.2.2.2 g A lay  hF) cp_X5_asNumber mw_321 dX5_load_100 rfl rfl (Nat.le_of_ble_eq_true rfl) ⟨Nat.le_of_ble_eq_true rfl, Nat.le_of_ble_eq_true rfl⟩ ⟨by simp only [rmk]; omega, by simp only [rmk]; omega⟩ rfl (fun lay => ?_)
  refine j_iadd 104 C dX5_load_103 rfl ?_
  refine j_topi (fun x121 ex121 => ?_)
  replace h := lt_e h x121 ex121
  refine j_istore_n 105 C dX5_load_104 (lo' := [(1, .int x121), (0, .ref (ga g 0)), (2, .int v2)]) (by decide) rfl rfl ?_
  refine j_sub [1, 0, 2] (lo' := [(0, .ref (ga g 0)), (1, .int x121), (2, .int v2)]) rfl ?_
  exact wn_X5_load_105 C K M ih42 lay σ119 x121 v2 (k + 24) (n + 12288) (by omega) (by omega) h
set_option maxHeartbeats 4000000 in
set_option maxRecDepth 100000 in
theorem wn_X5_load_42 {l : Launch} {p : Program} {e : Env} {s : State} {m : MethodId} {args : Array Value} {below : List Frame} {meth : Method} {c : Code} {g : GG} {A : Nat → Prop} (C : KX p m c cX5_load 3 s args RX5) (K : KC l g A s) (M : KM meth (some .int)) {σ' : CS} {r : Int32} {N0 : Nat}     : ∀ (fu42 : Nat) (lay : Nat → Nat) (σ : CS) (v1 : Int32) (v2 : Int32), ∀ (k n : Nat), k + 24 * fu42 ≤ (24 * N0) → n + 12288 * fu42 ≤ (12288 * N0) → B_X5_load_42 N0 fu42 σ v1 v2 = some (σ', .inl r) → JJ p l e (rmk 8 204 (24 * N0) (12288 * N0)) s m args below meth c (MQ below (va_Qi (fun (r0 : Int32) (u : CS) => r0 = r ∧ u = σ') (BC (CH g A)) A) args s (24 * N0) (12288 * N0) A) A 3 (CH g A lay σ) k n 42 [(0, .ref (ga g 0)), (1, .int v1), (2, .int v2)] [] := by
  intro fu42
  induction fu42 with
  | zero =>
    intro lay σ v1 v2 k n hk hn h
    exact nomatch (show (none : Option _) = some _ from h)
  | succ fu42 ih42 =>
    intro lay σ v1 v2 k n hk hn h
    unfold B_X5_load_42 at h
    rw [lo3_s] at h
    refine j_iload_n 43 C dX5_load_42 2 rfl rfl ?_
    refine j_aload_n 44 C dX5_load_43 0 rfl rfl ?_
    refine g_F 47 C K 5 (by decide) mw_285 rfl dX5_load_44 rfl ?_
    refine j_icmp_ge 50 111 C dX5_load_47 (by decide) rfl (fun hc109 => ?_) (fun hc109 => ?_)
    · replace h := it_t hc109 h
      refine j_aload_n 112 C dX5_load_111 0 rfl rfl ?_
      refine j_iconst 113 C dX5_load_112 ic_0 rfl ?_
      refine p_F 116 C K 5 (by decide) mw_285 rfl rfl dX5_load_113 rfl (fun σ110 eσ110 => ?_)
      replace h := lt_e h σ110 eσ110
      refine j_iload_n 117 C dX5_load_116 1 rfl rfl ?_
      cases h
      refine j_widen (k' := (24 * N0)) (n' := (12288 * N0)) (by omega) (by omega) ?_
      exact x_i C M dX5_load_117
    · replace h := it_f hc109 h
      refine j_aload_n 51 C dX5_load_50 0 rfl rfl ?_
      refine g_F 54 C K 3 (by decide) mw_283 rfl dX5_load_51 rfl ?_
      refine j_aload_n 55 C dX5_load_54 0 rfl rfl ?_
      refine g_F 58 C K 4 (by decide) mw_284 rfl dX5_load_55 rfl ?_
      refine j_iload_n 59 C dX5_load_58 2 rfl rfl ?_
      obtain ⟨hz111, h⟩ := gd_e h
      refine r_ild 60 C K (ar_I _ ) (ca_I _ _ ) hz111 dX5_load_59 rfl ?_
      refine j_aload_n 61 C dX5_load_60 0 rfl rfl ?_
      refine g_F 64 C K 6 (by decide) mw_286 rfl dX5_load_61 rfl ?_
      refine j_aload_n 65 C dX5_load_64 0 rfl rfl ?_
      refine g_F 68 C K 7 (by decide) mw_287 rfl dX5_load_65 rfl ?_
      obtain ⟨σ112, r113, hF, h⟩ := bd_e h
      refine k_Vi 71 C K (c_X2_takes K.2.2.2 g A lay  hF) cp_X2_takes (rv_R) mw_340 dX5_load_68 rfl rfl (Nat.le_of_ble_eq_true rfl) ⟨Nat.le_of_ble_eq_true rfl, Nat.le_of_ble_eq_true rfl⟩ ⟨by simp only [rmk]; omega, by simp only [rmk]; omega⟩ rfl (fun lay => ?_)
      refine j_pop 72 C dX5_load_71 rfl rfl ?_
      refine j_iload_n 73 C dX5_load_72 2 rfl rfl ?_
      refine j_iconst 74 C dX5_load_73 ic_1 rfl ?_
      refine j_iadd 75 C dX5_load_74 rfl ?_
      refine j_aload_n 76 C dX5_load_75 0 rfl rfl ?_
      refine g_F 79 C K 5 (by decide) mw_285 rfl dX5_load_76 rfl ?_
      refine j_icmp_eq 82 95 C dX5_load_79 (by decide) rfl (fun hc114 => ?_) (fun hc114 => ?_)
      · replace h := it_t hc114 h
        exact wn_X5_load_95 C K M ih42 lay σ112 v1 v2 k n (by omega) (by omega) h
      · replace h := it_f hc114 h
        refine j_aload_n 83 C dX5_load_82 0 rfl rfl ?_
        refine g_F 86 C K 4 (by decide) mw_284 rfl dX5_load_83 rfl ?_
        refine j_iload_n 87 C dX5_load_86 2 rfl rfl ?_
        refine j_iconst 88 C dX5_load_87 ic_1 rfl ?_
        refine j_iadd 89 C dX5_load_88 rfl ?_
        obtain ⟨hz115, h⟩ := gd_e h
        refine r_ild 90 C K (ar_I _ ) (ca_I _ _ ) hz115 dX5_load_89 rfl ?_
        refine j_bipush 92 C dX5_load_90 bp_59 rfl ?_
        refine j_icmp_ne 95 105 C dX5_load_92 (by decide) rfl (fun hc116 => ?_) (fun hc116 => ?_)
        · replace h := it_f hc116 h
          exact wn_X5_load_105 C K M ih42 lay σ112 v1 v2 k n (by omega) (by omega) h
        · replace h := it_t hc116 h
          exact wn_X5_load_95 C K M ih42 lay σ112 v1 v2 k n (by omega) (by omega) h
set_option maxHeartbeats 4000000 in
set_option maxRecDepth 100000 in
theorem wn_X5_load_21 {l : Launch} {p : Program} {e : Env} {s : State} {m : MethodId} {args : Array Value} {below : List Frame} {meth : Method} {c : Code} {g : GG} {A : Nat → Prop} (C : KX p m c cX5_load 3 s args RX5) (K : KC l g A s) (M : KM meth (some .int)) {σ' : CS} {r : Int32} {N0 : Nat}     (lay : Nat → Nat) (σ : CS)   (h : B_X5_load_21 N0 σ  = some (σ', .inl r)) : JJ p l e (rmk 8 204 (24 * N0) (12288 * N0)) s m args below meth c (MQ below (va_Qi (fun (r0 : Int32) (u : CS) => r0 = r ∧ u = σ') (BC (CH g A)) A) args s (24 * N0) (12288 * N0) A) A 3 (CH g A lay σ) (24 * N0) (12288 * N0) 21 [] [] := by
  unfold B_X5_load_21 at h
  cases h
set_option maxHeartbeats 4000000 in
set_option maxRecDepth 100000 in
theorem c_X5_load {l : Launch} (hst : l.stackTraces = false) (g : GG) (A : Nat → Prop) (lay : Nat → Nat) {σ : CS} {σ' : CS} {r : Int32} {N0 : Nat}  (h : F_X5_load σ N0 = some (σ', .inl r)) : MI l yX5_load cX5_load 3 .int 8 204 (24 * N0) (12288 * N0) [.ref (ga g 0)] (CH g A) g A lay σ σ' r := by
  unfold F_X5_load at h
  refine e_i (own := RX5) (lo := [(0, .ref (ga g 0))]) hst (plainFor_of_name (by decide)) rfl rfl (Nat.le_of_ble_eq_true rfl) ?_
  intro p e s m args below meth c C K M
  refine j_aload_n 1 C dX5_load_0 0 rfl rfl ?_
  obtain ⟨σ101, r102, hF, h⟩ := bd_e h
  refine k_Vi 4 C K (c_X5_readUpToError K.2.2.2 g A lay  hF) cp_X5_readUpToError (rv_F) mw_332 dX5_load_1 rfl rfl (Nat.le_of_ble_eq_true rfl) ⟨Nat.le_of_ble_eq_true rfl, Nat.le_of_ble_eq_true rfl⟩ ⟨by simp only [rmk]; omega, by simp only [rmk]; omega⟩ rfl (fun lay => ?_)
  refine j_aload_n 5 C dX5_load_4 0 rfl rfl ?_
  refine g_F 8 C K 5 (by decide) mw_285 rfl dX5_load_5 rfl ?_
  refine j_icmp_lt 11 21 C dX5_load_8 (by decide) rfl (fun hc103 => ?_) (fun hc103 => ?_)
  · replace h := it_t hc103 h
    refine j_sub [] (lo' := []) rfl ?_
    refine j_widen (k' := (24 * N0)) (n' := (12288 * N0)) (by omega) (by omega) ?_
    exact wn_X5_load_21 C K M  lay σ101  h
  · replace h := it_f hc103 h
    refine j_aload_n 12 C dX5_load_11 0 rfl rfl ?_
    refine g_F 15 C K 3 (by decide) mw_283 rfl dX5_load_12 rfl ?_
    obtain ⟨σ104, r105, hF, h⟩ := bd_e h
    refine k_Vi 18 C K (c_X2_isComplete K.2.2.2 g A lay  hF) cp_X2_isComplete (rv_R) mw_873 dX5_load_15 rfl rfl (Nat.le_of_ble_eq_true rfl) ⟨Nat.le_of_ble_eq_true rfl, Nat.le_of_ble_eq_true rfl⟩ ⟨by simp only [rmk]; omega, by simp only [rmk]; omega⟩ rfl (fun lay => ?_)
    refine j_if_ne 21 31 C dX5_load_18 (by decide) rfl (fun hc106 => ?_) (fun hc106 => ?_)
    · replace h := it_f hc106 h
      refine j_iconst 32 C dX5_load_31 ic_0 rfl ?_
      refine j_istore_n 33 C dX5_load_32 (lo' := [(1, .int (0 : Int32)), (0, .ref (ga g 0))]) (by decide) rfl rfl ?_
      refine j_aload_n 34 C dX5_load_33 1 rfl rfl ?_
      refine g_F 37 C K 3 (by decide) mw_283 rfl dX5_load_34 rfl ?_
      obtain ⟨σ107, u108, hF, h⟩ := bd_e h
      refine k_Vv 40 C K (c_X2_reset K.2.2.2 g A lay  hF) cp_X2_reset (rv_R) mw_336 dX5_load_37 rfl rfl (Nat.le_of_ble_eq_true rfl) ⟨Nat.le_of_ble_eq_true rfl, Nat.le_of_ble_eq_true rfl⟩ ⟨by simp only [rmk]; omega, by simp only [rmk]; omega⟩ rfl (fun lay => ?_)
      refine j_iconst 41 C dX5_load_40 ic_0 rfl ?_
      refine j_istore_n 42 C dX5_load_41 (lo' := [(2, .int (0 : Int32)), (1, .int (0 : Int32)), (0, .ref (ga g 0))]) (by decide) rfl rfl ?_
      refine j_sub [2, 1, 0] (lo' := [(0, .ref (ga g 0)), (1, .int (0 : Int32)), (2, .int (0 : Int32))]) rfl ?_
      exact wn_X5_load_42 C K M  N0 lay σ107 (0 : Int32) (0 : Int32) 0 0 (by omega) (by omega) h
    · replace h := it_t hc106 h
      refine j_sub [] (lo' := []) rfl ?_
      refine j_widen (k' := (24 * N0)) (n' := (12288 * N0)) (by omega) (by omega) ?_
      exact wn_X5_load_21 C K M  lay σ104  h
theorem nx_X5_load_105 {N0 : Nat} {self42 : CS → Int32 → Int32 → Option (CS × (Int32 ⊕ Nat))} {σ' : CS} {ex : Nat} (ih : ∀ σ v1 v2, ¬ self42 σ v1 v2 = some (σ', .inr ex)) {σ : CS} {v1 v2 : Int32} : ¬ B_X5_load_105 N0 self42 σ v1 v2 = some (σ', .inr ex) := fun h => by
  unfold B_X5_load_105 at h
  exact ih _ _ _ (lt_e h _ rfl)
theorem nx_X5_load_95 {N0 : Nat} {self42 : CS → Int32 → Int32 → Option (CS × (Int32 ⊕ Nat))} {σ' : CS} {ex : Nat} (ih : ∀ σ v1 v2, ¬ self42 σ v1 v2 = some (σ', .inr ex)) {σ : CS} {v1 v2 : Int32} : ¬ B_X5_load_95 N0 self42 σ v1 v2 = some (σ', .inr ex) := fun h => by
  unfold B_X5_load_95 at h
  obtain ⟨a1, b1, _, h⟩ := bd_e h
  obtain ⟨a2, b2, _, h⟩ := bd_e h
  exact nx_X5_load_105 ih (lt_e h _ rfl)
theorem nx_X5_load_42 {N0 : Nat} {σ' : CS} {ex : Nat} : ∀ (f : Nat) (σ : CS) (v1 v2 : Int32), ¬ B_X5_load_42 N0 f σ v1 v2 = some (σ', .inr ex) := by
  intro f
  induction f with
  | zero =>
    intro σ v1 v2 h
    exact nomatch (show (none : Option _) = some _ from h)
  | succ f ih =>
    intro σ v1 v2 h
    unfold B_X5_load_42 at h
    rw [lo3_s] at h
    by_cases hc : (σ 5 0 0) ≤ v2
    · replace h := lt_e (it_t hc h) _ rfl
      cases h
    · replace h := it_f hc h
      obtain ⟨_, h⟩ := gd_e h
      obtain ⟨a1, b1, _, h⟩ := bd_e h
      by_cases h1 : v2 + (1 : Int32) = a1 5 0 0
      · exact nx_X5_load_95 ih (it_t h1 h)
      · replace h := it_f h1 h
        obtain ⟨_, h⟩ := gd_e h
        by_cases h2 : (a1 40 0 (tn (v2 + (1 : Int32)))) = (59 : Int32)
        · exact nx_X5_load_95 ih (it_t h2 h)
        · exact nx_X5_load_105 ih (it_f h2 h)
set_option maxHeartbeats 4000000 in
set_option maxRecDepth 100000 in
theorem wx_X5_load_21 {l : Launch} {p : Program} {e : Env} {s : State} {m : MethodId} {args : Array Value} {below : List Frame} {meth : Method} {c : Code} {g : GG} {A : Nat → Prop} (C : KX p m c cX5_load 3 s args RX5) (K : KC l g A s) (M : KM meth (some .int)) (hx : ∀ x ∈ c.exceptionTable.toList, False) {σ' : CS} {ex : Nat} {N0 : Nat}     (lay : Nat → Nat) (σ : CS)   (h : B_X5_load_21 N0 σ  = some (σ', .inr ex)) : JJ p l e (rmk 8 204 1 6) s m args below meth c (vx_MQ below (va_Qi (fun (_ : Int32) (_ : CS) => False) (BC (CH g A)) A) (xxX (BC (CH g A)) A σ' ex) args s 1 6 A) A 3 (CH g A lay σ) 0 0 21 [] [] := by
  unfold B_X5_load_21 at h
  cases h
  exact jx_2 C K M hx CH_kept mw_432 xs_144 xat_X5_58 dX5_load_21 dX5_load_24 dX5_load_25 dX5_load_27 dX5_load_30 (Nat.le_of_ble_eq_true rfl) (Nat.le_of_ble_eq_true rfl) ⟨Nat.le_of_ble_eq_true rfl, Nat.le_of_ble_eq_true rfl⟩
set_option maxHeartbeats 4000000 in
set_option maxRecDepth 100000 in
theorem x_X5_load {l : Launch} (hst : l.stackTraces = false) (g : GG) (A : Nat → Prop) (lay : Nat → Nat) {σ : CS} {σ' : CS} {ex : Nat} {N0 : Nat}  (h : F_X5_load σ N0 = some (σ', .inr ex)) : XI l yX5_load cX5_load 3 .int 8 204 [.ref (ga g 0)] (CH g A) g A lay σ σ' ex := by
  unfold F_X5_load at h
  refine ex_i (own := RX5) (lo := [(0, .ref (ga g 0))]) hst (by decide) rfl rfl (Nat.le_of_ble_eq_true rfl) ?_
  intro p e s m args below meth c C K M hx
  refine j_aload_n 1 C dX5_load_0 0 rfl rfl ?_
  obtain ⟨σ101, r102, hF, h⟩ := bd_e h
  refine k_Vi 4 C K (c_X5_readUpToError K.2.2.2 g A lay  hF) cp_X5_readUpToError (rv_F) mw_332 dX5_load_1 rfl rfl (Nat.le_of_ble_eq_true rfl) ⟨Nat.le_of_ble_eq_true rfl, Nat.le_of_ble_eq_true rfl⟩ ⟨Nat.le_of_ble_eq_true rfl, Nat.le_of_ble_eq_true rfl⟩ rfl (fun lay => ?_)
  refine j_aload_n 5 C dX5_load_4 0 rfl rfl ?_
  refine g_F 8 C K 5 (by decide) mw_285 rfl dX5_load_5 rfl ?_
  refine j_icmp_lt 11 21 C dX5_load_8 (by decide) rfl (fun hc103 => ?_) (fun hc103 => ?_)
  · replace h := it_t hc103 h
    refine j_sub [] (lo' := []) rfl ?_
    exact wx_X5_load_21 C K M hx  lay σ101  h
  · replace h := it_f hc103 h
    refine j_aload_n 12 C dX5_load_11 0 rfl rfl ?_
    refine g_F 15 C K 3 (by decide) mw_283 rfl dX5_load_12 rfl ?_
    obtain ⟨σ104, r105, hF, h⟩ := bd_e h
    refine k_Vi 18 C K (c_X2_isComplete K.2.2.2 g A lay  hF) cp_X2_isComplete (rv_R) mw_873 dX5_load_15 rfl rfl (Nat.le_of_ble_eq_true rfl) ⟨Nat.le_of_ble_eq_true rfl, Nat.le_of_ble_eq_true rfl⟩ ⟨Nat.le_of_ble_eq_true rfl, Nat.le_of_ble_eq_true rfl⟩ rfl (fun lay => ?_)
    refine j_if_ne 21 31 C dX5_load_18 (by decide) rfl (fun hc106 => ?_) (fun hc106 => ?_)
    · replace h := it_f hc106 h
      refine j_iconst 32 C dX5_load_31 ic_0 rfl ?_
      refine j_istore_n 33 C dX5_load_32 (lo' := [(1, .int (0 : Int32)), (0, .ref (ga g 0))]) (by decide) rfl rfl ?_
      refine j_aload_n 34 C dX5_load_33 1 rfl rfl ?_
      refine g_F 37 C K 3 (by decide) mw_283 rfl dX5_load_34 rfl ?_
      obtain ⟨σ107, u108, hF, h⟩ := bd_e h
      refine k_Vv 40 C K (c_X2_reset K.2.2.2 g A lay  hF) cp_X2_reset (rv_R) mw_336 dX5_load_37 rfl rfl (Nat.le_of_ble_eq_true rfl) ⟨Nat.le_of_ble_eq_true rfl, Nat.le_of_ble_eq_true rfl⟩ ⟨Nat.le_of_ble_eq_true rfl, Nat.le_of_ble_eq_true rfl⟩ rfl (fun lay => ?_)
      refine j_iconst 41 C dX5_load_40 ic_0 rfl ?_
      refine j_istore_n 42 C dX5_load_41 (lo' := [(2, .int (0 : Int32)), (1, .int (0 : Int32)), (0, .ref (ga g 0))]) (by decide) rfl rfl ?_
      exact absurd h (nx_X5_load_42 _ _ _ _)
    · replace h := it_t hc106 h
      refine j_sub [] (lo' := []) rfl ?_
      exact wx_X5_load_21 C K M hx  lay σ104  h
theorem cp_X5_nodesUp : CPv yX5_nodesUp cX5_nodesUp 3 (some .int) RX5 0 := ⟨mw_418, mw_10, mw_98, mw_419, rfl, by decide, by decide, by decide +kernel⟩
set_option maxHeartbeats 4000000 in
set_option maxRecDepth 100000 in
theorem wn_X5_nodesUp_4 {l : Launch} {p : Program} {e : Env} {s : State} {m : MethodId} {args : Array Value} {below : List Frame} {meth : Method} {c : Code} {g : GG} {A : Nat → Prop} (C : KX p m c cX5_nodesUp 3 s args RX5) (K : KC l g A s) (M : KM meth (some .int)) {σ' : CS} {r : Int32}      : ∀ (fu : Nat) (lay : Nat → Nat) (σ : CS) (v1 : Int32) (v2 : Int32), B_X5_nodesUp_4  fu σ v1 v2 = some (σ', r) → JJ p l e (rmk 1 20 0 0) s m args below meth c (MQ below (va_Qi (fun (r0 : Int32) (u : CS) => r0 = r ∧ u = σ') (BC (CH g A)) A) args s 0 0 A) A 3 (CH g A lay σ) 0 0 4 [(0, .ref (ga g 0)), (1, .int v1), (2, .int v2)] [] := by
  intro fu
  induction fu with
  | zero =>
    intro lay σ v1 v2 h
    exact nomatch (show (none : Option _) = some _ from h)
  | succ fu ih4 =>
    intro lay σ v1 v2 h
    unfold B_X5_nodesUp_4 at h
    rw [lo3_s] at h
    refine j_iload_n 5 C dX5_nodesUp_4 2 rfl rfl ?_
    refine j_aload_n 6 C dX5_nodesUp_5 0 rfl rfl ?_
    refine g_F 9 C K 6 (by decide) mw_286 rfl dX5_nodesUp_6 rfl ?_
    refine j_icmp_ge 12 33 C dX5_nodesUp_9 (by decide) rfl (fun hc101 => ?_) (fun hc101 => ?_)
    · replace h := it_t hc101 h
      refine j_iload_n 34 C dX5_nodesUp_33 1 rfl rfl ?_
      cases h
      exact x_i C M dX5_nodesUp_34
    · replace h := it_f hc101 h
      refine j_iload_n 13 C dX5_nodesUp_12 1 rfl rfl ?_
      refine j_aload_n 14 C dX5_nodesUp_13 0 rfl rfl ?_
      refine g_F 17 C K 0 (by decide) mw_280 rfl dX5_nodesUp_14 rfl ?_
      refine j_iload_n 18 C dX5_nodesUp_17 2 rfl rfl ?_
      obtain ⟨hz102, h⟩ := gd_e h
      have hb103 : tn v2 < 7 := inb_lt hz102
      refine r_nodes 19 C K hz102 dX5_nodesUp_18 rfl ?_
      refine g_N 22 C K hb103 5 (by decide) mw_228 rfl dX5_nodesUp_19 rfl ?_
      obtain ⟨σ104, r105, hF, h⟩ := bd_e h
      refine k_Si 25 C K (c_X5_asNumber K.2.2.2 g A lay  hF) cp_X5_asNumber mw_321 dX5_nodesUp_22 rfl rfl (Nat.le_of_ble_eq_true rfl) ⟨Nat.le_of_ble_eq_true rfl, Nat.le_of_ble_eq_true rfl⟩ ⟨Nat.le_of_ble_eq_true rfl, Nat.le_of_ble_eq_true rfl⟩ rfl (fun lay => ?_)
      refine j_iadd 26 C dX5_nodesUp_25 rfl ?_
      refine j_topi (fun x106 ex106 => ?_)
      replace h := lt_e h x106 ex106
      refine j_istore_n 27 C dX5_nodesUp_26 (lo' := [(1, .int x106), (0, .ref (ga g 0)), (2, .int v2)]) (by decide) rfl rfl ?_
      obtain ⟨x107, ex107⟩ : ∃ z : Int32, z = v2 + 1 := ⟨_, rfl⟩
      replace h := lt_e h x107 ex107
      refine j_iinc 30 C dX5_nodesUp_27 2 rfl (v := x107) ((ii_1 _).trans ex107.symm) (lo' := [(2, .int x107), (1, .int x106), (0, .ref (ga g 0))]) (by decide) rfl rfl ?_
      refine j_goto 4 C dX5_nodesUp_30 (by decide) ?_
      refine j_sub [2, 1, 0] (lo' := [(0, .ref (ga g 0)), (1, .int x106), (2, .int x107)]) rfl ?_
      exact ih4 lay σ104 x106 x107 h
set_option maxHeartbeats 4000000 in
set_option maxRecDepth 100000 in
theorem c_X5_nodesUp {l : Launch} (hst : l.stackTraces = false) (g : GG) (A : Nat → Prop) (lay : Nat → Nat) {σ : CS} {σ' : CS} {r : Int32}   (h : F_X5_nodesUp σ  = some (σ', r)) : MI l yX5_nodesUp cX5_nodesUp 3 .int 1 20 0 0 [.ref (ga g 0)] (CH g A) g A lay σ σ' r := by
  unfold F_X5_nodesUp at h
  refine e_i (own := RX5) (lo := [(0, .ref (ga g 0))]) hst (plainFor_of_name (by decide)) rfl rfl (Nat.le_of_ble_eq_true rfl) ?_
  intro p e s m args below meth c C K M
  refine j_iconst 1 C dX5_nodesUp_0 ic_0 rfl ?_
  refine j_istore_n 2 C dX5_nodesUp_1 (lo' := [(1, .int (0 : Int32)), (0, .ref (ga g 0))]) (by decide) rfl rfl ?_
  refine j_iconst 3 C dX5_nodesUp_2 ic_0 rfl ?_
  refine j_istore_n 4 C dX5_nodesUp_3 (lo' := [(2, .int (0 : Int32)), (1, .int (0 : Int32)), (0, .ref (ga g 0))]) (by decide) rfl rfl ?_
  refine j_sub [2, 1, 0] (lo' := [(0, .ref (ga g 0)), (1, .int (0 : Int32)), (2, .int (0 : Int32))]) rfl ?_
  exact wn_X5_nodesUp_4 C K M  4096 lay σ (0 : Int32) (0 : Int32) h
theorem cp_X5_nodesJoined : CPv yX5_nodesJoined cX5_nodesJoined 3 (some .int) RX5 0 := ⟨mw_422, mw_11, mw_98, mw_423, rfl, by decide, by decide, by decide +kernel⟩
set_option maxHeartbeats 4000000 in
set_option maxRecDepth 100000 in
theorem wn_X5_nodesJoined_4 {l : Launch} {p : Program} {e : Env} {s : State} {m : MethodId} {args : Array Value} {below : List Frame} {meth : Method} {c : Code} {g : GG} {A : Nat → Prop} (C : KX p m c cX5_nodesJoined 3 s args RX5) (K : KC l g A s) (M : KM meth (some .int)) {σ' : CS} {r : Int32}      : ∀ (fu : Nat) (lay : Nat → Nat) (σ : CS) (v1 : Int32) (v2 : Int32), B_X5_nodesJoined_4  fu σ v1 v2 = some (σ', r) → JJ p l e (rmk 1 20 0 0) s m args below meth c (MQ below (va_Qi (fun (r0 : Int32) (u : CS) => r0 = r ∧ u = σ') (BC (CH g A)) A) args s 0 0 A) A 3 (CH g A lay σ) 0 0 4 [(0, .ref (ga g 0)), (1, .int v1), (2, .int v2)] [] := by
  intro fu
  induction fu with
  | zero =>
    intro lay σ v1 v2 h
    exact nomatch (show (none : Option _) = some _ from h)
  | succ fu ih4 =>
    intro lay σ v1 v2 h
    unfold B_X5_nodesJoined_4 at h
    rw [lo3_s] at h
    refine j_iload_n 5 C dX5_nodesJoined_4 2 rfl rfl ?_
    refine j_aload_n 6 C dX5_nodesJoined_5 0 rfl rfl ?_
    refine g_F 9 C K 6 (by decide) mw_286 rfl dX5_nodesJoined_6 rfl ?_
    refine j_icmp_ge 12 33 C dX5_nodesJoined_9 (by decide) rfl (fun hc101 => ?_) (fun hc101 => ?_)
    · replace h := it_t hc101 h
      refine j_iload_n 34 C dX5_nodesJoined_33 1 rfl rfl ?_
      cases h
      exact x_i C M dX5_nodesJoined_34
    · replace h := it_f hc101 h
      refine j_iload_n 13 C dX5_nodesJoined_12 1 rfl rfl ?_
      refine j_aload_n 14 C dX5_nodesJoined_13 0 rfl rfl ?_
      refine g_F 17 C K 0 (by decide) mw_280 rfl dX5_nodesJoined_14 rfl ?_
      refine j_iload_n 18 C dX5_nodesJoined_17 2 rfl rfl ?_
      obtain ⟨hz102, h⟩ := gd_e h
      have hb103 : tn v2 < 7 := inb_lt hz102
      refine r_nodes 19 C K hz102 dX5_nodesJoined_18 rfl ?_
      refine g_N 22 C K hb103 6 (by decide) mw_230 rfl dX5_nodesJoined_19 rfl ?_
      obtain ⟨σ104, r105, hF, h⟩ := bd_e h
      refine k_Si 25 C K (c_X5_asNumber K.2.2.2 g A lay  hF) cp_X5_asNumber mw_321 dX5_nodesJoined_22 rfl rfl (Nat.le_of_ble_eq_true rfl) ⟨Nat.le_of_ble_eq_true rfl, Nat.le_of_ble_eq_true rfl⟩ ⟨Nat.le_of_ble_eq_true rfl, Nat.le_of_ble_eq_true rfl⟩ rfl (fun lay => ?_)
      refine j_iadd 26 C dX5_nodesJoined_25 rfl ?_
      refine j_topi (fun x106 ex106 => ?_)
      replace h := lt_e h x106 ex106
      refine j_istore_n 27 C dX5_nodesJoined_26 (lo' := [(1, .int x106), (0, .ref (ga g 0)), (2, .int v2)]) (by decide) rfl rfl ?_
      obtain ⟨x107, ex107⟩ : ∃ z : Int32, z = v2 + 1 := ⟨_, rfl⟩
      replace h := lt_e h x107 ex107
      refine j_iinc 30 C dX5_nodesJoined_27 2 rfl (v := x107) ((ii_1 _).trans ex107.symm) (lo' := [(2, .int x107), (1, .int x106), (0, .ref (ga g 0))]) (by decide) rfl rfl ?_
      refine j_goto 4 C dX5_nodesJoined_30 (by decide) ?_
      refine j_sub [2, 1, 0] (lo' := [(0, .ref (ga g 0)), (1, .int x106), (2, .int x107)]) rfl ?_
      exact ih4 lay σ104 x106 x107 h
set_option maxHeartbeats 4000000 in
set_option maxRecDepth 100000 in
theorem c_X5_nodesJoined {l : Launch} (hst : l.stackTraces = false) (g : GG) (A : Nat → Prop) (lay : Nat → Nat) {σ : CS} {σ' : CS} {r : Int32}   (h : F_X5_nodesJoined σ  = some (σ', r)) : MI l yX5_nodesJoined cX5_nodesJoined 3 .int 1 20 0 0 [.ref (ga g 0)] (CH g A) g A lay σ σ' r := by
  unfold F_X5_nodesJoined at h
  refine e_i (own := RX5) (lo := [(0, .ref (ga g 0))]) hst (plainFor_of_name (by decide)) rfl rfl (Nat.le_of_ble_eq_true rfl) ?_
  intro p e s m args below meth c C K M
  refine j_iconst 1 C dX5_nodesJoined_0 ic_0 rfl ?_
  refine j_istore_n 2 C dX5_nodesJoined_1 (lo' := [(1, .int (0 : Int32)), (0, .ref (ga g 0))]) (by decide) rfl rfl ?_
  refine j_iconst 3 C dX5_nodesJoined_2 ic_0 rfl ?_
  refine j_istore_n 4 C dX5_nodesJoined_3 (lo' := [(2, .int (0 : Int32)), (1, .int (0 : Int32)), (0, .ref (ga g 0))]) (by decide) rfl rfl ?_
  refine j_sub [2, 1, 0] (lo' := [(0, .ref (ga g 0)), (1, .int (0 : Int32)), (2, .int (0 : Int32))]) rfl ?_
  exact wn_X5_nodesJoined_4 C K M  4096 lay σ (0 : Int32) (0 : Int32) h
theorem cp_X5_decidedSlots : CPv yX5_decidedSlots cX5_decidedSlots 3 (some .int) RX5 0 := ⟨mw_384, mw_6, mw_98, mw_385, rfl, by decide, by decide, by decide +kernel⟩
set_option maxHeartbeats 4000000 in
set_option maxRecDepth 100000 in
theorem wn_X5_decidedSlots_4 {l : Launch} {p : Program} {e : Env} {s : State} {m : MethodId} {args : Array Value} {below : List Frame} {meth : Method} {c : Code} {g : GG} {A : Nat → Prop} (C : KX p m c cX5_decidedSlots 3 s args RX5) (K : KC l g A s) (M : KM meth (some .int)) {σ' : CS} {r : Int32}      : ∀ (fu : Nat) (lay : Nat → Nat) (σ : CS) (v1 : Int32) (v2 : Int32), B_X5_decidedSlots_4  fu σ v1 v2 = some (σ', r) → JJ p l e (rmk 1 20 0 0) s m args below meth c (MQ below (va_Qi (fun (r0 : Int32) (u : CS) => r0 = r ∧ u = σ') (BC (CH g A)) A) args s 0 0 A) A 3 (CH g A lay σ) 0 0 4 [(0, .ref (ga g 0)), (1, .int v1), (2, .int v2)] [] := by
  intro fu
  induction fu with
  | zero =>
    intro lay σ v1 v2 h
    exact nomatch (show (none : Option _) = some _ from h)
  | succ fu ih4 =>
    intro lay σ v1 v2 h
    unfold B_X5_decidedSlots_4 at h
    rw [lo3_s] at h
    refine j_iload_n 5 C dX5_decidedSlots_4 2 rfl rfl ?_
    refine j_aload_n 6 C dX5_decidedSlots_5 0 rfl rfl ?_
    refine g_F 9 C K 7 (by decide) mw_287 rfl dX5_decidedSlots_6 rfl ?_
    refine j_icmp_ge 12 33 C dX5_decidedSlots_9 (by decide) rfl (fun hc101 => ?_) (fun hc101 => ?_)
    · replace h := it_t hc101 h
      refine j_iload_n 34 C dX5_decidedSlots_33 1 rfl rfl ?_
      cases h
      exact x_i C M dX5_decidedSlots_34
    · replace h := it_f hc101 h
      refine j_iload_n 13 C dX5_decidedSlots_12 1 rfl rfl ?_
      refine j_aload_n 14 C dX5_decidedSlots_13 0 rfl rfl ?_
      refine g_F 17 C K 1 (by decide) mw_281 rfl dX5_decidedSlots_14 rfl ?_
      refine j_iload_n 18 C dX5_decidedSlots_17 2 rfl rfl ?_
      obtain ⟨hz102, h⟩ := gd_e h
      have hb103 : tn v2 < 4 := inb_lt hz102
      refine r_decs 19 C K hz102 dX5_decidedSlots_18 rfl ?_
      obtain ⟨σ104, r105, hF, h⟩ := bd_e h
      refine k_Vi 22 C K (c_X0_isMade K.2.2.2 g A lay hb103 hF) cp_X0_isMade (rv_C hb103) mw_386 dX5_decidedSlots_19 rfl rfl (Nat.le_of_ble_eq_true rfl) ⟨Nat.le_of_ble_eq_true rfl, Nat.le_of_ble_eq_true rfl⟩ ⟨Nat.le_of_ble_eq_true rfl, Nat.le_of_ble_eq_true rfl⟩ rfl (fun lay => ?_)
      obtain ⟨σ106, r107, hF, h⟩ := bd_e h
      refine k_Si 25 C K (c_X5_asNumber K.2.2.2 g A lay  hF) cp_X5_asNumber mw_321 dX5_decidedSlots_22 rfl rfl (Nat.le_of_ble_eq_true rfl) ⟨Nat.le_of_ble_eq_true rfl, Nat.le_of_ble_eq_true rfl⟩ ⟨Nat.le_of_ble_eq_true rfl, Nat.le_of_ble_eq_true rfl⟩ rfl (fun lay => ?_)
      refine j_iadd 26 C dX5_decidedSlots_25 rfl ?_
      refine j_topi (fun x108 ex108 => ?_)
      replace h := lt_e h x108 ex108
      refine j_istore_n 27 C dX5_decidedSlots_26 (lo' := [(1, .int x108), (0, .ref (ga g 0)), (2, .int v2)]) (by decide) rfl rfl ?_
      obtain ⟨x109, ex109⟩ : ∃ z : Int32, z = v2 + 1 := ⟨_, rfl⟩
      replace h := lt_e h x109 ex109
      refine j_iinc 30 C dX5_decidedSlots_27 2 rfl (v := x109) ((ii_1 _).trans ex109.symm) (lo' := [(2, .int x109), (1, .int x108), (0, .ref (ga g 0))]) (by decide) rfl rfl ?_
      refine j_goto 4 C dX5_decidedSlots_30 (by decide) ?_
      refine j_sub [2, 1, 0] (lo' := [(0, .ref (ga g 0)), (1, .int x108), (2, .int x109)]) rfl ?_
      exact ih4 lay σ106 x108 x109 h
set_option maxHeartbeats 4000000 in
set_option maxRecDepth 100000 in
theorem c_X5_decidedSlots {l : Launch} (hst : l.stackTraces = false) (g : GG) (A : Nat → Prop) (lay : Nat → Nat) {σ : CS} {σ' : CS} {r : Int32}   (h : F_X5_decidedSlots σ  = some (σ', r)) : MI l yX5_decidedSlots cX5_decidedSlots 3 .int 1 20 0 0 [.ref (ga g 0)] (CH g A) g A lay σ σ' r := by
  unfold F_X5_decidedSlots at h
  refine e_i (own := RX5) (lo := [(0, .ref (ga g 0))]) hst (plainFor_of_name (by decide)) rfl rfl (Nat.le_of_ble_eq_true rfl) ?_
  intro p e s m args below meth c C K M
  refine j_iconst 1 C dX5_decidedSlots_0 ic_0 rfl ?_
  refine j_istore_n 2 C dX5_decidedSlots_1 (lo' := [(1, .int (0 : Int32)), (0, .ref (ga g 0))]) (by decide) rfl rfl ?_
  refine j_iconst 3 C dX5_decidedSlots_2 ic_0 rfl ?_
  refine j_istore_n 4 C dX5_decidedSlots_3 (lo' := [(2, .int (0 : Int32)), (1, .int (0 : Int32)), (0, .ref (ga g 0))]) (by decide) rfl rfl ?_
  refine j_sub [2, 1, 0] (lo' := [(0, .ref (ga g 0)), (1, .int (0 : Int32)), (2, .int (0 : Int32))]) rfl ?_
  exact wn_X5_decidedSlots_4 C K M  4096 lay σ (0 : Int32) (0 : Int32) h
theorem cp_X5_slotsInConflict : CPv yX5_slotsInConflict cX5_slotsInConflict 3 (some .int) RX5 0 := ⟨mw_426, mw_12, mw_98, mw_427, rfl, by decide, by decide, by decide +kernel⟩
set_option maxHeartbeats 4000000 in
set_option maxRecDepth 100000 in
theorem wn_X5_slotsInConflict_4 {l : Launch} {p : Program} {e : Env} {s : State} {m : MethodId} {args : Array Value} {below : List Frame} {meth : Method} {c : Code} {g : GG} {A : Nat → Prop} (C : KX p m c cX5_slotsInConflict 3 s args RX5) (K : KC l g A s) (M : KM meth (some .int)) {σ' : CS} {r : Int32}      : ∀ (fu : Nat) (lay : Nat → Nat) (σ : CS) (v1 : Int32) (v2 : Int32), B_X5_slotsInConflict_4  fu σ v1 v2 = some (σ', r) → JJ p l e (rmk 1 20 0 0) s m args below meth c (MQ below (va_Qi (fun (r0 : Int32) (u : CS) => r0 = r ∧ u = σ') (BC (CH g A)) A) args s 0 0 A) A 3 (CH g A lay σ) 0 0 4 [(0, .ref (ga g 0)), (1, .int v1), (2, .int v2)] [] := by
  intro fu
  induction fu with
  | zero =>
    intro lay σ v1 v2 h
    exact nomatch (show (none : Option _) = some _ from h)
  | succ fu ih4 =>
    intro lay σ v1 v2 h
    unfold B_X5_slotsInConflict_4 at h
    rw [lo3_s] at h
    refine j_iload_n 5 C dX5_slotsInConflict_4 2 rfl rfl ?_
    refine j_aload_n 6 C dX5_slotsInConflict_5 0 rfl rfl ?_
    refine g_F 9 C K 7 (by decide) mw_287 rfl dX5_slotsInConflict_6 rfl ?_
    refine j_icmp_ge 12 33 C dX5_slotsInConflict_9 (by decide) rfl (fun hc101 => ?_) (fun hc101 => ?_)
    · replace h := it_t hc101 h
      refine j_iload_n 34 C dX5_slotsInConflict_33 1 rfl rfl ?_
      cases h
      exact x_i C M dX5_slotsInConflict_34
    · replace h := it_f hc101 h
      refine j_iload_n 13 C dX5_slotsInConflict_12 1 rfl rfl ?_
      refine j_aload_n 14 C dX5_slotsInConflict_13 0 rfl rfl ?_
      refine g_F 17 C K 1 (by decide) mw_281 rfl dX5_slotsInConflict_14 rfl ?_
      refine j_iload_n 18 C dX5_slotsInConflict_17 2 rfl rfl ?_
      obtain ⟨hz102, h⟩ := gd_e h
      have hb103 : tn v2 < 4 := inb_lt hz102
      refine r_decs 19 C K hz102 dX5_slotsInConflict_18 rfl ?_
      refine g_C 22 C K hb103 3 (by decide) mw_270 rfl dX5_slotsInConflict_19 rfl ?_
      obtain ⟨σ104, r105, hF, h⟩ := bd_e h
      refine k_Si 25 C K (c_X5_asNumber K.2.2.2 g A lay  hF) cp_X5_asNumber mw_321 dX5_slotsInConflict_22 rfl rfl (Nat.le_of_ble_eq_true rfl) ⟨Nat.le_of_ble_eq_true rfl, Nat.le_of_ble_eq_true rfl⟩ ⟨Nat.le_of_ble_eq_true rfl, Nat.le_of_ble_eq_true rfl⟩ rfl (fun lay => ?_)
      refine j_iadd 26 C dX5_slotsInConflict_25 rfl ?_
      refine j_topi (fun x106 ex106 => ?_)
      replace h := lt_e h x106 ex106
      refine j_istore_n 27 C dX5_slotsInConflict_26 (lo' := [(1, .int x106), (0, .ref (ga g 0)), (2, .int v2)]) (by decide) rfl rfl ?_
      obtain ⟨x107, ex107⟩ : ∃ z : Int32, z = v2 + 1 := ⟨_, rfl⟩
      replace h := lt_e h x107 ex107
      refine j_iinc 30 C dX5_slotsInConflict_27 2 rfl (v := x107) ((ii_1 _).trans ex107.symm) (lo' := [(2, .int x107), (1, .int x106), (0, .ref (ga g 0))]) (by decide) rfl rfl ?_
      refine j_goto 4 C dX5_slotsInConflict_30 (by decide) ?_
      refine j_sub [2, 1, 0] (lo' := [(0, .ref (ga g 0)), (1, .int x106), (2, .int x107)]) rfl ?_
      exact ih4 lay σ104 x106 x107 h
set_option maxHeartbeats 4000000 in
set_option maxRecDepth 100000 in
theorem c_X5_slotsInConflict {l : Launch} (hst : l.stackTraces = false) (g : GG) (A : Nat → Prop) (lay : Nat → Nat) {σ : CS} {σ' : CS} {r : Int32}   (h : F_X5_slotsInConflict σ  = some (σ', r)) : MI l yX5_slotsInConflict cX5_slotsInConflict 3 .int 1 20 0 0 [.ref (ga g 0)] (CH g A) g A lay σ σ' r := by
  unfold F_X5_slotsInConflict at h
  refine e_i (own := RX5) (lo := [(0, .ref (ga g 0))]) hst (plainFor_of_name (by decide)) rfl rfl (Nat.le_of_ble_eq_true rfl) ?_
  intro p e s m args below meth c C K M
  refine j_iconst 1 C dX5_slotsInConflict_0 ic_0 rfl ?_
  refine j_istore_n 2 C dX5_slotsInConflict_1 (lo' := [(1, .int (0 : Int32)), (0, .ref (ga g 0))]) (by decide) rfl rfl ?_
  refine j_iconst 3 C dX5_slotsInConflict_2 ic_0 rfl ?_
  refine j_istore_n 4 C dX5_slotsInConflict_3 (lo' := [(2, .int (0 : Int32)), (1, .int (0 : Int32)), (0, .ref (ga g 0))]) (by decide) rfl rfl ?_
  refine j_sub [2, 1, 0] (lo' := [(0, .ref (ga g 0)), (1, .int (0 : Int32)), (2, .int (0 : Int32))]) rfl ?_
  exact wn_X5_slotsInConflict_4 C K M  4096 lay σ (0 : Int32) (0 : Int32) h
theorem cp_X5_writesWaiting : CPv yX5_writesWaiting cX5_writesWaiting 3 (some .int) RX5 0 := ⟨mw_430, mw_13, mw_98, mw_431, rfl, by decide, by decide, by decide +kernel⟩
set_option maxHeartbeats 4000000 in
set_option maxRecDepth 100000 in
theorem wn_X5_writesWaiting_4 {l : Launch} {p : Program} {e : Env} {s : State} {m : MethodId} {args : Array Value} {below : List Frame} {meth : Method} {c : Code} {g : GG} {A : Nat → Prop} (C : KX p m c cX5_writesWaiting 3 s args RX5) (K : KC l g A s) (M : KM meth (some .int)) {σ' : CS} {r : Int32}      : ∀ (fu : Nat) (lay : Nat → Nat) (σ : CS) (v1 : Int32) (v2 : Int32), B_X5_writesWaiting_4  fu σ v1 v2 = some (σ', r) → JJ p l e (rmk 0 0 0 0) s m args below meth c (MQ below (va_Qi (fun (r0 : Int32) (u : CS) => r0 = r ∧ u = σ') (BC (CH g A)) A) args s 0 0 A) A 3 (CH g A lay σ) 0 0 4 [(0, .ref (ga g 0)), (1, .int v1), (2, .int v2)] [] := by
  intro fu
  induction fu with
  | zero =>
    intro lay σ v1 v2 h
    exact nomatch (show (none : Option _) = some _ from h)
  | succ fu ih4 =>
    intro lay σ v1 v2 h
    unfold B_X5_writesWaiting_4 at h
    rw [lo3_s] at h
    refine j_iload_n 5 C dX5_writesWaiting_4 2 rfl rfl ?_
    refine j_aload_n 6 C dX5_writesWaiting_5 0 rfl rfl ?_
    refine g_F 9 C K 6 (by decide) mw_286 rfl dX5_writesWaiting_6 rfl ?_
    refine j_icmp_ge 12 33 C dX5_writesWaiting_9 (by decide) rfl (fun hc101 => ?_) (fun hc101 => ?_)
    · replace h := it_t hc101 h
      refine j_iload_n 34 C dX5_writesWaiting_33 1 rfl rfl ?_
      cases h
      exact x_i C M dX5_writesWaiting_34
    · replace h := it_f hc101 h
      refine j_iload_n 13 C dX5_writesWaiting_12 1 rfl rfl ?_
      refine j_aload_n 14 C dX5_writesWaiting_13 0 rfl rfl ?_
      refine g_F 17 C K 0 (by decide) mw_280 rfl dX5_writesWaiting_14 rfl ?_
      refine j_iload_n 18 C dX5_writesWaiting_17 2 rfl rfl ?_
      obtain ⟨hz102, h⟩ := gd_e h
      have hb103 : tn v2 < 7 := inb_lt hz102
      refine r_nodes 19 C K hz102 dX5_writesWaiting_18 rfl ?_
      refine g_N 22 C K hb103 3 (by decide) mw_224 rfl dX5_writesWaiting_19 rfl ?_
      refine g_W 25 C K hb103 3 (by decide) mw_208 rfl dX5_writesWaiting_22 rfl ?_
      refine j_iadd 26 C dX5_writesWaiting_25 rfl ?_
      refine j_topi (fun x104 ex104 => ?_)
      replace h := lt_e h x104 ex104
      refine j_istore_n 27 C dX5_writesWaiting_26 (lo' := [(1, .int x104), (0, .ref (ga g 0)), (2, .int v2)]) (by decide) rfl rfl ?_
      obtain ⟨x105, ex105⟩ : ∃ z : Int32, z = v2 + 1 := ⟨_, rfl⟩
      replace h := lt_e h x105 ex105
      refine j_iinc 30 C dX5_writesWaiting_27 2 rfl (v := x105) ((ii_1 _).trans ex105.symm) (lo' := [(2, .int x105), (1, .int x104), (0, .ref (ga g 0))]) (by decide) rfl rfl ?_
      refine j_goto 4 C dX5_writesWaiting_30 (by decide) ?_
      refine j_sub [2, 1, 0] (lo' := [(0, .ref (ga g 0)), (1, .int x104), (2, .int x105)]) rfl ?_
      exact ih4 lay σ x104 x105 h
set_option maxHeartbeats 4000000 in
set_option maxRecDepth 100000 in
theorem c_X5_writesWaiting {l : Launch} (hst : l.stackTraces = false) (g : GG) (A : Nat → Prop) (lay : Nat → Nat) {σ : CS} {σ' : CS} {r : Int32}   (h : F_X5_writesWaiting σ  = some (σ', r)) : MI l yX5_writesWaiting cX5_writesWaiting 3 .int 0 0 0 0 [.ref (ga g 0)] (CH g A) g A lay σ σ' r := by
  unfold F_X5_writesWaiting at h
  refine e_i (own := RX5) (lo := [(0, .ref (ga g 0))]) hst (plainFor_of_name (by decide)) rfl rfl (Nat.le_of_ble_eq_true rfl) ?_
  intro p e s m args below meth c C K M
  refine j_iconst 1 C dX5_writesWaiting_0 ic_0 rfl ?_
  refine j_istore_n 2 C dX5_writesWaiting_1 (lo' := [(1, .int (0 : Int32)), (0, .ref (ga g 0))]) (by decide) rfl rfl ?_
  refine j_iconst 3 C dX5_writesWaiting_2 ic_0 rfl ?_
  refine j_istore_n 4 C dX5_writesWaiting_3 (lo' := [(2, .int (0 : Int32)), (1, .int (0 : Int32)), (0, .ref (ga g 0))]) (by decide) rfl rfl ?_
  refine j_sub [2, 1, 0] (lo' := [(0, .ref (ga g 0)), (1, .int (0 : Int32)), (2, .int (0 : Int32))]) rfl ?_
  exact wn_X5_writesWaiting_4 C K M  4096 lay σ (0 : Int32) (0 : Int32) h
theorem cp_X5_count : CPv yX5_count cX5_count 2 (some .int) RX5 1 := ⟨mw_409, mw_410, mw_98, mw_411, rfl, by decide, by decide, by decide +kernel⟩
set_option maxHeartbeats 4000000 in
set_option maxRecDepth 100000 in
theorem c_X5_count {l : Launch} (hst : l.stackTraces = false) (g : GG) (A : Nat → Prop) (lay : Nat → Nat) {σ : CS} {σ' : CS} {r : Int32} {x1 : Int32}  (h : F_X5_count σ x1 = some (σ', .inl r)) : MI l yX5_count cX5_count 2 .int 6 90 0 0 [.ref (ga g 0), .int x1] (CH g A) g A lay σ σ' r := by
  unfold F_X5_count at h
  refine e_i (own := RX5) (lo := [(0, .ref (ga g 0)), (1, .int x1)]) hst (plainFor_of_name (by decide)) rfl rfl (Nat.le_of_ble_eq_true rfl) ?_
  intro p e s m args below meth c C K M
  refine j_iload_n 1 C dX5_count_0 1 rfl rfl ?_
  by_cases hc101 : x1 = 0
  · replace h := it_t hc101 h
    refine j_tin 64 C dX5_count_1 (off := 63) (by rw [hc101]; decide) (by rw [hc101]; decide) (by rw [hc101]; decide) (by decide) ?_
    refine j_aload_n 65 C dX5_count_64 0 rfl rfl ?_
    refine g_F 68 C K 6 (by decide) mw_286 rfl dX5_count_65 rfl ?_
    cases h
    exact x_i C M dX5_count_68
  replace h := it_f hc101 h
  by_cases hc102 : x1 = 1
  · replace h := it_t hc102 h
    refine j_tin 69 C dX5_count_1 (off := 68) (by rw [hc102]; decide) (by rw [hc102]; decide) (by rw [hc102]; decide) (by decide) ?_
    refine j_aload_n 70 C dX5_count_69 0 rfl rfl ?_
    refine g_F 73 C K 7 (by decide) mw_287 rfl dX5_count_70 rfl ?_
    cases h
    exact x_i C M dX5_count_73
  replace h := it_f hc102 h
  by_cases hc103 : x1 = 2
  · replace h := it_t hc103 h
    refine j_tin 74 C dX5_count_1 (off := 73) (by rw [hc103]; decide) (by rw [hc103]; decide) (by rw [hc103]; decide) (by decide) ?_
    refine j_aload_n 75 C dX5_count_74 0 rfl rfl ?_
    obtain ⟨σ104, r105, hF, h⟩ := bd_e h
    refine k_Vi 78 C K (c_X5_quorum K.2.2.2 g A lay  hF) cp_X5_quorum (rv_F) mw_412 dX5_count_75 rfl rfl (Nat.le_of_ble_eq_true rfl) ⟨Nat.le_of_ble_eq_true rfl, Nat.le_of_ble_eq_true rfl⟩ ⟨Nat.le_of_ble_eq_true rfl, Nat.le_of_ble_eq_true rfl⟩ rfl (fun lay => ?_)
    cases h
    exact x_i C M dX5_count_78
  replace h := it_f hc103 h
  by_cases hc106 : x1 = 3
  · replace h := it_t hc106 h
    refine j_tin 79 C dX5_count_1 (off := 78) (by rw [hc106]; decide) (by rw [hc106]; decide) (by rw [hc106]; decide) (by decide) ?_
    refine j_aload_n 80 C dX5_count_79 0 rfl rfl ?_
    refine g_F 83 C K 8 (by decide) mw_288 rfl dX5_count_80 rfl ?_
    obtain ⟨σ107, r108, hF, h⟩ := bd_e h
    refine k_Si 86 C K (c_X5_asNumber K.2.2.2 g A lay  hF) cp_X5_asNumber mw_321 dX5_count_83 rfl rfl (Nat.le_of_ble_eq_true rfl) ⟨Nat.le_of_ble_eq_true rfl, Nat.le_of_ble_eq_true rfl⟩ ⟨Nat.le_of_ble_eq_true rfl, Nat.le_of_ble_eq_true rfl⟩ rfl (fun lay => ?_)
    cases h
    exact x_i C M dX5_count_86
  replace h := it_f hc106 h
  by_cases hc109 : x1 = 4
  · replace h := it_t hc109 h
    refine j_tin 87 C dX5_count_1 (off := 86) (by rw [hc109]; decide) (by rw [hc109]; decide) (by rw [hc109]; decide) (by decide) ?_
    refine j_aload_n 88 C dX5_count_87 0 rfl rfl ?_
    obtain ⟨σ110, r111, hF, h⟩ := bd_e h
    refine k_Vi 91 C K (c_X5_nodesUp K.2.2.2 g A lay  hF) cp_X5_nodesUp (rv_F) mw_416 dX5_count_88 rfl rfl (Nat.le_of_ble_eq_true rfl) ⟨Nat.le_of_ble_eq_true rfl, Nat.le_of_ble_eq_true rfl⟩ ⟨Nat.le_of_ble_eq_true rfl, Nat.le_of_ble_eq_true rfl⟩ rfl (fun lay => ?_)
    cases h
    exact x_i C M dX5_count_91
  replace h := it_f hc109 h
  by_cases hc112 : x1 = 5
  · replace h := it_t hc112 h
    refine j_tin 92 C dX5_count_1 (off := 91) (by rw [hc112]; decide) (by rw [hc112]; decide) (by rw [hc112]; decide) (by decide) ?_
    refine j_aload_n 93 C dX5_count_92 0 rfl rfl ?_
    obtain ⟨σ113, r114, hF, h⟩ := bd_e h
    refine k_Vi 96 C K (c_X5_nodesJoined K.2.2.2 g A lay  hF) cp_X5_nodesJoined (rv_F) mw_420 dX5_count_93 rfl rfl (Nat.le_of_ble_eq_true rfl) ⟨Nat.le_of_ble_eq_true rfl, Nat.le_of_ble_eq_true rfl⟩ ⟨Nat.le_of_ble_eq_true rfl, Nat.le_of_ble_eq_true rfl⟩ rfl (fun lay => ?_)
    cases h
    exact x_i C M dX5_count_96
  replace h := it_f hc112 h
  by_cases hc115 : x1 = 6
  · replace h := it_t hc115 h
    refine j_tin 97 C dX5_count_1 (off := 96) (by rw [hc115]; decide) (by rw [hc115]; decide) (by rw [hc115]; decide) (by decide) ?_
    refine j_aload_n 98 C dX5_count_97 0 rfl rfl ?_
    obtain ⟨σ116, r117, hF, h⟩ := bd_e h
    refine k_Vi 101 C K (c_X5_decidedSlots K.2.2.2 g A lay  hF) cp_X5_decidedSlots (rv_F) mw_382 dX5_count_98 rfl rfl (Nat.le_of_ble_eq_true rfl) ⟨Nat.le_of_ble_eq_true rfl, Nat.le_of_ble_eq_true rfl⟩ ⟨Nat.le_of_ble_eq_true rfl, Nat.le_of_ble_eq_true rfl⟩ rfl (fun lay => ?_)
    cases h
    exact x_i C M dX5_count_101
  replace h := it_f hc115 h
  by_cases hc118 : x1 = 7
  · replace h := it_t hc118 h
    refine j_tin 102 C dX5_count_1 (off := 101) (by rw [hc118]; decide) (by rw [hc118]; decide) (by rw [hc118]; decide) (by decide) ?_
    refine j_aload_n 103 C dX5_count_102 0 rfl rfl ?_
    obtain ⟨σ119, r120, hF, h⟩ := bd_e h
    refine k_Vi 106 C K (c_X5_slotsInConflict K.2.2.2 g A lay  hF) cp_X5_slotsInConflict (rv_F) mw_424 dX5_count_103 rfl rfl (Nat.le_of_ble_eq_true rfl) ⟨Nat.le_of_ble_eq_true rfl, Nat.le_of_ble_eq_true rfl⟩ ⟨Nat.le_of_ble_eq_true rfl, Nat.le_of_ble_eq_true rfl⟩ rfl (fun lay => ?_)
    cases h
    exact x_i C M dX5_count_106
  replace h := it_f hc118 h
  by_cases hc121 : x1 = 8
  · replace h := it_t hc121 h
    refine j_tin 107 C dX5_count_1 (off := 106) (by rw [hc121]; decide) (by rw [hc121]; decide) (by rw [hc121]; decide) (by decide) ?_
    refine j_aload_n 108 C dX5_count_107 0 rfl rfl ?_
    refine g_F 111 C K 9 (by decide) mw_289 rfl dX5_count_108 rfl ?_
    cases h
    exact x_i C M dX5_count_111
  replace h := it_f hc121 h
  by_cases hc122 : x1 = 9
  · replace h := it_t hc122 h
    refine j_tin 112 C dX5_count_1 (off := 111) (by rw [hc122]; decide) (by rw [hc122]; decide) (by rw [hc122]; decide) (by decide) ?_
    refine j_aload_n 113 C dX5_count_112 0 rfl rfl ?_
    refine g_F 116 C K 10 (by decide) mw_290 rfl dX5_count_113 rfl ?_
    cases h
    exact x_i C M dX5_count_116
  replace h := it_f hc122 h
  by_cases hc123 : x1 = 10
  · replace h := it_t hc123 h
    refine j_tin 117 C dX5_count_1 (off := 116) (by rw [hc123]; decide) (by rw [hc123]; decide) (by rw [hc123]; decide) (by decide) ?_
    refine j_aload_n 118 C dX5_count_117 0 rfl rfl ?_
    obtain ⟨σ124, r125, hF, h⟩ := bd_e h
    refine k_Vi 121 C K (c_X5_writesWaiting K.2.2.2 g A lay  hF) cp_X5_writesWaiting (rv_F) mw_428 dX5_count_118 rfl rfl (Nat.le_of_ble_eq_true rfl) ⟨Nat.le_of_ble_eq_true rfl, Nat.le_of_ble_eq_true rfl⟩ ⟨Nat.le_of_ble_eq_true rfl, Nat.le_of_ble_eq_true rfl⟩ rfl (fun lay => ?_)
    cases h
    exact x_i C M dX5_count_121
  replace h := it_f hc123 h
  by_cases hc126 : x1 = 11
  · replace h := it_t hc126 h
    refine j_tin 122 C dX5_count_1 (off := 121) (by rw [hc126]; decide) (by rw [hc126]; decide) (by rw [hc126]; decide) (by decide) ?_
    refine j_aload_n 123 C dX5_count_122 0 rfl rfl ?_
    refine g_F 126 C K 11 (by decide) mw_291 rfl dX5_count_123 rfl ?_
    cases h
    exact x_i C M dX5_count_126
  replace h := it_f hc126 h
  refine j_tout 127 C dX5_count_1 (by have := lv_neT hc101 (a := 0) (by decide); have := lv_neT hc102 (a := 1) (by decide); have := lv_neT hc103 (a := 2) (by decide); have := lv_neT hc106 (a := 3) (by decide); have := lv_neT hc109 (a := 4) (by decide); have := lv_neT hc112 (a := 5) (by decide); have := lv_neT hc115 (a := 6) (by decide); have := lv_neT hc118 (a := 7) (by decide); have := lv_neT hc121 (a := 8) (by decide); have := lv_neT hc122 (a := 9) (by decide); have := lv_neT hc123 (a := 10) (by decide); have := lv_neT hc126 (a := 11) (by decide); omega) (by decide) ?_
  cases h
set_option maxHeartbeats 4000000 in
set_option maxRecDepth 100000 in
theorem x_X5_count {l : Launch} (hst : l.stackTraces = false) (g : GG) (A : Nat → Prop) (lay : Nat → Nat) {σ : CS} {σ' : CS} {ex : Nat} {x1 : Int32}  (h : F_X5_count σ x1 = some (σ', .inr ex)) : XI l yX5_count cX5_count 2 .int 6 90 [.ref (ga g 0), .int x1] (CH g A) g A lay σ σ' ex := by
  unfold F_X5_count at h
  refine ex_i (own := RX5) (lo := [(0, .ref (ga g 0)), (1, .int x1)]) hst (by decide) rfl rfl (Nat.le_of_ble_eq_true rfl) ?_
  intro p e s m args below meth c C K M hx
  refine j_iload_n 1 C dX5_count_0 1 rfl rfl ?_
  by_cases hc101 : x1 = 0
  · replace h := it_t hc101 h
    refine j_tin 64 C dX5_count_1 (off := 63) (by rw [hc101]; decide) (by rw [hc101]; decide) (by rw [hc101]; decide) (by decide) ?_
    refine j_aload_n 65 C dX5_count_64 0 rfl rfl ?_
    refine g_F 68 C K 6 (by decide) mw_286 rfl dX5_count_65 rfl ?_
    cases h
  replace h := it_f hc101 h
  by_cases hc102 : x1 = 1
  · replace h := it_t hc102 h
    refine j_tin 69 C dX5_count_1 (off := 68) (by rw [hc102]; decide) (by rw [hc102]; decide) (by rw [hc102]; decide) (by decide) ?_
    refine j_aload_n 70 C dX5_count_69 0 rfl rfl ?_
    refine g_F 73 C K 7 (by decide) mw_287 rfl dX5_count_70 rfl ?_
    cases h
  replace h := it_f hc102 h
  by_cases hc103 : x1 = 2
  · replace h := it_t hc103 h
    refine j_tin 74 C dX5_count_1 (off := 73) (by rw [hc103]; decide) (by rw [hc103]; decide) (by rw [hc103]; decide) (by decide) ?_
    refine j_aload_n 75 C dX5_count_74 0 rfl rfl ?_
    obtain ⟨σ104, r105, hF, h⟩ := bd_e h
    refine k_Vi 78 C K (c_X5_quorum K.2.2.2 g A lay  hF) cp_X5_quorum (rv_F) mw_412 dX5_count_75 rfl rfl (Nat.le_of_ble_eq_true rfl) ⟨Nat.le_of_ble_eq_true rfl, Nat.le_of_ble_eq_true rfl⟩ ⟨Nat.le_of_ble_eq_true rfl, Nat.le_of_ble_eq_true rfl⟩ rfl (fun lay => ?_)
    cases h
  replace h := it_f hc103 h
  by_cases hc106 : x1 = 3
  · replace h := it_t hc106 h
    refine j_tin 79 C dX5_count_1 (off := 78) (by rw [hc106]; decide) (by rw [hc106]; decide) (by rw [hc106]; decide) (by decide) ?_
    refine j_aload_n 80 C dX5_count_79 0 rfl rfl ?_
    refine g_F 83 C K 8 (by decide) mw_288 rfl dX5_count_80 rfl ?_
    obtain ⟨σ107, r108, hF, h⟩ := bd_e h
    refine k_Si 86 C K (c_X5_asNumber K.2.2.2 g A lay  hF) cp_X5_asNumber mw_321 dX5_count_83 rfl rfl (Nat.le_of_ble_eq_true rfl) ⟨Nat.le_of_ble_eq_true rfl, Nat.le_of_ble_eq_true rfl⟩ ⟨Nat.le_of_ble_eq_true rfl, Nat.le_of_ble_eq_true rfl⟩ rfl (fun lay => ?_)
    cases h
  replace h := it_f hc106 h
  by_cases hc109 : x1 = 4
  · replace h := it_t hc109 h
    refine j_tin 87 C dX5_count_1 (off := 86) (by rw [hc109]; decide) (by rw [hc109]; decide) (by rw [hc109]; decide) (by decide) ?_
    refine j_aload_n 88 C dX5_count_87 0 rfl rfl ?_
    obtain ⟨σ110, r111, hF, h⟩ := bd_e h
    refine k_Vi 91 C K (c_X5_nodesUp K.2.2.2 g A lay  hF) cp_X5_nodesUp (rv_F) mw_416 dX5_count_88 rfl rfl (Nat.le_of_ble_eq_true rfl) ⟨Nat.le_of_ble_eq_true rfl, Nat.le_of_ble_eq_true rfl⟩ ⟨Nat.le_of_ble_eq_true rfl, Nat.le_of_ble_eq_true rfl⟩ rfl (fun lay => ?_)
    cases h
  replace h := it_f hc109 h
  by_cases hc112 : x1 = 5
  · replace h := it_t hc112 h
    refine j_tin 92 C dX5_count_1 (off := 91) (by rw [hc112]; decide) (by rw [hc112]; decide) (by rw [hc112]; decide) (by decide) ?_
    refine j_aload_n 93 C dX5_count_92 0 rfl rfl ?_
    obtain ⟨σ113, r114, hF, h⟩ := bd_e h
    refine k_Vi 96 C K (c_X5_nodesJoined K.2.2.2 g A lay  hF) cp_X5_nodesJoined (rv_F) mw_420 dX5_count_93 rfl rfl (Nat.le_of_ble_eq_true rfl) ⟨Nat.le_of_ble_eq_true rfl, Nat.le_of_ble_eq_true rfl⟩ ⟨Nat.le_of_ble_eq_true rfl, Nat.le_of_ble_eq_true rfl⟩ rfl (fun lay => ?_)
    cases h
  replace h := it_f hc112 h
  by_cases hc115 : x1 = 6
  · replace h := it_t hc115 h
    refine j_tin 97 C dX5_count_1 (off := 96) (by rw [hc115]; decide) (by rw [hc115]; decide) (by rw [hc115]; decide) (by decide) ?_
    refine j_aload_n 98 C dX5_count_97 0 rfl rfl ?_
    obtain ⟨σ116, r117, hF, h⟩ := bd_e h
    refine k_Vi 101 C K (c_X5_decidedSlots K.2.2.2 g A lay  hF) cp_X5_decidedSlots (rv_F) mw_382 dX5_count_98 rfl rfl (Nat.le_of_ble_eq_true rfl) ⟨Nat.le_of_ble_eq_true rfl, Nat.le_of_ble_eq_true rfl⟩ ⟨Nat.le_of_ble_eq_true rfl, Nat.le_of_ble_eq_true rfl⟩ rfl (fun lay => ?_)
    cases h
  replace h := it_f hc115 h
  by_cases hc118 : x1 = 7
  · replace h := it_t hc118 h
    refine j_tin 102 C dX5_count_1 (off := 101) (by rw [hc118]; decide) (by rw [hc118]; decide) (by rw [hc118]; decide) (by decide) ?_
    refine j_aload_n 103 C dX5_count_102 0 rfl rfl ?_
    obtain ⟨σ119, r120, hF, h⟩ := bd_e h
    refine k_Vi 106 C K (c_X5_slotsInConflict K.2.2.2 g A lay  hF) cp_X5_slotsInConflict (rv_F) mw_424 dX5_count_103 rfl rfl (Nat.le_of_ble_eq_true rfl) ⟨Nat.le_of_ble_eq_true rfl, Nat.le_of_ble_eq_true rfl⟩ ⟨Nat.le_of_ble_eq_true rfl, Nat.le_of_ble_eq_true rfl⟩ rfl (fun lay => ?_)
    cases h
  replace h := it_f hc118 h
  by_cases hc121 : x1 = 8
  · replace h := it_t hc121 h
    refine j_tin 107 C dX5_count_1 (off := 106) (by rw [hc121]; decide) (by rw [hc121]; decide) (by rw [hc121]; decide) (by decide) ?_
    refine j_aload_n 108 C dX5_count_107 0 rfl rfl ?_
    refine g_F 111 C K 9 (by decide) mw_289 rfl dX5_count_108 rfl ?_
    cases h
  replace h := it_f hc121 h
  by_cases hc122 : x1 = 9
  · replace h := it_t hc122 h
    refine j_tin 112 C dX5_count_1 (off := 111) (by rw [hc122]; decide) (by rw [hc122]; decide) (by rw [hc122]; decide) (by decide) ?_
    refine j_aload_n 113 C dX5_count_112 0 rfl rfl ?_
    refine g_F 116 C K 10 (by decide) mw_290 rfl dX5_count_113 rfl ?_
    cases h
  replace h := it_f hc122 h
  by_cases hc123 : x1 = 10
  · replace h := it_t hc123 h
    refine j_tin 117 C dX5_count_1 (off := 116) (by rw [hc123]; decide) (by rw [hc123]; decide) (by rw [hc123]; decide) (by decide) ?_
    refine j_aload_n 118 C dX5_count_117 0 rfl rfl ?_
    obtain ⟨σ124, r125, hF, h⟩ := bd_e h
    refine k_Vi 121 C K (c_X5_writesWaiting K.2.2.2 g A lay  hF) cp_X5_writesWaiting (rv_F) mw_428 dX5_count_118 rfl rfl (Nat.le_of_ble_eq_true rfl) ⟨Nat.le_of_ble_eq_true rfl, Nat.le_of_ble_eq_true rfl⟩ ⟨Nat.le_of_ble_eq_true rfl, Nat.le_of_ble_eq_true rfl⟩ rfl (fun lay => ?_)
    cases h
  replace h := it_f hc123 h
  by_cases hc126 : x1 = 11
  · replace h := it_t hc126 h
    refine j_tin 122 C dX5_count_1 (off := 121) (by rw [hc126]; decide) (by rw [hc126]; decide) (by rw [hc126]; decide) (by decide) ?_
    refine j_aload_n 123 C dX5_count_122 0 rfl rfl ?_
    refine g_F 126 C K 11 (by decide) mw_291 rfl dX5_count_123 rfl ?_
    cases h
  replace h := it_f hc126 h
  refine j_tout 127 C dX5_count_1 (by have := lv_neT hc101 (a := 0) (by decide); have := lv_neT hc102 (a := 1) (by decide); have := lv_neT hc103 (a := 2) (by decide); have := lv_neT hc106 (a := 3) (by decide); have := lv_neT hc109 (a := 4) (by decide); have := lv_neT hc112 (a := 5) (by decide); have := lv_neT hc115 (a := 6) (by decide); have := lv_neT hc118 (a := 7) (by decide); have := lv_neT hc121 (a := 8) (by decide); have := lv_neT hc122 (a := 9) (by decide); have := lv_neT hc123 (a := 10) (by decide); have := lv_neT hc126 (a := 11) (by decide); omega) (by decide) ?_
  cases h
  exact jx_2 C K M hx CH_kept mw_432 xs_183 xat_X5_58 dX5_count_127 dX5_count_130 dX5_count_131 dX5_count_133 dX5_count_136 (Nat.le_of_ble_eq_true rfl) (Nat.le_of_ble_eq_true rfl) ⟨Nat.le_of_ble_eq_true rfl, Nat.le_of_ble_eq_true rfl⟩
theorem cp_X5_node : CPv yX5_node cX5_node 4 (some .int) RX5 2 := ⟨mw_505, mw_506, mw_98, mw_507, rfl, by decide, by decide, by decide +kernel⟩
set_option maxHeartbeats 4000000 in
set_option maxRecDepth 100000 in
theorem c_X5_node {l : Launch} (hst : l.stackTraces = false) (g : GG) (A : Nat → Prop) (lay : Nat → Nat) {σ : CS} {σ' : CS} {r : Int32} {x1 : Int32} {x2 : Int32}  (h : F_X5_node σ x1 x2 = some (σ', .inl r)) : MI l yX5_node cX5_node 4 .int 7 111 0 0 [.ref (ga g 0), .int x1, .int x2] (CH g A) g A lay σ σ' r := by
  unfold F_X5_node at h
  refine e_i (own := RX5) (lo := [(0, .ref (ga g 0)), (1, .int x1), (2, .int x2)]) hst (plainFor_of_name (by decide)) rfl rfl (Nat.le_of_ble_eq_true rfl) ?_
  intro p e s m args below meth c C K M
  refine j_aload_n 1 C dX5_node_0 0 rfl rfl ?_
  refine j_iload_n 2 C dX5_node_1 1 rfl rfl ?_
  rcases bx_e h with ⟨σ101, u102, hF, h⟩ | ⟨σ101, ex1, hF, h⟩
  · refine k_Vv 5 C K (c_X5_requireNode K.2.2.2 g A lay  hF) cp_X5_requireNode (rv_F) mw_508 dX5_node_2 rfl rfl (Nat.le_of_ble_eq_true rfl) ⟨Nat.le_of_ble_eq_true rfl, Nat.le_of_ble_eq_true rfl⟩ ⟨Nat.le_of_ble_eq_true rfl, Nat.le_of_ble_eq_true rfl⟩ rfl (fun lay => ?_)
    refine j_aload_n 6 C dX5_node_5 0 rfl rfl ?_
    refine g_F 9 C K 0 (by decide) mw_280 rfl dX5_node_6 rfl ?_
    refine j_iload_n 10 C dX5_node_9 1 rfl rfl ?_
    obtain ⟨hz103, h⟩ := gd_e h
    have hb104 : tn x1 < 7 := inb_lt hz103
    refine r_nodes 11 C K hz103 dX5_node_10 rfl ?_
    refine j_astore_n 12 C dX5_node_11 (lo' := [(3, .ref (ga g (5 + (tn x1)))), (0, .ref (ga g 0)), (1, .int x1), (2, .int x2)]) (by decide) rfl rfl ?_
    refine j_iload_n 13 C dX5_node_12 3 rfl rfl ?_
    by_cases hc105 : x2 = 0
    · replace h := it_t hc105 h
      refine j_tin 64 C dX5_node_13 (off := 51) (by rw [hc105]; decide) (by rw [hc105]; decide) (by rw [hc105]; decide) (by decide) ?_
      refine j_aload_n 65 C dX5_node_64 0 rfl rfl ?_
      refine g_N 68 C K hb104 5 (by decide) mw_228 rfl dX5_node_65 rfl ?_
      obtain ⟨σ106, r107, hF, h⟩ := bd_e h
      refine k_Si 71 C K (c_X5_asNumber K.2.2.2 g A lay  hF) cp_X5_asNumber mw_321 dX5_node_68 rfl rfl (Nat.le_of_ble_eq_true rfl) ⟨Nat.le_of_ble_eq_true rfl, Nat.le_of_ble_eq_true rfl⟩ ⟨Nat.le_of_ble_eq_true rfl, Nat.le_of_ble_eq_true rfl⟩ rfl (fun lay => ?_)
      cases h
      exact x_i C M dX5_node_71
    replace h := it_f hc105 h
    by_cases hc108 : x2 = 1
    · replace h := it_t hc108 h
      refine j_tin 72 C dX5_node_13 (off := 59) (by rw [hc108]; decide) (by rw [hc108]; decide) (by rw [hc108]; decide) (by decide) ?_
      refine j_aload_n 73 C dX5_node_72 0 rfl rfl ?_
      refine g_N 76 C K hb104 6 (by decide) mw_230 rfl dX5_node_73 rfl ?_
      obtain ⟨σ109, r110, hF, h⟩ := bd_e h
      refine k_Si 79 C K (c_X5_asNumber K.2.2.2 g A lay  hF) cp_X5_asNumber mw_321 dX5_node_76 rfl rfl (Nat.le_of_ble_eq_true rfl) ⟨Nat.le_of_ble_eq_true rfl, Nat.le_of_ble_eq_true rfl⟩ ⟨Nat.le_of_ble_eq_true rfl, Nat.le_of_ble_eq_true rfl⟩ rfl (fun lay => ?_)
      cases h
      exact x_i C M dX5_node_79
    replace h := it_f hc108 h
    by_cases hc111 : x2 = 2
    · replace h := it_t hc111 h
      refine j_tin 80 C dX5_node_13 (off := 67) (by rw [hc111]; decide) (by rw [hc111]; decide) (by rw [hc111]; decide) (by decide) ?_
      refine j_aload_n 81 C dX5_node_80 0 rfl rfl ?_
      refine g_N 84 C K hb104 7 (by decide) mw_232 rfl dX5_node_81 rfl ?_
      cases h
      exact x_i C M dX5_node_84
    replace h := it_f hc111 h
    by_cases hc112 : x2 = 3
    · replace h := it_t hc112 h
      refine j_tin 85 C dX5_node_13 (off := 72) (by rw [hc112]; decide) (by rw [hc112]; decide) (by rw [hc112]; decide) (by decide) ?_
      refine j_aload_n 86 C dX5_node_85 0 rfl rfl ?_
      refine g_N 89 C K hb104 2 (by decide) mw_222 rfl dX5_node_86 rfl ?_
      refine g_D 92 C K (by omega) 0 (by decide) mw_140 rfl dX5_node_89 rfl ?_
      cases h
      exact x_i C M dX5_node_92
    replace h := it_f hc112 h
    by_cases hc113 : x2 = 4
    · replace h := it_t hc113 h
      refine j_tin 93 C dX5_node_13 (off := 80) (by rw [hc113]; decide) (by rw [hc113]; decide) (by rw [hc113]; decide) (by decide) ?_
      refine j_aload_n 94 C dX5_node_93 0 rfl rfl ?_
      refine g_N 97 C K hb104 1 (by decide) mw_220 rfl dX5_node_94 rfl ?_
      refine g_D 100 C K (by omega) 0 (by decide) mw_140 rfl dX5_node_97 rfl ?_
      cases h
      exact x_i C M dX5_node_100
    replace h := it_f hc113 h
    by_cases hc114 : x2 = 5
    · replace h := it_t hc114 h
      refine j_tin 101 C dX5_node_13 (off := 88) (by rw [hc114]; decide) (by rw [hc114]; decide) (by rw [hc114]; decide) (by decide) ?_
      refine j_aload_n 102 C dX5_node_101 0 rfl rfl ?_
      refine g_N 105 C K hb104 3 (by decide) mw_224 rfl dX5_node_102 rfl ?_
      refine g_W 108 C K hb104 3 (by decide) mw_208 rfl dX5_node_105 rfl ?_
      cases h
      exact x_i C M dX5_node_108
    replace h := it_f hc114 h
    by_cases hc115 : x2 = 6
    · replace h := it_t hc115 h
      refine j_tin 109 C dX5_node_13 (off := 96) (by rw [hc115]; decide) (by rw [hc115]; decide) (by rw [hc115]; decide) (by decide) ?_
      refine j_aload_n 110 C dX5_node_109 0 rfl rfl ?_
      refine g_N 113 C K hb104 8 (by decide) mw_234 rfl dX5_node_110 rfl ?_
      cases h
      exact x_i C M dX5_node_113
    replace h := it_f hc115 h
    by_cases hc116 : x2 = 7
    · replace h := it_t hc116 h
      refine j_tin 114 C dX5_node_13 (off := 101) (by rw [hc116]; decide) (by rw [hc116]; decide) (by rw [hc116]; decide) (by decide) ?_
      refine j_aload_n 115 C dX5_node_114 0 rfl rfl ?_
      refine g_N 118 C K hb104 9 (by decide) mw_236 rfl dX5_node_115 rfl ?_
      cases h
      exact x_i C M dX5_node_118
    replace h := it_f hc116 h
    by_cases hc117 : x2 = 8
    · replace h := it_t hc117 h
      refine j_tin 119 C dX5_node_13 (off := 106) (by rw [hc117]; decide) (by rw [hc117]; decide) (by rw [hc117]; decide) (by decide) ?_
      refine j_aload_n 120 C dX5_node_119 0 rfl rfl ?_
      obtain ⟨σ118, r119, hF, h⟩ := bd_e h
      refine k_Vi 123 C K (c_X3_nextBallot K.2.2.2 g A lay hb104 hF) cp_X3_nextBallot (rv_N hb104) mw_532 dX5_node_120 rfl rfl (Nat.le_of_ble_eq_true rfl) ⟨Nat.le_of_ble_eq_true rfl, Nat.le_of_ble_eq_true rfl⟩ ⟨Nat.le_of_ble_eq_true rfl, Nat.le_of_ble_eq_true rfl⟩ rfl (fun lay => ?_)
      cases h
      exact x_i C M dX5_node_123
    replace h := it_f hc117 h
    refine j_tout 124 C dX5_node_13 (by have := lv_neT hc105 (a := 0) (by decide); have := lv_neT hc108 (a := 1) (by decide); have := lv_neT hc111 (a := 2) (by decide); have := lv_neT hc112 (a := 3) (by decide); have := lv_neT hc113 (a := 4) (by decide); have := lv_neT hc114 (a := 5) (by decide); have := lv_neT hc115 (a := 6) (by decide); have := lv_neT hc116 (a := 7) (by decide); have := lv_neT hc117 (a := 8) (by decide); omega) (by decide) ?_
    cases h
  · cases h
set_option maxHeartbeats 4000000 in
set_option maxRecDepth 100000 in
theorem x_X5_node {l : Launch} (hst : l.stackTraces = false) (g : GG) (A : Nat → Prop) (lay : Nat → Nat) {σ : CS} {σ' : CS} {ex : Nat} {x1 : Int32} {x2 : Int32}  (h : F_X5_node σ x1 x2 = some (σ', .inr ex)) : XI l yX5_node cX5_node 4 .int 7 111 [.ref (ga g 0), .int x1, .int x2] (CH g A) g A lay σ σ' ex := by
  unfold F_X5_node at h
  refine ex_i (own := RX5) (lo := [(0, .ref (ga g 0)), (1, .int x1), (2, .int x2)]) hst (by decide) rfl rfl (Nat.le_of_ble_eq_true rfl) ?_
  intro p e s m args below meth c C K M hx
  refine j_aload_n 1 C dX5_node_0 0 rfl rfl ?_
  refine j_iload_n 2 C dX5_node_1 1 rfl rfl ?_
  rcases bx_e h with ⟨σ101, u102, hF, h⟩ | ⟨σ101, ex1, hF, h⟩
  · refine k_Vv 5 C K (c_X5_requireNode K.2.2.2 g A lay  hF) cp_X5_requireNode (rv_F) mw_508 dX5_node_2 rfl rfl (Nat.le_of_ble_eq_true rfl) ⟨Nat.le_of_ble_eq_true rfl, Nat.le_of_ble_eq_true rfl⟩ ⟨Nat.le_of_ble_eq_true rfl, Nat.le_of_ble_eq_true rfl⟩ rfl (fun lay => ?_)
    refine j_aload_n 6 C dX5_node_5 0 rfl rfl ?_
    refine g_F 9 C K 0 (by decide) mw_280 rfl dX5_node_6 rfl ?_
    refine j_iload_n 10 C dX5_node_9 1 rfl rfl ?_
    obtain ⟨hz103, h⟩ := gd_e h
    have hb104 : tn x1 < 7 := inb_lt hz103
    refine r_nodes 11 C K hz103 dX5_node_10 rfl ?_
    refine j_astore_n 12 C dX5_node_11 (lo' := [(3, .ref (ga g (5 + (tn x1)))), (0, .ref (ga g 0)), (1, .int x1), (2, .int x2)]) (by decide) rfl rfl ?_
    refine j_iload_n 13 C dX5_node_12 3 rfl rfl ?_
    by_cases hc105 : x2 = 0
    · replace h := it_t hc105 h
      refine j_tin 64 C dX5_node_13 (off := 51) (by rw [hc105]; decide) (by rw [hc105]; decide) (by rw [hc105]; decide) (by decide) ?_
      refine j_aload_n 65 C dX5_node_64 0 rfl rfl ?_
      refine g_N 68 C K hb104 5 (by decide) mw_228 rfl dX5_node_65 rfl ?_
      obtain ⟨σ106, r107, hF, h⟩ := bd_e h
      refine k_Si 71 C K (c_X5_asNumber K.2.2.2 g A lay  hF) cp_X5_asNumber mw_321 dX5_node_68 rfl rfl (Nat.le_of_ble_eq_true rfl) ⟨Nat.le_of_ble_eq_true rfl, Nat.le_of_ble_eq_true rfl⟩ ⟨Nat.le_of_ble_eq_true rfl, Nat.le_of_ble_eq_true rfl⟩ rfl (fun lay => ?_)
      cases h
    replace h := it_f hc105 h
    by_cases hc108 : x2 = 1
    · replace h := it_t hc108 h
      refine j_tin 72 C dX5_node_13 (off := 59) (by rw [hc108]; decide) (by rw [hc108]; decide) (by rw [hc108]; decide) (by decide) ?_
      refine j_aload_n 73 C dX5_node_72 0 rfl rfl ?_
      refine g_N 76 C K hb104 6 (by decide) mw_230 rfl dX5_node_73 rfl ?_
      obtain ⟨σ109, r110, hF, h⟩ := bd_e h
      refine k_Si 79 C K (c_X5_asNumber K.2.2.2 g A lay  hF) cp_X5_asNumber mw_321 dX5_node_76 rfl rfl (Nat.le_of_ble_eq_true rfl) ⟨Nat.le_of_ble_eq_true rfl, Nat.le_of_ble_eq_true rfl⟩ ⟨Nat.le_of_ble_eq_true rfl, Nat.le_of_ble_eq_true rfl⟩ rfl (fun lay => ?_)
      cases h
    replace h := it_f hc108 h
    by_cases hc111 : x2 = 2
    · replace h := it_t hc111 h
      refine j_tin 80 C dX5_node_13 (off := 67) (by rw [hc111]; decide) (by rw [hc111]; decide) (by rw [hc111]; decide) (by decide) ?_
      refine j_aload_n 81 C dX5_node_80 0 rfl rfl ?_
      refine g_N 84 C K hb104 7 (by decide) mw_232 rfl dX5_node_81 rfl ?_
      cases h
    replace h := it_f hc111 h
    by_cases hc112 : x2 = 3
    · replace h := it_t hc112 h
      refine j_tin 85 C dX5_node_13 (off := 72) (by rw [hc112]; decide) (by rw [hc112]; decide) (by rw [hc112]; decide) (by decide) ?_
      refine j_aload_n 86 C dX5_node_85 0 rfl rfl ?_
      refine g_N 89 C K hb104 2 (by decide) mw_222 rfl dX5_node_86 rfl ?_
      refine g_D 92 C K (by omega) 0 (by decide) mw_140 rfl dX5_node_89 rfl ?_
      cases h
    replace h := it_f hc112 h
    by_cases hc113 : x2 = 4
    · replace h := it_t hc113 h
      refine j_tin 93 C dX5_node_13 (off := 80) (by rw [hc113]; decide) (by rw [hc113]; decide) (by rw [hc113]; decide) (by decide) ?_
      refine j_aload_n 94 C dX5_node_93 0 rfl rfl ?_
      refine g_N 97 C K hb104 1 (by decide) mw_220 rfl dX5_node_94 rfl ?_
      refine g_D 100 C K (by omega) 0 (by decide) mw_140 rfl dX5_node_97 rfl ?_
      cases h
    replace h := it_f hc113 h
    by_cases hc114 : x2 = 5
    · replace h := it_t hc114 h
      refine j_tin 101 C dX5_node_13 (off := 88) (by rw [hc114]; decide) (by rw [hc114]; decide) (by rw [hc114]; decide) (by decide) ?_
      refine j_aload_n 102 C dX5_node_101 0 rfl rfl ?_
      refine g_N 105 C K hb104 3 (by decide) mw_224 rfl dX5_node_102 rfl ?_
      refine g_W 108 C K hb104 3 (by decide) mw_208 rfl dX5_node_105 rfl ?_
      cases h
    replace h := it_f hc114 h
    by_cases hc115 : x2 = 6
    · replace h := it_t hc115 h
      refine j_tin 109 C dX5_node_13 (off := 96) (by rw [hc115]; decide) (by rw [hc115]; decide) (by rw [hc115]; decide) (by decide) ?_
      refine j_aload_n 110 C dX5_node_109 0 rfl rfl ?_
      refine g_N 113 C K hb104 8 (by decide) mw_234 rfl dX5_node_110 rfl ?_
      cases h
    replace h := it_f hc115 h
    by_cases hc116 : x2 = 7
    · replace h := it_t hc116 h
      refine j_tin 114 C dX5_node_13 (off := 101) (by rw [hc116]; decide) (by rw [hc116]; decide) (by rw [hc116]; decide) (by decide) ?_
      refine j_aload_n 115 C dX5_node_114 0 rfl rfl ?_
      refine g_N 118 C K hb104 9 (by decide) mw_236 rfl dX5_node_115 rfl ?_
      cases h
    replace h := it_f hc116 h
    by_cases hc117 : x2 = 8
    · replace h := it_t hc117 h
      refine j_tin 119 C dX5_node_13 (off := 106) (by rw [hc117]; decide) (by rw [hc117]; decide) (by rw [hc117]; decide) (by decide) ?_
      refine j_aload_n 120 C dX5_node_119 0 rfl rfl ?_
      obtain ⟨σ118, r119, hF, h⟩ := bd_e h
      refine k_Vi 123 C K (c_X3_nextBallot K.2.2.2 g A lay hb104 hF) cp_X3_nextBallot (rv_N hb104) mw_532 dX5_node_120 rfl rfl (Nat.le_of_ble_eq_true rfl) ⟨Nat.le_of_ble_eq_true rfl, Nat.le_of_ble_eq_true rfl⟩ ⟨Nat.le_of_ble_eq_true rfl, Nat.le_of_ble_eq_true rfl⟩ rfl (fun lay => ?_)
      cases h
    replace h := it_f hc117 h
    refine j_tout 124 C dX5_node_13 (by have := lv_neT hc105 (a := 0) (by decide); have := lv_neT hc108 (a := 1) (by decide); have := lv_neT hc111 (a := 2) (by decide); have := lv_neT hc112 (a := 3) (by decide); have := lv_neT hc113 (a := 4) (by decide); have := lv_neT hc114 (a := 5) (by decide); have := lv_neT hc115 (a := 6) (by decide); have := lv_neT hc116 (a := 7) (by decide); have := lv_neT hc117 (a := 8) (by decide); omega) (by decide) ?_
    cases h
    exact jx_2 C K M hx CH_kept mw_432 xs_221 xat_X5_58 dX5_node_124 dX5_node_127 dX5_node_128 dX5_node_130 dX5_node_133 (Nat.le_of_ble_eq_true rfl) (Nat.le_of_ble_eq_true rfl) ⟨Nat.le_of_ble_eq_true rfl, Nat.le_of_ble_eq_true rfl⟩
  · cases h
    exact kx_Vv C K M hx (x_X5_requireNode K.2.2.2 g A lay  hF) cp_X5_requireNode (rv_F) mw_508 dX5_node_2 rfl rfl (Nat.le_of_ble_eq_true rfl) ⟨Nat.le_of_ble_eq_true rfl, Nat.le_of_ble_eq_true rfl⟩ ⟨Nat.le_of_ble_eq_true rfl, Nat.le_of_ble_eq_true rfl⟩
theorem cp_X5_accepted : CPv yX5_accepted cX5_accepted 5 (some .int) RX5 3 := ⟨mw_578, mw_579, mw_98, mw_580, rfl, by decide, by decide, by decide +kernel⟩
set_option maxHeartbeats 4000000 in
set_option maxRecDepth 100000 in
theorem c_X5_accepted {l : Launch} (hst : l.stackTraces = false) (g : GG) (A : Nat → Prop) (lay : Nat → Nat) {σ : CS} {σ' : CS} {r : Int32} {x1 : Int32} {x2 : Int32} {x3 : Int32}  (h : F_X5_accepted σ x1 x2 x3 = some (σ', .inl r)) : MI l yX5_accepted cX5_accepted 5 .int 7 111 0 0 [.ref (ga g 0), .int x1, .int x2, .int x3] (CH g A) g A lay σ σ' r := by
  unfold F_X5_accepted at h
  refine e_i (own := RX5) (lo := [(0, .ref (ga g 0)), (1, .int x1), (2, .int x2), (3, .int x3)]) hst (plainFor_of_name (by decide)) rfl rfl (Nat.le_of_ble_eq_true rfl) ?_
  intro p e s m args below meth c C K M
  refine j_aload_n 1 C dX5_accepted_0 0 rfl rfl ?_
  refine j_iload_n 2 C dX5_accepted_1 1 rfl rfl ?_
  rcases bx_e h with ⟨σ101, u102, hF, h⟩ | ⟨σ101, ex1, hF, h⟩
  · refine k_Vv 5 C K (c_X5_requireNode K.2.2.2 g A lay  hF) cp_X5_requireNode (rv_F) mw_508 dX5_accepted_2 rfl rfl (Nat.le_of_ble_eq_true rfl) ⟨Nat.le_of_ble_eq_true rfl, Nat.le_of_ble_eq_true rfl⟩ ⟨Nat.le_of_ble_eq_true rfl, Nat.le_of_ble_eq_true rfl⟩ rfl (fun lay => ?_)
    refine j_aload_n 6 C dX5_accepted_5 0 rfl rfl ?_
    refine j_iload_n 7 C dX5_accepted_6 2 rfl rfl ?_
    rcases bx_e h with ⟨σ103, u104, hF, h⟩ | ⟨σ103, ex1, hF, h⟩
    · refine k_Vv 10 C K (c_X5_requireSlot K.2.2.2 g A lay  hF) cp_X5_requireSlot (rv_F) mw_581 dX5_accepted_7 rfl rfl (Nat.le_of_ble_eq_true rfl) ⟨Nat.le_of_ble_eq_true rfl, Nat.le_of_ble_eq_true rfl⟩ ⟨Nat.le_of_ble_eq_true rfl, Nat.le_of_ble_eq_true rfl⟩ rfl (fun lay => ?_)
      refine j_aload_n 11 C dX5_accepted_10 0 rfl rfl ?_
      refine g_F 14 C K 0 (by decide) mw_280 rfl dX5_accepted_11 rfl ?_
      refine j_iload_n 15 C dX5_accepted_14 1 rfl rfl ?_
      obtain ⟨hz105, h⟩ := gd_e h
      have hb106 : tn x1 < 7 := inb_lt hz105
      refine r_nodes 16 C K hz105 dX5_accepted_15 rfl ?_
      refine j_astore 18 C dX5_accepted_16 (lo' := [(4, .ref (ga g (5 + (tn x1)))), (0, .ref (ga g 0)), (1, .int x1), (2, .int x2), (3, .int x3)]) (by decide) rfl rfl ?_
      refine j_iload_n 19 C dX5_accepted_18 4 rfl rfl ?_
      by_cases hc107 : x3 = 0
      · replace h := it_t hc107 h
        refine j_tin 48 C dX5_accepted_19 (off := 29) (by rw [hc107]; decide) (by rw [hc107]; decide) (by rw [hc107]; decide) (by decide) ?_
        refine j_aload 50 C dX5_accepted_48 0 rfl rfl ?_
        refine g_N 53 C K hb106 2 (by decide) mw_222 rfl dX5_accepted_50 rfl ?_
        refine g_D 56 C K (by omega) 1 (by decide) mw_142 rfl dX5_accepted_53 rfl ?_
        refine j_iload_n 57 C dX5_accepted_56 3 rfl rfl ?_
        obtain ⟨hz108, h⟩ := gd_e h
        refine r_ild 58 C K (ar_B _ (by omega)) (ca_B _ _ (by omega)) hz108 dX5_accepted_57 rfl ?_
        cases h
        exact x_i C M dX5_accepted_58
      replace h := it_f hc107 h
      by_cases hc109 : x3 = 1
      · replace h := it_t hc109 h
        refine j_tin 59 C dX5_accepted_19 (off := 40) (by rw [hc109]; decide) (by rw [hc109]; decide) (by rw [hc109]; decide) (by decide) ?_
        refine j_aload 61 C dX5_accepted_59 0 rfl rfl ?_
        refine g_N 64 C K hb106 2 (by decide) mw_222 rfl dX5_accepted_61 rfl ?_
        refine g_D 67 C K (by omega) 2 (by decide) mw_144 rfl dX5_accepted_64 rfl ?_
        refine j_iload_n 68 C dX5_accepted_67 3 rfl rfl ?_
        obtain ⟨hz110, h⟩ := gd_e h
        refine r_ild 69 C K (ar_U _ (by omega)) (ca_U _ _ (by omega)) hz110 dX5_accepted_68 rfl ?_
        cases h
        exact x_i C M dX5_accepted_69
      replace h := it_f hc109 h
      by_cases hc111 : x3 = 2
      · replace h := it_t hc111 h
        refine j_tin 70 C dX5_accepted_19 (off := 51) (by rw [hc111]; decide) (by rw [hc111]; decide) (by rw [hc111]; decide) (by decide) ?_
        refine j_aload 72 C dX5_accepted_70 0 rfl rfl ?_
        refine g_N 75 C K hb106 1 (by decide) mw_220 rfl dX5_accepted_72 rfl ?_
        refine g_D 78 C K (by omega) 1 (by decide) mw_142 rfl dX5_accepted_75 rfl ?_
        refine j_iload_n 79 C dX5_accepted_78 3 rfl rfl ?_
        obtain ⟨hz112, h⟩ := gd_e h
        refine r_ild 80 C K (ar_B _ (by omega)) (ca_B _ _ (by omega)) hz112 dX5_accepted_79 rfl ?_
        cases h
        exact x_i C M dX5_accepted_80
      replace h := it_f hc111 h
      by_cases hc113 : x3 = 3
      · replace h := it_t hc113 h
        refine j_tin 81 C dX5_accepted_19 (off := 62) (by rw [hc113]; decide) (by rw [hc113]; decide) (by rw [hc113]; decide) (by decide) ?_
        refine j_aload 83 C dX5_accepted_81 0 rfl rfl ?_
        refine g_N 86 C K hb106 1 (by decide) mw_220 rfl dX5_accepted_83 rfl ?_
        refine g_D 89 C K (by omega) 2 (by decide) mw_144 rfl dX5_accepted_86 rfl ?_
        refine j_iload_n 90 C dX5_accepted_89 3 rfl rfl ?_
        obtain ⟨hz114, h⟩ := gd_e h
        refine r_ild 91 C K (ar_U _ (by omega)) (ca_U _ _ (by omega)) hz114 dX5_accepted_90 rfl ?_
        cases h
        exact x_i C M dX5_accepted_91
      replace h := it_f hc113 h
      refine j_tout 92 C dX5_accepted_19 (by have := lv_neT hc107 (a := 0) (by decide); have := lv_neT hc109 (a := 1) (by decide); have := lv_neT hc111 (a := 2) (by decide); have := lv_neT hc113 (a := 3) (by decide); omega) (by decide) ?_
      cases h
    · cases h
  · cases h
set_option maxHeartbeats 4000000 in
set_option maxRecDepth 100000 in
theorem x_X5_accepted {l : Launch} (hst : l.stackTraces = false) (g : GG) (A : Nat → Prop) (lay : Nat → Nat) {σ : CS} {σ' : CS} {ex : Nat} {x1 : Int32} {x2 : Int32} {x3 : Int32}  (h : F_X5_accepted σ x1 x2 x3 = some (σ', .inr ex)) : XI l yX5_accepted cX5_accepted 5 .int 7 111 [.ref (ga g 0), .int x1, .int x2, .int x3] (CH g A) g A lay σ σ' ex := by
  unfold F_X5_accepted at h
  refine ex_i (own := RX5) (lo := [(0, .ref (ga g 0)), (1, .int x1), (2, .int x2), (3, .int x3)]) hst (by decide) rfl rfl (Nat.le_of_ble_eq_true rfl) ?_
  intro p e s m args below meth c C K M hx
  refine j_aload_n 1 C dX5_accepted_0 0 rfl rfl ?_
  refine j_iload_n 2 C dX5_accepted_1 1 rfl rfl ?_
  rcases bx_e h with ⟨σ101, u102, hF, h⟩ | ⟨σ101, ex1, hF, h⟩
  · refine k_Vv 5 C K (c_X5_requireNode K.2.2.2 g A lay  hF) cp_X5_requireNode (rv_F) mw_508 dX5_accepted_2 rfl rfl (Nat.le_of_ble_eq_true rfl) ⟨Nat.le_of_ble_eq_true rfl, Nat.le_of_ble_eq_true rfl⟩ ⟨Nat.le_of_ble_eq_true rfl, Nat.le_of_ble_eq_true rfl⟩ rfl (fun lay => ?_)
    refine j_aload_n 6 C dX5_accepted_5 0 rfl rfl ?_
    refine j_iload_n 7 C dX5_accepted_6 2 rfl rfl ?_
    rcases bx_e h with ⟨σ103, u104, hF, h⟩ | ⟨σ103, ex1, hF, h⟩
    · refine k_Vv 10 C K (c_X5_requireSlot K.2.2.2 g A lay  hF) cp_X5_requireSlot (rv_F) mw_581 dX5_accepted_7 rfl rfl (Nat.le_of_ble_eq_true rfl) ⟨Nat.le_of_ble_eq_true rfl, Nat.le_of_ble_eq_true rfl⟩ ⟨Nat.le_of_ble_eq_true rfl, Nat.le_of_ble_eq_true rfl⟩ rfl (fun lay => ?_)
      refine j_aload_n 11 C dX5_accepted_10 0 rfl rfl ?_
      refine g_F 14 C K 0 (by decide) mw_280 rfl dX5_accepted_11 rfl ?_
      refine j_iload_n 15 C dX5_accepted_14 1 rfl rfl ?_
      obtain ⟨hz105, h⟩ := gd_e h
      have hb106 : tn x1 < 7 := inb_lt hz105
      refine r_nodes 16 C K hz105 dX5_accepted_15 rfl ?_
      refine j_astore 18 C dX5_accepted_16 (lo' := [(4, .ref (ga g (5 + (tn x1)))), (0, .ref (ga g 0)), (1, .int x1), (2, .int x2), (3, .int x3)]) (by decide) rfl rfl ?_
      refine j_iload_n 19 C dX5_accepted_18 4 rfl rfl ?_
      by_cases hc107 : x3 = 0
      · replace h := it_t hc107 h
        refine j_tin 48 C dX5_accepted_19 (off := 29) (by rw [hc107]; decide) (by rw [hc107]; decide) (by rw [hc107]; decide) (by decide) ?_
        refine j_aload 50 C dX5_accepted_48 0 rfl rfl ?_
        refine g_N 53 C K hb106 2 (by decide) mw_222 rfl dX5_accepted_50 rfl ?_
        refine g_D 56 C K (by omega) 1 (by decide) mw_142 rfl dX5_accepted_53 rfl ?_
        refine j_iload_n 57 C dX5_accepted_56 3 rfl rfl ?_
        obtain ⟨hz108, h⟩ := gd_e h
        refine r_ild 58 C K (ar_B _ (by omega)) (ca_B _ _ (by omega)) hz108 dX5_accepted_57 rfl ?_
        cases h
      replace h := it_f hc107 h
      by_cases hc109 : x3 = 1
      · replace h := it_t hc109 h
        refine j_tin 59 C dX5_accepted_19 (off := 40) (by rw [hc109]; decide) (by rw [hc109]; decide) (by rw [hc109]; decide) (by decide) ?_
        refine j_aload 61 C dX5_accepted_59 0 rfl rfl ?_
        refine g_N 64 C K hb106 2 (by decide) mw_222 rfl dX5_accepted_61 rfl ?_
        refine g_D 67 C K (by omega) 2 (by decide) mw_144 rfl dX5_accepted_64 rfl ?_
        refine j_iload_n 68 C dX5_accepted_67 3 rfl rfl ?_
        obtain ⟨hz110, h⟩ := gd_e h
        refine r_ild 69 C K (ar_U _ (by omega)) (ca_U _ _ (by omega)) hz110 dX5_accepted_68 rfl ?_
        cases h
      replace h := it_f hc109 h
      by_cases hc111 : x3 = 2
      · replace h := it_t hc111 h
        refine j_tin 70 C dX5_accepted_19 (off := 51) (by rw [hc111]; decide) (by rw [hc111]; decide) (by rw [hc111]; decide) (by decide) ?_
        refine j_aload 72 C dX5_accepted_70 0 rfl rfl ?_
        refine g_N 75 C K hb106 1 (by decide) mw_220 rfl dX5_accepted_72 rfl ?_
        refine g_D 78 C K (by omega) 1 (by decide) mw_142 rfl dX5_accepted_75 rfl ?_
        refine j_iload_n 79 C dX5_accepted_78 3 rfl rfl ?_
        obtain ⟨hz112, h⟩ := gd_e h
        refine r_ild 80 C K (ar_B _ (by omega)) (ca_B _ _ (by omega)) hz112 dX5_accepted_79 rfl ?_
        cases h
      replace h := it_f hc111 h
      by_cases hc113 : x3 = 3
      · replace h := it_t hc113 h
        refine j_tin 81 C dX5_accepted_19 (off := 62) (by rw [hc113]; decide) (by rw [hc113]; decide) (by rw [hc113]; decide) (by decide) ?_
        refine j_aload 83 C dX5_accepted_81 0 rfl rfl ?_
        refine g_N 86 C K hb106 1 (by decide) mw_220 rfl dX5_accepted_83 rfl ?_
        refine g_D 89 C K (by omega) 2 (by decide) mw_144 rfl dX5_accepted_86 rfl ?_
        refine j_iload_n 90 C dX5_accepted_89 3 rfl rfl ?_
        obtain ⟨hz114, h⟩ := gd_e h
        refine r_ild 91 C K (ar_U _ (by omega)) (ca_U _ _ (by omega)) hz114 dX5_accepted_90 rfl ?_
        cases h
      replace h := it_f hc113 h
      refine j_tout 92 C dX5_accepted_19 (by have := lv_neT hc107 (a := 0) (by decide); have := lv_neT hc109 (a := 1) (by decide); have := lv_neT hc111 (a := 2) (by decide); have := lv_neT hc113 (a := 3) (by decide); omega) (by decide) ?_
      cases h
      exact jx_2 C K M hx CH_kept mw_432 xs_229 xat_X5_58 dX5_accepted_92 dX5_accepted_95 dX5_accepted_96 dX5_accepted_98 dX5_accepted_101 (Nat.le_of_ble_eq_true rfl) (Nat.le_of_ble_eq_true rfl) ⟨Nat.le_of_ble_eq_true rfl, Nat.le_of_ble_eq_true rfl⟩
    · cases h
      exact kx_Vv C K M hx (x_X5_requireSlot K.2.2.2 g A lay  hF) cp_X5_requireSlot (rv_F) mw_581 dX5_accepted_7 rfl rfl (Nat.le_of_ble_eq_true rfl) ⟨Nat.le_of_ble_eq_true rfl, Nat.le_of_ble_eq_true rfl⟩ ⟨Nat.le_of_ble_eq_true rfl, Nat.le_of_ble_eq_true rfl⟩
  · cases h
    exact kx_Vv C K M hx (x_X5_requireNode K.2.2.2 g A lay  hF) cp_X5_requireNode (rv_F) mw_508 dX5_accepted_2 rfl rfl (Nat.le_of_ble_eq_true rfl) ⟨Nat.le_of_ble_eq_true rfl, Nat.le_of_ble_eq_true rfl⟩ ⟨Nat.le_of_ble_eq_true rfl, Nat.le_of_ble_eq_true rfl⟩
theorem cp_X5_waiting : CPv yX5_waiting cX5_waiting 5 (some .int) RX5 3 := ⟨mw_592, mw_593, mw_98, mw_594, rfl, by decide, by decide, by decide +kernel⟩
set_option maxHeartbeats 4000000 in
set_option maxRecDepth 100000 in
theorem wn_X5_waiting_29 {l : Launch} {p : Program} {e : Env} {s : State} {m : MethodId} {args : Array Value} {below : List Frame} {meth : Method} {c : Code} {g : GG} {A : Nat → Prop} (C : KX p m c cX5_waiting 5 s args RX5) (K : KC l g A s) (M : KM meth (some .int)) {σ' : CS} {r : Int32} {x1 : Int32} {x2 : Int32} {x3 : Int32}     (lay : Nat → Nat) (σ : CS)   (h : B_X5_waiting_29 x1 x2 x3 σ  = some (σ', .inl r)) : JJ p l e (rmk 7 111 0 0) s m args below meth c (MQ below (va_Qi (fun (r0 : Int32) (u : CS) => r0 = r ∧ u = σ') (BC (CH g A)) A) args s 0 0 A) A 5 (CH g A lay σ) 0 0 29 [] [] := by
  unfold B_X5_waiting_29 at h
  cases h
set_option maxHeartbeats 4000000 in
set_option maxRecDepth 100000 in
theorem c_X5_waiting {l : Launch} (hst : l.stackTraces = false) (g : GG) (A : Nat → Prop) (lay : Nat → Nat) {σ : CS} {σ' : CS} {r : Int32} {x1 : Int32} {x2 : Int32} {x3 : Int32}  (h : F_X5_waiting σ x1 x2 x3 = some (σ', .inl r)) : MI l yX5_waiting cX5_waiting 5 .int 7 111 0 0 [.ref (ga g 0), .int x1, .int x2, .int x3] (CH g A) g A lay σ σ' r := by
  unfold F_X5_waiting at h
  refine e_i (own := RX5) (lo := [(0, .ref (ga g 0)), (1, .int x1), (2, .int x2), (3, .int x3)]) hst (plainFor_of_name (by decide)) rfl rfl (Nat.le_of_ble_eq_true rfl) ?_
  intro p e s m args below meth c C K M
  refine j_aload_n 1 C dX5_waiting_0 0 rfl rfl ?_
  refine j_iload_n 2 C dX5_waiting_1 1 rfl rfl ?_
  rcases bx_e h with ⟨σ101, u102, hF, h⟩ | ⟨σ101, ex1, hF, h⟩
  · refine k_Vv 5 C K (c_X5_requireNode K.2.2.2 g A lay  hF) cp_X5_requireNode (rv_F) mw_508 dX5_waiting_2 rfl rfl (Nat.le_of_ble_eq_true rfl) ⟨Nat.le_of_ble_eq_true rfl, Nat.le_of_ble_eq_true rfl⟩ ⟨Nat.le_of_ble_eq_true rfl, Nat.le_of_ble_eq_true rfl⟩ rfl (fun lay => ?_)
    refine j_aload_n 6 C dX5_waiting_5 0 rfl rfl ?_
    refine g_F 9 C K 0 (by decide) mw_280 rfl dX5_waiting_6 rfl ?_
    refine j_iload_n 10 C dX5_waiting_9 1 rfl rfl ?_
    obtain ⟨hz103, h⟩ := gd_e h
    have hb104 : tn x1 < 7 := inb_lt hz103
    refine r_nodes 11 C K hz103 dX5_waiting_10 rfl ?_
    refine g_N 14 C K hb104 3 (by decide) mw_224 rfl dX5_waiting_11 rfl ?_
    refine j_astore 16 C dX5_waiting_14 (lo' := [(4, .ref (ga g (12 + (tn x1)))), (0, .ref (ga g 0)), (1, .int x1), (2, .int x2), (3, .int x3)]) (by decide) rfl rfl ?_
    refine j_iload_n 17 C dX5_waiting_16 3 rfl rfl ?_
    refine j_if_lt 20 29 C dX5_waiting_17 (by decide) rfl (fun hc105 => ?_) (fun hc105 => ?_)
    · replace h := it_t hc105 h
      refine j_sub [] (lo' := []) rfl ?_
      exact wn_X5_waiting_29 C K M  lay σ101  h
    · replace h := it_f hc105 h
      refine j_iload_n 21 C dX5_waiting_20 3 rfl rfl ?_
      refine j_aload 23 C dX5_waiting_21 0 rfl rfl ?_
      refine g_W 26 C K hb104 3 (by decide) mw_208 rfl dX5_waiting_23 rfl ?_
      refine j_icmp_lt 29 39 C dX5_waiting_26 (by decide) rfl (fun hc106 => ?_) (fun hc106 => ?_)
      · replace h := it_t hc106 h
        refine j_iload_n 40 C dX5_waiting_39 4 rfl rfl ?_
        by_cases hc107 : x3 = 0
        · replace h := it_t hc107 h
          refine j_tin 68 C dX5_waiting_40 (off := 28) (by rw [hc107]; decide) (by rw [hc107]; decide) (by rw [hc107]; decide) (by decide) ?_
          refine j_aload 70 C dX5_waiting_68 0 rfl rfl ?_
          refine g_W 73 C K hb104 0 (by decide) mw_201 rfl dX5_waiting_70 rfl ?_
          refine j_iload_n 74 C dX5_waiting_73 3 rfl rfl ?_
          obtain ⟨hz108, h⟩ := gd_e h
          refine r_ild 75 C K (ar_1 _ hb104) (ca_1 _ _ hb104) hz108 dX5_waiting_74 rfl ?_
          cases h
          exact x_i C M dX5_waiting_75
        replace h := it_f hc107 h
        by_cases hc109 : x3 = 1
        · replace h := it_t hc109 h
          refine j_tin 76 C dX5_waiting_40 (off := 36) (by rw [hc109]; decide) (by rw [hc109]; decide) (by rw [hc109]; decide) (by decide) ?_
          refine j_aload 78 C dX5_waiting_76 0 rfl rfl ?_
          refine g_W 81 C K hb104 1 (by decide) mw_203 rfl dX5_waiting_78 rfl ?_
          refine j_iload_n 82 C dX5_waiting_81 3 rfl rfl ?_
          obtain ⟨hz110, h⟩ := gd_e h
          refine r_ild 83 C K (ar_2 _ hb104) (ca_2 _ _ hb104) hz110 dX5_waiting_82 rfl ?_
          cases h
          exact x_i C M dX5_waiting_83
        replace h := it_f hc109 h
        by_cases hc111 : x3 = 2
        · replace h := it_t hc111 h
          refine j_tin 84 C dX5_waiting_40 (off := 44) (by rw [hc111]; decide) (by rw [hc111]; decide) (by rw [hc111]; decide) (by decide) ?_
          refine j_aload 86 C dX5_waiting_84 0 rfl rfl ?_
          refine g_W 89 C K hb104 2 (by decide) mw_205 rfl dX5_waiting_86 rfl ?_
          refine j_iload_n 90 C dX5_waiting_89 3 rfl rfl ?_
          obtain ⟨hz112, h⟩ := gd_e h
          refine r_ild 91 C K (ar_3 _ hb104) (ca_3 _ _ hb104) hz112 dX5_waiting_90 rfl ?_
          cases h
          exact x_i C M dX5_waiting_91
        replace h := it_f hc111 h
        refine j_tout 92 C dX5_waiting_40 (by have := lv_neT hc107 (a := 0) (by decide); have := lv_neT hc109 (a := 1) (by decide); have := lv_neT hc111 (a := 2) (by decide); omega) (by decide) ?_
        cases h
      · replace h := it_f hc106 h
        refine j_sub [] (lo' := []) rfl ?_
        exact wn_X5_waiting_29 C K M  lay σ101  h
  · cases h
set_option maxHeartbeats 4000000 in
set_option maxRecDepth 100000 in
theorem wx_X5_waiting_29 {l : Launch} {p : Program} {e : Env} {s : State} {m : MethodId} {args : Array Value} {below : List Frame} {meth : Method} {c : Code} {g : GG} {A : Nat → Prop} (C : KX p m c cX5_waiting 5 s args RX5) (K : KC l g A s) (M : KM meth (some .int)) (hx : ∀ x ∈ c.exceptionTable.toList, False) {σ' : CS} {ex : Nat} {x1 : Int32} {x2 : Int32} {x3 : Int32}     (lay : Nat → Nat) (σ : CS)   (h : B_X5_waiting_29 x1 x2 x3 σ  = some (σ', .inr ex)) : JJ p l e (rmk 7 111 1 6) s m args below meth c (vx_MQ below (va_Qi (fun (_ : Int32) (_ : CS) => False) (BC (CH g A)) A) (xxX (BC (CH g A)) A σ' ex) args s 1 6 A) A 5 (CH g A lay σ) 0 0 29 [] [] := by
  unfold B_X5_waiting_29 at h
  cases h
  exact jx_1 C K M hx CH_kept mw_516 xs_233 xat_X5_235 dX5_waiting_29 dX5_waiting_32 dX5_waiting_33 dX5_waiting_35 dX5_waiting_38 (Nat.le_of_ble_eq_true rfl) (Nat.le_of_ble_eq_true rfl) ⟨Nat.le_of_ble_eq_true rfl, Nat.le_of_ble_eq_true rfl⟩
set_option maxHeartbeats 4000000 in
set_option maxRecDepth 100000 in
theorem x_X5_waiting {l : Launch} (hst : l.stackTraces = false) (g : GG) (A : Nat → Prop) (lay : Nat → Nat) {σ : CS} {σ' : CS} {ex : Nat} {x1 : Int32} {x2 : Int32} {x3 : Int32}  (h : F_X5_waiting σ x1 x2 x3 = some (σ', .inr ex)) : XI l yX5_waiting cX5_waiting 5 .int 7 111 [.ref (ga g 0), .int x1, .int x2, .int x3] (CH g A) g A lay σ σ' ex := by
  unfold F_X5_waiting at h
  refine ex_i (own := RX5) (lo := [(0, .ref (ga g 0)), (1, .int x1), (2, .int x2), (3, .int x3)]) hst (by decide) rfl rfl (Nat.le_of_ble_eq_true rfl) ?_
  intro p e s m args below meth c C K M hx
  refine j_aload_n 1 C dX5_waiting_0 0 rfl rfl ?_
  refine j_iload_n 2 C dX5_waiting_1 1 rfl rfl ?_
  rcases bx_e h with ⟨σ101, u102, hF, h⟩ | ⟨σ101, ex1, hF, h⟩
  · refine k_Vv 5 C K (c_X5_requireNode K.2.2.2 g A lay  hF) cp_X5_requireNode (rv_F) mw_508 dX5_waiting_2 rfl rfl (Nat.le_of_ble_eq_true rfl) ⟨Nat.le_of_ble_eq_true rfl, Nat.le_of_ble_eq_true rfl⟩ ⟨Nat.le_of_ble_eq_true rfl, Nat.le_of_ble_eq_true rfl⟩ rfl (fun lay => ?_)
    refine j_aload_n 6 C dX5_waiting_5 0 rfl rfl ?_
    refine g_F 9 C K 0 (by decide) mw_280 rfl dX5_waiting_6 rfl ?_
    refine j_iload_n 10 C dX5_waiting_9 1 rfl rfl ?_
    obtain ⟨hz103, h⟩ := gd_e h
    have hb104 : tn x1 < 7 := inb_lt hz103
    refine r_nodes 11 C K hz103 dX5_waiting_10 rfl ?_
    refine g_N 14 C K hb104 3 (by decide) mw_224 rfl dX5_waiting_11 rfl ?_
    refine j_astore 16 C dX5_waiting_14 (lo' := [(4, .ref (ga g (12 + (tn x1)))), (0, .ref (ga g 0)), (1, .int x1), (2, .int x2), (3, .int x3)]) (by decide) rfl rfl ?_
    refine j_iload_n 17 C dX5_waiting_16 3 rfl rfl ?_
    refine j_if_lt 20 29 C dX5_waiting_17 (by decide) rfl (fun hc105 => ?_) (fun hc105 => ?_)
    · replace h := it_t hc105 h
      refine j_sub [] (lo' := []) rfl ?_
      exact wx_X5_waiting_29 C K M hx  lay σ101  h
    · replace h := it_f hc105 h
      refine j_iload_n 21 C dX5_waiting_20 3 rfl rfl ?_
      refine j_aload 23 C dX5_waiting_21 0 rfl rfl ?_
      refine g_W 26 C K hb104 3 (by decide) mw_208 rfl dX5_waiting_23 rfl ?_
      refine j_icmp_lt 29 39 C dX5_waiting_26 (by decide) rfl (fun hc106 => ?_) (fun hc106 => ?_)
      · replace h := it_t hc106 h
        refine j_iload_n 40 C dX5_waiting_39 4 rfl rfl ?_
        by_cases hc107 : x3 = 0
        · replace h := it_t hc107 h
          refine j_tin 68 C dX5_waiting_40 (off := 28) (by rw [hc107]; decide) (by rw [hc107]; decide) (by rw [hc107]; decide) (by decide) ?_
          refine j_aload 70 C dX5_waiting_68 0 rfl rfl ?_
          refine g_W 73 C K hb104 0 (by decide) mw_201 rfl dX5_waiting_70 rfl ?_
          refine j_iload_n 74 C dX5_waiting_73 3 rfl rfl ?_
          obtain ⟨hz108, h⟩ := gd_e h
          refine r_ild 75 C K (ar_1 _ hb104) (ca_1 _ _ hb104) hz108 dX5_waiting_74 rfl ?_
          cases h
        replace h := it_f hc107 h
        by_cases hc109 : x3 = 1
        · replace h := it_t hc109 h
          refine j_tin 76 C dX5_waiting_40 (off := 36) (by rw [hc109]; decide) (by rw [hc109]; decide) (by rw [hc109]; decide) (by decide) ?_
          refine j_aload 78 C dX5_waiting_76 0 rfl rfl ?_
          refine g_W 81 C K hb104 1 (by decide) mw_203 rfl dX5_waiting_78 rfl ?_
          refine j_iload_n 82 C dX5_waiting_81 3 rfl rfl ?_
          obtain ⟨hz110, h⟩ := gd_e h
          refine r_ild 83 C K (ar_2 _ hb104) (ca_2 _ _ hb104) hz110 dX5_waiting_82 rfl ?_
          cases h
        replace h := it_f hc109 h
        by_cases hc111 : x3 = 2
        · replace h := it_t hc111 h
          refine j_tin 84 C dX5_waiting_40 (off := 44) (by rw [hc111]; decide) (by rw [hc111]; decide) (by rw [hc111]; decide) (by decide) ?_
          refine j_aload 86 C dX5_waiting_84 0 rfl rfl ?_
          refine g_W 89 C K hb104 2 (by decide) mw_205 rfl dX5_waiting_86 rfl ?_
          refine j_iload_n 90 C dX5_waiting_89 3 rfl rfl ?_
          obtain ⟨hz112, h⟩ := gd_e h
          refine r_ild 91 C K (ar_3 _ hb104) (ca_3 _ _ hb104) hz112 dX5_waiting_90 rfl ?_
          cases h
        replace h := it_f hc111 h
        refine j_tout 92 C dX5_waiting_40 (by have := lv_neT hc107 (a := 0) (by decide); have := lv_neT hc109 (a := 1) (by decide); have := lv_neT hc111 (a := 2) (by decide); omega) (by decide) ?_
        cases h
        exact jx_2 C K M hx CH_kept mw_432 xs_241 xat_X5_58 dX5_waiting_92 dX5_waiting_95 dX5_waiting_96 dX5_waiting_98 dX5_waiting_101 (Nat.le_of_ble_eq_true rfl) (Nat.le_of_ble_eq_true rfl) ⟨Nat.le_of_ble_eq_true rfl, Nat.le_of_ble_eq_true rfl⟩
      · replace h := it_f hc106 h
        refine j_sub [] (lo' := []) rfl ?_
        exact wx_X5_waiting_29 C K M hx  lay σ101  h
  · cases h
    exact kx_Vv C K M hx (x_X5_requireNode K.2.2.2 g A lay  hF) cp_X5_requireNode (rv_F) mw_508 dX5_waiting_2 rfl rfl (Nat.le_of_ble_eq_true rfl) ⟨Nat.le_of_ble_eq_true rfl, Nat.le_of_ble_eq_true rfl⟩ ⟨Nat.le_of_ble_eq_true rfl, Nat.le_of_ble_eq_true rfl⟩
