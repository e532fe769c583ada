/-! ===== what FreshDisks() has built is the class's world, in its first state ===== -/
def sg0 : CS := fun f _ j => if f = 43 then lfl (fun _ => 0) (-1) 4 j else if f = 6 then 3 else if f = 7 then 1 else if f = 8 then 1 else if f = 25 then 1 else if f = 26 then 1 else if f = 29 then -1 else if f = 47 then 8 else if f = 48 then 8 else if f = 49 then 8 else if f = 50 then -1 else if f = 51 then -1 else 0
def fdAd (h0 an ae s0 s1 s2 rd inp : Nat) (at' : Nat → Nat → Nat) (de : Nat → Nat) (k : Nat) : Nat :=
  if k = 0 then h0 else if k = 1 then an else if k = 2 then ae else if k = 3 then rd else if k = 4 then inp else if k < 12 then at' (k - 5) 0 else if k < 19 then at' (k - 12) 7 else if k < 26 then at' (k - 19) 11
  else if k < 33 then at' (k - 26) 1 else if k < 40 then at' (k - 33) 4 else if k = 40 then s0 else if k < 48 then at' (k - 41) 2 else if k < 55 then at' (k - 48) 5 else if k = 55 then s1
  else if k < 63 then at' (k - 56) 3 else if k < 70 then at' (k - 63) 6 else if k = 70 then s2 else de (k - 71)
def fdLay (at' : Nat → Nat → Nat) (k : Nat) : Nat := if k < 7 then at' k 8 else if k < 14 then at' (k - 7) 9 else at' (k - 14) 10
def fdIx (k : Nat) : Nat :=
  if k < 3 then k else if k = 3 then 6 else if k = 4 then 7 else if k < 12 then 8 + 12 * (k - 5) else if k < 19 then 15 + 12 * (k - 12) else if k < 26 then 19 + 12 * (k - 19)
  else if k < 33 then 9 + 12 * (k - 26) else if k < 40 then 12 + 12 * (k - 33) else if k = 40 then 3 else if k < 48 then 10 + 12 * (k - 41) else if k < 55 then 13 + 12 * (k - 48) else if k = 55 then 4
  else if k < 63 then 11 + 12 * (k - 56) else if k < 70 then 14 + 12 * (k - 63) else if k = 70 then 5 else if k < 75 then 92 + (k - 71) else if k < 82 then 16 + 12 * (k - 75) else if k < 89 then 17 + 12 * (k - 82) else 18 + 12 * (k - 89)
theorem fdIx_inj : ∀ i, i < 96 → ∀ j, j < 96 → fdIx i = fdIx j → i = j := by decide +kernel
theorem arrV_cong {cA : ClassId} {n : Nat} {f f' : Nat → Value} (h : ∀ j, j < n → f j = f' j) : arrV cA n f = arrV cA n f' := by
  unfold arrV
  have : (Array.ofFn (n := n) fun j => f j.val) = Array.ofFn (n := n) fun j => f' j.val := by
    congr 1
    funext j
    exact h j.val j.isLt
  rw [this]
abbrev fdG (g : GG) (h0 an ae s0 s1 s2 rd inp : Nat) (at' : Nat → Nat → Nat) (de : Nat → Nat) (gmx : Nat → Nat) : GG := (g.1, g.2.1, fdAd h0 an ae s0 s1 s2 rd inp at' de, gmx)
set_option maxHeartbeats 8000000 in
set_option maxRecDepth 100000 in
theorem fdZ_at (g : GG) (h0 an ae s0 s1 s2 rd inp : Nat) (at' : Nat → Nat → Nat) (de : Nat → Nat) (gmx : Nat → Nat) (k : Nat) (hk : k < 96) : ∃ x : va_E, (fdZ g h0 an ae s0 s1 s2 rd inp at' de)[fdIx k]? = some (cA (fdG g h0 an ae s0 s1 s2 rd inp at' de gmx) (fdLay at') k, x) ∧ ∀ H : Heap, va_at g.1 vwCl (cA (fdG g h0 an ae s0 s1 s2 rd inp at' de gmx) (fdLay at') k, x) H → va_at g.1 vwCl (cA (fdG g h0 an ae s0 s1 s2 rd inp at' de gmx) (fdLay at') k, cE (fdG g h0 an ae s0 s1 s2 rd inp at' de gmx) (fdLay at') sg0 k) H := by
  match k, hk with
  | 0, _ => exact ⟨_, rfl, fun _ h => h⟩
  | 1, _ => exact ⟨_, rfl, fun H h => (show H[an]? = some _ from h).trans (congrArg some (show arrV (gN g) 7 (fun j => va_rf (fnA at' 7 j)) = arrV (gN g) 7 (fun j => va_rf (some (fdAd h0 an ae s0 s1 s2 rd inp at' de (5 + j)))) from arrV_cong (fun j hj => by
      match j, hj with
      | 0, _ => rfl
      | 1, _ => rfl
      | 2, _ => rfl
      | 3, _ => rfl
      | 4, _ => rfl
      | 5, _ => rfl
      | 6, _ => rfl)))⟩
  | 2, _ => exact ⟨_, rfl, fun H h => (show H[ae]? = some _ from h).trans (congrArg some (show arrV (gE g) 4 (fun j => va_rf (feA de 4 j)) = arrV (gE g) 4 (fun j => va_rf (some (fdAd h0 an ae s0 s1 s2 rd inp at' de (71 + j)))) from arrV_cong (fun j hj => by
      match j, hj with
      | 0, _ => rfl
      | 1, _ => rfl
      | 2, _ => rfl
      | 3, _ => rfl)))⟩
  | 3, _ => exact ⟨_, rfl, fun _ h => h⟩
  | 4, _ => exact ⟨_, rfl, fun _ h => h⟩
  | 5, _ => exact ⟨_, rfl, fun _ h => h⟩
  | 6, _ => exact ⟨_, rfl, fun _ h => h⟩
  | 7, _ => exact ⟨_, rfl, fun _ h => h⟩
  | 8, _ => exact ⟨_, rfl, fun _ h => h⟩
  | 9, _ => exact ⟨_, rfl, fun _ h => h⟩
  | 10, _ => exact ⟨_, rfl, fun _ h => h⟩
  | 11, _ => exact ⟨_, rfl, fun _ h => h⟩
  | 12, _ => exact ⟨_, rfl, fun _ h => h⟩
  | 13, _ => exact ⟨_, rfl, fun _ h => h⟩
  | 14, _ => exact ⟨_, rfl, fun _ h => h⟩
  | 15, _ => exact ⟨_, rfl, fun _ h => h⟩
  | 16, _ => exact ⟨_, rfl, fun _ h => h⟩
  | 17, _ => exact ⟨_, rfl, fun _ h => h⟩
  | 18, _ => exact ⟨_, rfl, fun _ h => h⟩
  | 19, _ => exact ⟨_, rfl, fun _ h => h⟩
  | 20, _ => exact ⟨_, rfl, fun _ h => h⟩
  | 21, _ => exact ⟨_, rfl, fun _ h => h⟩
  | 22, _ => exact ⟨_, rfl, fun _ h => h⟩
  | 23, _ => exact ⟨_, rfl, fun _ h => h⟩
  | 24, _ => exact ⟨_, rfl, fun _ h => h⟩
  | 25, _ => exact ⟨_, rfl, fun _ h => h⟩
  | 26, _ => exact ⟨_, rfl, fun _ h => h⟩
  | 27, _ => exact ⟨_, rfl, fun _ h => h⟩
  | 28, _ => exact ⟨_, rfl, fun _ h => h⟩
  | 29, _ => exact ⟨_, rfl, fun _ h => h⟩
  | 30, _ => exact ⟨_, rfl, fun _ h => h⟩
  | 31, _ => exact ⟨_, rfl, fun _ h => h⟩
  | 32, _ => exact ⟨_, rfl, fun _ h => h⟩
  | 33, _ => exact ⟨_, rfl, fun _ h => h⟩
  | 34, _ => exact ⟨_, rfl, fun _ h => h⟩
  | 35, _ => exact ⟨_, rfl, fun _ h => h⟩
  | 36, _ => exact ⟨_, rfl, fun _ h => h⟩
  | 37, _ => exact ⟨_, rfl, fun _ h => h⟩
  | 38, _ => exact ⟨_, rfl, fun _ h => h⟩
  | 39, _ => exact ⟨_, rfl, fun _ h => h⟩
  | 40, _ => exact ⟨_, rfl, fun _ h => h⟩
  | 41, _ => exact ⟨_, rfl, fun _ h => h⟩
  | 42, _ => exact ⟨_, rfl, fun _ h => h⟩
  | 43, _ => exact ⟨_, rfl, fun _ h => h⟩
  | 44, _ => exact ⟨_, rfl, fun _ h => h⟩
  | 45, _ => exact ⟨_, rfl, fun _ h => h⟩
  | 46, _ => exact ⟨_, rfl, fun _ h => h⟩
  | 47, _ => exact ⟨_, rfl, fun _ h => h⟩
  | 48, _ => exact ⟨_, rfl, fun _ h => h⟩
  | 49, _ => exact ⟨_, rfl, fun _ h => h⟩
  | 50, _ => exact ⟨_, rfl, fun _ h => h⟩
  | 51, _ => exact ⟨_, rfl, fun _ h => h⟩
  | 52, _ => exact ⟨_, rfl, fun _ h => h⟩
  | 53, _ => exact ⟨_, rfl, fun _ h => h⟩
  | 54, _ => exact ⟨_, rfl, fun _ h => h⟩
  | 55, _ => exact ⟨_, rfl, fun _ h => h⟩
  | 56, _ => exact ⟨_, rfl, fun _ h => h⟩
  | 57, _ => exact ⟨_, rfl, fun _ h => h⟩
  | 58, _ => exact ⟨_, rfl, fun _ h => h⟩
  | 59, _ => exact ⟨_, rfl, fun _ h => h⟩
  | 60, _ => exact ⟨_, rfl, fun _ h => h⟩
  | 61, _ => exact ⟨_, rfl, fun _ h => h⟩
  | 62, _ => exact ⟨_, rfl, fun _ h => h⟩
  | 63, _ => exact ⟨_, rfl, fun _ h => h⟩
  | 64, _ => exact ⟨_, rfl, fun _ h => h⟩
  | 65, _ => exact ⟨_, rfl, fun _ h => h⟩
  | 66, _ => exact ⟨_, rfl, fun _ h => h⟩
  | 67, _ => exact ⟨_, rfl, fun _ h => h⟩
  | 68, _ => exact ⟨_, rfl, fun _ h => h⟩
  | 69, _ => exact ⟨_, rfl, fun _ h => h⟩
  | 70, _ => exact ⟨_, rfl, fun _ h => h⟩
  | 71, _ => exact ⟨_, rfl, fun _ h => h⟩
  | 72, _ => exact ⟨_, rfl, fun _ h => h⟩
  | 73, _ => exact ⟨_, rfl, fun _ h => h⟩
  | 74, _ => exact ⟨_, rfl, fun _ h => h⟩
  | 75, _ => exact ⟨_, rfl, fun _ h => h⟩
  | 76, _ => exact ⟨_, rfl, fun _ h => h⟩
  | 77, _ => exact ⟨_, rfl, fun _ h => h⟩
  | 78, _ => exact ⟨_, rfl, fun _ h => h⟩
  | 79, _ => exact ⟨_, rfl, fun _ h => h⟩
  | 80, _ => exact ⟨_, rfl, fun _ h => h⟩
  | 81, _ => exact ⟨_, rfl, fun _ h => h⟩
  | 82, _ => exact ⟨_, rfl, fun _ h => h⟩
  | 83, _ => exact ⟨_, rfl, fun _ h => h⟩
  | 84, _ => exact ⟨_, rfl, fun _ h => h⟩
  | 85, _ => exact ⟨_, rfl, fun _ h => h⟩
  | 86, _ => exact ⟨_, rfl, fun _ h => h⟩
  | 87, _ => exact ⟨_, rfl, fun _ h => h⟩
  | 88, _ => exact ⟨_, rfl, fun _ h => h⟩
  | 89, _ => exact ⟨_, rfl, fun _ h => h⟩
  | 90, _ => exact ⟨_, rfl, fun _ h => h⟩
  | 91, _ => exact ⟨_, rfl, fun _ h => h⟩
  | 92, _ => exact ⟨_, rfl, fun _ h => h⟩
  | 93, _ => exact ⟨_, rfl, fun _ h => h⟩
  | 94, _ => exact ⟨_, rfl, fun _ h => h⟩
  | 95, _ => exact ⟨_, rfl, fun _ h => h⟩
  | k + 96, h => exact absurd h (by omega)
theorem fd_world {g : GG} {A : Nat → Prop} {lay : Nat → Nat} {h0 an ae s0 s1 s2 rd inp : Nat} {at' : Nat → Nat → Nat} {de : Nat → Nat} {H : Heap} (gmx : Nat → Nat) (h : LW g A lay (fdZ g h0 an ae s0 s1 s2 rd inp at' de) H) : CH (fdG g h0 an ae s0 s1 s2 rd inp at' de gmx) A (fdLay at') sg0 H := by
  have lt9 : ∀ (k : Nat) (q : Nat × va_E), (cW (fdG g h0 an ae s0 s1 s2 rd inp at' de gmx) (fdLay at') sg0)[k]? = some q → k < 96 ∧ q = (cA (fdG g h0 an ae s0 s1 s2 rd inp at' de gmx) (fdLay at') k, cE (fdG g h0 an ae s0 s1 s2 rd inp at' de gmx) (fdLay at') sg0 k) := by
    intro k q hk
    have h9 := (List.getElem?_eq_some_iff.mp hk).1
    rw [cW_len] at h9
    rw [cW_get h9] at hk
    exact ⟨h9, (Option.some.inj hk).symm⟩
  refine ⟨fun k q hk => ?_, fun i j p q hi hj e => ?_, fun k q hk => ?_⟩
  · obtain ⟨h9, rfl⟩ := lt9 k q hk
    obtain ⟨x, h1, h2⟩ := fdZ_at g h0 an ae s0 s1 s2 rd inp at' de gmx k h9
    exact h2 H (h.1 _ _ h1)
  · obtain ⟨h8, rfl⟩ := lt9 i p hi
    obtain ⟨h9, rfl⟩ := lt9 j q hj
    obtain ⟨x, h1, -⟩ := fdZ_at g h0 an ae s0 s1 s2 rd inp at' de gmx i h8
    obtain ⟨y, h3, -⟩ := fdZ_at g h0 an ae s0 s1 s2 rd inp at' de gmx j h9
    exact fdIx_inj i h8 j h9 (h.2.1 _ _ _ _ h1 h3 e)
  · obtain ⟨h9, rfl⟩ := lt9 k q hk
    obtain ⟨x, h1, -⟩ := fdZ_at g h0 an ae s0 s1 s2 rd inp at' de gmx k h9
    have h5 := h.2.2 _ (_, x) h1
    exact h5
