/-! ===== all calls keep the two states together; the claim's start ===== -/
theorem inv_mono : ∀ (n : Nat) (σ : CS) (ρ : RS), Inv n σ ρ → Inv (n + 1) σ ρ := fun n σ ρ ⟨c, N, M, L, h, hJ⟩ => ⟨c, N, M, L, by omega, hJ⟩
theorem sims : Sims Inv := ⟨inv_mono, sm_begin, sm_setBarriers, sm_prepare, sm_accept, sm_barrier, sm_crash, sm_wipe, sm_restart, sm_rejoin, sm_append, sm_clearInput, sm_firstError, sm_load, sm_count, sm_node, sm_accepted, sm_waiting, sm_slot, sm_roundValue, sm_ifCrashed, sm_harmless, sm_leastLosses, sm_answered, sm_onDisks, sm_digest⟩
theorem whole_start {p : Program} {e : Env} {s : State} {m : MethodId} {below : List Frame} {meth : Method} {c : Code} (l : Launch) (hflags : l.flags = flags0) {b L : Nat} {xs : Nat → Int32} (hL : L ≤ 2560) (C0 : lw_At p s m meth c b L xs) : W p l e room_1 s m #[Value.ref b] below meth c s.heap [] 0 0 (lw_Z below #[Value.ref b] s) (entryFrame m ([Value.ref b] : List Value).toArray 9) := by
  obtain ⟨ρ1, hF, hJ⟩ := ini_2
  exact law_start sims hF ⟨0, 3, 1, 0, by omega, hJ⟩ l hflags hL C0
