/-! ===== the start: what the constructors have made ===== -/
theorem M0_c : lm_M0 14 0 = 0 ∧ lm_M0 14 6 = 0 ∧ lm_M0 14 9 = 5 ∧ lm_M0 23 0 = 0 ∧ lm_M0 24 0 = 0 ∧ lm_M0 23 1 = 0 ∧ lm_M0 24 1 = 0 ∧ lm_M0 28 2 = 0 ∧ lm_M0 28 12 = -1 ∧ lm_M0 52 2 = 0 ∧ lm_M0 52 4 = 0 ∧ (∀ j, j < 3 → lm_M0 56 j = 0) ∧ lm_M0 1 1 = 0 ∧ lm_M0 0 8 = 0 ∧ lm_M0 1 11 = -1 := by decide +kernel
theorem M0_m : lm_M0 68 0 = 0 ∧ lm_M0 68 1 = 0 ∧ lm_M0 68 2 = 5 ∧ lm_M0 68 3 = 0 ∧ lm_M0 68 4 = 0 ∧ lm_M0 64 36 = 0 ∧ lm_M0 64 42 = 0 ∧ lm_M0 64 37 = 0 ∧ lm_M0 64 38 = 0 ∧ (∀ j, j < 3 → lm_M0 78 j = 0) ∧ lm_M0 64 18 = 0 ∧ lm_M0 64 54 = 0 ∧ lm_M0 64 27 = -1 := by decide +kernel
def B0 : Bk := (0, fun _ => toS D0, 0, fun _ => 0, fun _ => 0, fun _ => 0, fun _ => 0)
theorem okB_0 {F : Fa} {br : Fn} : okB F br B0 := ⟨by show 0 ≤ 40; omega, by show 0 ≤ 8; omega, fun i hi => absurd hi (Nat.not_lt_zero i), fun i hi => absurd hi (Nat.not_lt_zero i)⟩
theorem WI_0 : WI lm_M0 := by
  obtain ⟨a1, a2, a3, a4, a5, a6, a7, a8, a9, a10, a11, a12, a13, a14, a15⟩ := M0_c
  obtain ⟨b1, b2, b3, b4, b5, b6, b7, b8, b9, b10, b11, b12, b13⟩ := M0_m
  have z : ∀ {f g : Fn}, Ag 0 f g := fun i hi => absurd hi (Nat.not_lt_zero i)
  refine ⟨toF D0, toS D0, B0, 0, fun _ => 0, false, toS D0, B0, ⟨okF_D okD_0, okS_D okD_0, okB_0, by decide, fun i hi => absurd hi (Nat.not_lt_zero i), okS_D okD_0, rfl, okB_0⟩, ⟨⟨⟨⟨a1, a2, a3, z, z, z, fun i hi => absurd hi (Nat.not_lt_zero i), ⟨0, by decide, a4, a5, fun i hi => absurd hi (Nat.not_lt_zero i)⟩, ⟨0, by decide, a6, a7, fun i hi => absurd hi (Nat.not_lt_zero i)⟩⟩, a8, z, z, z, z, z, z, z, z, z⟩, a9, a10, a11, fun i hi => absurd hi (Nat.not_lt_zero i), fun i hi => absurd hi (Nat.not_lt_zero i), a12⟩, ⟨a13, fun i hi => absurd hi (Nat.not_lt_zero i)⟩, z, a14, fun w => by cases w⟩, ⟨⟨⟨⟨b1, b2, b3, b4, b5, z, z, z, z, z⟩, b6, z, z, z, z, z, z, z⟩, b7, b8, b9, fun i hi => absurd hi (Nat.not_lt_zero i), fun i hi => absurd hi (Nat.not_lt_zero i), b10⟩, ⟨b11, fun i hi => absurd hi (Nat.not_lt_zero i)⟩, b12, fun w => by cases w⟩, a15.trans b13.symm⟩
theorem law_claim : lm_claim := lm_claim_of (fun X hX => by
  have := law_go hX 513 0 106 14763 lm_M0 66 lm_G0 (by omega) (Nat.zero_le _) (by decide) (by decide) WI_0
  rw [nI_0] at this
  exact this)
theorem whole_start {p : Program} {e : Env} {s : State} {m : MethodId} {below : List Frame} {meth : Method} {c : Code} (l : Launch) (hflags : l.flags = flags0) {b L : Nat} {xs : Nat → Int32} (hL : L ≤ 3072) (C0 : lw_At p s m meth c b L xs) : W p l e room_1 s m #[Value.ref b] below meth c s.heap [] 0 0 (lw_Z below #[Value.ref b] s) (entryFrame m ([Value.ref b] : List Value).toArray 7) := whole_of_light law_claim l hflags hL C0
