/-! ===== readers ===== -/
theorem run_e {c : Nat → Bool} {n : Nat} : ∀ (k i : Nat), n - i = k → runS c n i < n → c (runS c n i) = false
  | 0, i, h, hl => by
    rw [run_n (fun w => by omega)] at hl
    omega
  | k + 1, i, h, hl => by
    by_cases hc : c i = true
    · rw [run_y (by omega) hc] at hl ⊢
      exact run_e k (i + 1) (by omega) hl
    · have hc' : c i = false := by simpa using hc
      rw [run_n (fun _ => hc')]
      exact hc'
def okT (T : Tx) : Prop := tN T ≤ 700 ∧ ∀ i, i < tN T → tB T i < 256
def RDc (M : Nat → Fn) (T : Tx) : Prop := M 1 3 = nI (tN T) ∧ ∀ i, i < tN T → M 2 i = sB (tB T i)
def RDm (M : Nat → Fn) (T : Tx) : Prop := M 64 20 = nI (tN T) ∧ ∀ i, i < tN T → M 80 i = nI (tB T i)
/-- the class's token is the one from p on -/
def RT (M : Nat → Fn) (T : Tx) (p : Nat) : Prop := RDc M T ∧ M 1 6 = nI (knS T p) ∧ M 1 7 = nI (stS' T p) ∧ M 1 8 = nI (enS T p) ∧ (knS T p = 2 → lnS T p ≤ 4 → M 1 9 = nI (nuS T p))
def mkS (b : Nat) : Bool := decide (b = 59) || (decide (b = 40) || (decide (b = 41) || (decide (b = 43) || (decide (b = 45) || (decide (b = 42) || (decide (b = 47) || (decide (b = 60) || decide (b = 61))))))))
def tkS (T : Tx) (p : Nat) : Nat := if knS T p = 3 then (if mkS (tB T (stS' T p)) then 3 else 4) else knS T p
def RN (M : Nat → Fn) (T : Tx) (p : Nat) : Prop := RDm M T ∧ M 64 21 = nI (tkS T p) ∧ M 64 23 = nI (stS' T p) ∧ M 64 24 = nI (enS T p) ∧ M 64 19 = nI (enS T p) ∧ (knS T p = 2 → lnS T p ≤ 4 → M 64 22 = nI (nuS T p))
def FrR (M M1 : Nat → Fn) : Prop := Fr (frO 1) M M1 ∧ ∀ k, k ≠ 6 → k ≠ 7 → k ≠ 8 → k ≠ 9 → M1 1 k = M 1 k
def FrK (M M1 : Nat → Fn) : Prop := Fr (frO 64) M M1 ∧ ∀ k, k ≠ 19 → k ≠ 21 → k ≠ 22 → k ≠ 23 → k ≠ 24 → M1 64 k = M 64 k
theorem FrR_rf (M : Nat → Fn) : FrR M M := ⟨Fr_rf _ _, fun _ _ _ _ _ => rfl⟩
theorem FrR_tr {M M1 M2 : Nat → Fn} (h : FrR M M1) (h2 : FrR M1 M2) : FrR M M2 := ⟨Fr_tr h.1 h2.1, fun k a b c d => (h2.2 k a b c d).trans (h.2 k a b c d)⟩
theorem FrR_w {M M1 : Nat → Fn} (h : FrR M M1) {j : Nat} {x : Int32} (hj : j = 6 ∨ j = 7 ∨ j = 8 ∨ j = 9) : FrR M (lm_wr M1 1 j x) := ⟨Fr_wr h.1 rfl, fun k a b c d => (wr_at (by omega)).trans (h.2 k a b c d)⟩
theorem FrK_rf (M : Nat → Fn) : FrK M M := ⟨Fr_rf _ _, fun _ _ _ _ _ _ => rfl⟩
theorem FrK_tr {M M1 M2 : Nat → Fn} (h : FrK M M1) (h2 : FrK M1 M2) : FrK M M2 := ⟨Fr_tr h.1 h2.1, fun k a b c d e => (h2.2 k a b c d e).trans (h.2 k a b c d e)⟩
theorem FrK_w {M M1 : Nat → Fn} (h : FrK M M1) {j : Nat} {x : Int32} (hj : j = 19 ∨ j = 21 ∨ j = 22 ∨ j = 23 ∨ j = 24) : FrK M (lm_wr M1 64 j x) := ⟨Fr_wr h.1 rfl, fun k a b c d e => (wr_at (by omega)).trans (h.2 k a b c d e)⟩
theorem sB_bl : ∀ b, b < 256 → (sB b = 32 ↔ b = 32) ∧ (sB b = 10 ↔ b = 10) := by decide +kernel
theorem lt_iff {b : Nat} : ltS b = true ↔ 97 ≤ b ∧ b ≤ 122 := by unfold ltS; simp
theorem dg_iff {b : Nat} : dgS b = true ↔ 48 ≤ b ∧ b ≤ 57 := by unfold dgS; simp
theorem nm_s {T : Tx} {i k : Nat} : nmF T i (k + 1) = 10 * nmF T i k + (tB T (i + k) - 48) := rfl
def lm_wz (k : Nat) : List Int32 := lm_str.getD k []
