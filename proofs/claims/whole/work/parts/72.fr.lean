/-! ===== what reading may change ===== -/
def frP (a : Nat) : Bool := decide (a = 64 ∨ (68 ≤ a ∧ a ≤ 77))
def FrP (M M1 : Nat → Fn) : Prop := Fr frP M M1 ∧ (∀ k, k ≠ 19 → k ≠ 21 → k ≠ 22 → k ≠ 23 → k ≠ 24 → k ≠ 25 → k ≠ 26 → k ≠ 28 → M1 64 k = M 64 k) ∧ (∀ k, k < 5 → M1 68 k = M 68 k) ∧ (∀ a k, 69 ≤ a → a ≤ 73 → k < 8 → M1 a k = M a k) ∧ (∀ a k, 74 ≤ a → a ≤ 75 → k < 6 → M1 a k = M a k) ∧ (∀ a k, 76 ≤ a → a ≤ 77 → k < 700 → M1 a k = M a k)
theorem FrP_rf (M : Nat → Fn) : FrP M M := ⟨Fr_rf _ _, fun _ _ _ _ _ _ _ _ _ => rfl, fun _ _ => rfl, fun _ _ _ _ _ => rfl, fun _ _ _ _ _ => rfl, fun _ _ _ _ _ => rfl⟩
theorem FrP_tr {M M1 M2 : Nat → Fn} (h : FrP M M1) (h2 : FrP M1 M2) : FrP M M2 :=
  ⟨Fr_tr h.1 h2.1, fun k a b c d e f g i => (h2.2.1 k a b c d e f g i).trans (h.2.1 k a b c d e f g i), fun k a => (h2.2.2.1 k a).trans (h.2.2.1 k a), fun a k x y z => (h2.2.2.2.1 a k x y z).trans (h.2.2.2.1 a k x y z), fun a k x y z => (h2.2.2.2.2.1 a k x y z).trans (h.2.2.2.2.1 a k x y z), fun a k x y z => (h2.2.2.2.2.2 a k x y z).trans (h.2.2.2.2.2 a k x y z)⟩
theorem FrP_K {M M1 : Nat → Fn} (h : FrK M M1) : FrP M M1 := by
  have g : ∀ a, a ≠ 64 → M1 a = M a := fun a ha => h.1 a (by unfold frO; rw [beq_eq_false_iff_ne]; exact ha)
  refine ⟨fun a ha => g a (fun e => by rw [e] at ha; cases ha), fun k a b c d e _ _ _ => h.2 k a b c d e, fun k _ => by rw [g 68 (by decide)], fun a k x y _ => by rw [g a (by omega)], fun a k x y _ => by rw [g a (by omega)], fun a k x y _ => by rw [g a (by omega)]⟩
theorem FrP_w64 {M M1 : Nat → Fn} (h : FrP M M1) {j : Nat} {x : Int32} (hj : j = 25 ∨ j = 26 ∨ j = 28) : FrP M (lm_wr M1 64 j x) := by
  obtain ⟨h1, h2, h3, h4, h5, h6⟩ := h
  refine ⟨Fr_wr h1 rfl, fun k a b c d e f g i => (wr_at (by omega)).trans (h2 k a b c d e f g i), fun k hk => by rw [wr_row (by decide)]; exact h3 k hk, fun a k x y z => by rw [wr_row (by omega)]; exact h4 a k x y z, fun a k x y z => by rw [wr_row (by omega)]; exact h5 a k x y z, fun a k x y z => by rw [wr_row (by omega)]; exact h6 a k x y z⟩
theorem FrP_w68 {M M1 : Nat → Fn} (h : FrP M M1) {j : Nat} {x : Int32} (hj : 5 ≤ j) : FrP M (lm_wr M1 68 j x) := by
  obtain ⟨h1, h2, h3, h4, h5, h6⟩ := h
  refine ⟨Fr_wr h1 rfl, fun k a b c d e f g i => by rw [wr_row (by decide)]; exact h2 k a b c d e f g i, fun k hk => (wr_at (by omega)).trans (h3 k hk), fun a k x y z => by rw [wr_row (by omega)]; exact h4 a k x y z, fun a k x y z => by rw [wr_row (by omega)]; exact h5 a k x y z, fun a k x y z => by rw [wr_row (by omega)]; exact h6 a k x y z⟩
theorem FrP_wr {M M1 : Nat → Fn} (h : FrP M M1) {r j : Nat} {x : Int32} (hr : (69 ≤ r ∧ r ≤ 73 ∧ 8 ≤ j) ∨ (74 ≤ r ∧ r ≤ 75 ∧ 6 ≤ j) ∨ (76 ≤ r ∧ r ≤ 77 ∧ 700 ≤ j)) : FrP M (lm_wr M1 r j x) := by
  obtain ⟨h1, h2, h3, h4, h5, h6⟩ := h
  have hp : frP r = true := decide_eq_true (by omega)
  refine ⟨Fr_wr h1 hp, fun k a b c d e f g i => by rw [wr_row (by omega)]; exact h2 k a b c d e f g i, fun k hk => by rw [wr_row (by omega)]; exact h3 k hk, fun a k x y z => ?_, fun a k x y z => ?_, fun a k x y z => ?_⟩
  · rw [wr_if, if_neg (by omega)]; exact h4 a k x y z
  · rw [wr_if, if_neg (by omega)]; exact h5 a k x y z
  · rw [wr_if, if_neg (by omega)]; exact h6 a k x y z
/-- the model reads on; or a fault is told -/
def GM (M : Nat → Fn) (T : Tx) (p : Nat) : Prop := RN M T p ∧ M 64 25 = 0
def BM (M : Nat → Fn) (f a : Nat) : Prop := M 64 25 = nI f ∧ M 64 26 = nI a
/-- what the class may change when it reads -/
def frV (a : Nat) : Bool := decide (a = 1 ∨ (3 ≤ a ∧ a ≤ 13))
def FrV (M M1 : Nat → Fn) : Prop := Fr frV M M1 ∧ ∀ k, k < 4 → M1 1 k = M 1 k
theorem FrV_rf (M : Nat → Fn) : FrV M M := ⟨Fr_rf _ _, fun _ _ => rfl⟩
theorem FrV_tr {M M1 M2 : Nat → Fn} (h : FrV M M1) (h2 : FrV M1 M2) : FrV M M2 := ⟨Fr_tr h.1 h2.1, fun k a => (h2.2 k a).trans (h.2 k a)⟩
theorem FrV_R {M M1 : Nat → Fn} (h : FrR M M1) : FrV M M1 := by
  refine ⟨Fr_mn h.1 (fun a ha => ?_), fun k hk => h.2 k (by omega) (by omega) (by omega) (by omega)⟩
  unfold frO
  rw [beq_eq_false_iff_ne]
  intro e
  rw [e] at ha
  cases ha
theorem FrV_w1 {M M1 : Nat → Fn} (h : FrV M M1) {j : Nat} {x : Int32} (hj : 4 ≤ j) : FrV M (lm_wr M1 1 j x) := ⟨Fr_wr h.1 rfl, fun k hk => (wr_at (by omega)).trans (h.2 k hk)⟩
theorem FrV_wr {M M1 : Nat → Fn} (h : FrV M M1) {r j : Nat} {x : Int32} (hr : frV r = true) (h1 : r ≠ 1) : FrV M (lm_wr M1 r j x) := ⟨Fr_wr h.1 hr, fun k hk => by rw [wr_row (fun e => h1 e.symm)]; exact h.2 k hk⟩
/-- the class has told a fault -/
def BC (M : Nat → Fn) (f a : Nat) : Prop := M 1 10 = nI f ∧ M 1 11 = nI a
/-- a number between two: or a fault -/
def rdN (T : Tx) (p lo hi : Nat) : Nat ⊕ Nat := if knS T p = 2 then (if lnS T p ≤ 4 ∧ lo ≤ nuS T p ∧ nuS T p ≤ hi then .inl (nuS T p) else .inr 2) else .inr 1
