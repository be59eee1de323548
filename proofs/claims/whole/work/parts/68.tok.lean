/-! ===== tokens ===== -/
def ltS (b : Nat) : Bool := decide (97 ≤ b) && decide (b ≤ 122)
def dgS (b : Nat) : Bool := decide (48 ≤ b) && decide (b ≤ 57)
def blS (b : Nat) : Bool := decide (b = 32) || decide (b = 10)
def rnF (c : Nat → Bool) (n : Nat) : Nat → Nat → Nat
  | 0, i => i
  | f + 1, i => if decide (i < n) && c i then rnF c n f (i + 1) else i
/-- the first from i on that isn't so, or the end -/
def runS (c : Nat → Bool) (n i : Nat) : Nat := rnF c n (n - i) i
theorem run_y {c : Nat → Bool} {n i : Nat} (h : i < n) (hc : c i = true) : runS c n i = runS c n (i + 1) := by
  unfold runS
  obtain ⟨f, hf⟩ : ∃ f, n - i = f + 1 := ⟨n - i - 1, by omega⟩
  rw [hf, show n - (i + 1) = f by omega]
  simp only [rnF]
  rw [decide_eq_true h, hc]
  rfl
theorem run_n {c : Nat → Bool} {n i : Nat} (h : i < n → c i = false) : runS c n i = i := by
  unfold runS
  cases hf : n - i with
  | zero => rfl
  | succ f =>
    simp only [rnF]
    rw [h (by omega), Bool.and_false]
    rfl
theorem run_le {c : Nat → Bool} {n : Nat} : ∀ (k i : Nat), n - i = k → i ≤ n → i ≤ runS c n i ∧ runS c n i ≤ n
  | 0, i, h, hi => by rw [run_n (fun w => by omega)]; omega
  | k + 1, i, h, hi => by
    by_cases hc : c i = true
    · rw [run_y (by omega) hc]
      have := run_le (c := c) (n := n) k (i + 1) (by omega) (by omega)
      omega
    · rw [run_n (fun _ => by simpa using hc)]
      omega
theorem run_in {c : Nat → Bool} {n : Nat} : ∀ (k i : Nat), n - i = k → ∀ j, i ≤ j → j < runS c n i → c j = true
  | 0, i, h, j, h1, h2 => by rw [run_n (fun w => by omega)] at h2; omega
  | k + 1, i, h, j, h1, h2 => by
    by_cases hc : c i = true
    · rw [run_y (by omega) hc] at h2
      by_cases e : j = i
      · rw [e]; exact hc
      · exact run_in k (i + 1) (by omega) j (by omega) h2
    · rw [run_n (fun _ => by simpa using hc)] at h2
      omega
/-- a tape's text: its length, its bytes -/
abbrev Tx : Type := Nat × (Nat → Nat)
abbrev tN (T : Tx) : Nat := T.1
abbrev tB (T : Tx) : Nat → Nat := T.2
def stS' (T : Tx) (p : Nat) : Nat := runS (fun i => blS (tB T i)) (tN T) p
/-- 0 the end, 1 a word, 2 a number, 3 a sign -/
def knS (T : Tx) (p : Nat) : Nat := if tN T ≤ stS' T p then 0 else if ltS (tB T (stS' T p)) then 1 else if dgS (tB T (stS' T p)) then 2 else 3
def enS (T : Tx) (p : Nat) : Nat := if knS T p = 0 then stS' T p else if knS T p = 1 then runS (fun i => ltS (tB T i)) (tN T) (stS' T p) else if knS T p = 2 then runS (fun i => dgS (tB T i)) (tN T) (stS' T p) else stS' T p + 1
/-- the number that k digits from i on make -/
def nmF (T : Tx) (i : Nat) : Nat → Nat
  | 0 => 0
  | k + 1 => 10 * nmF T i k + (tB T (i + k) - 48)
def nuS (T : Tx) (p : Nat) : Nat := nmF T (stS' T p) (enS T p - stS' T p)
def lnS (T : Tx) (p : Nat) : Nat := enS T p - stS' T p
def isSg (T : Tx) (p c : Nat) : Bool := decide (knS T p = 3) && decide (tB T (stS' T p) = c)
def isWd (T : Tx) (p : Nat) (w : List Nat) : Bool := decide (knS T p = 1) && (decide (lnS T p = w.length) && alB (fun i => decide (tB T (stS' T p + i) = w.getD i 0)) w.length)
theorem st_le {T : Tx} {p : Nat} (h : p ≤ tN T) : p ≤ stS' T p ∧ stS' T p ≤ tN T := run_le _ _ rfl h
theorem kn_0 {T : Tx} {p : Nat} : knS T p = 0 ↔ tN T ≤ stS' T p := by
  unfold knS
  by_cases h : tN T ≤ stS' T p
  · simp [h]
  · rw [if_neg h]
    constructor
    · intro w
      split at w
      · cases w
      · split at w <;> cases w
    · exact fun w => absurd w h
theorem kn_1 {T : Tx} {p : Nat} (h : stS' T p < tN T) (hl : ltS (tB T (stS' T p)) = true) : knS T p = 1 := by
  unfold knS
  rw [if_neg (by omega), if_pos hl]
theorem kn_2 {T : Tx} {p : Nat} (h : stS' T p < tN T) (hl : ltS (tB T (stS' T p)) = false) (hd : dgS (tB T (stS' T p)) = true) : knS T p = 2 := by
  unfold knS
  rw [if_neg (by omega), if_neg (by rw [hl]; decide), if_pos hd]
theorem kn_3 {T : Tx} {p : Nat} (h : stS' T p < tN T) (hl : ltS (tB T (stS' T p)) = false) (hd : dgS (tB T (stS' T p)) = false) : knS T p = 3 := by
  unfold knS
  rw [if_neg (by omega), if_neg (by rw [hl]; decide), if_neg (by rw [hd]; decide)]
theorem kn_le {T : Tx} {p : Nat} : knS T p ≤ 3 := by
  unfold knS
  split
  · omega
  · split
    · omega
    · split <;> omega
theorem en_0 {T : Tx} {p : Nat} (h : knS T p = 0) : enS T p = stS' T p := if_pos h
theorem en_1 {T : Tx} {p : Nat} (h : knS T p = 1) : enS T p = runS (fun i => ltS (tB T i)) (tN T) (stS' T p) := by unfold enS; rw [h]; rfl
theorem en_2 {T : Tx} {p : Nat} (h : knS T p = 2) : enS T p = runS (fun i => dgS (tB T i)) (tN T) (stS' T p) := by unfold enS; rw [h]; rfl
theorem en_3 {T : Tx} {p : Nat} (h : knS T p = 3) : enS T p = stS' T p + 1 := by unfold enS; rw [h]; rfl
/-- a token is one byte at least; all ends by the text's end -/
theorem en_le {T : Tx} {p : Nat} (h : p ≤ tN T) : stS' T p ≤ enS T p ∧ enS T p ≤ tN T ∧ (knS T p ≠ 0 → stS' T p < enS T p ∧ stS' T p < tN T) := by
  have hs := st_le h
  by_cases h0 : knS T p = 0
  · rw [en_0 h0]
    exact ⟨Nat.le_refl _, hs.2, fun w => absurd h0 w⟩
  · have hl : stS' T p < tN T := Nat.lt_of_not_le (fun w => h0 (kn_0.mpr w))
    by_cases c1 : ltS (tB T (stS' T p)) = true
    · have k := kn_1 hl c1
      rw [en_1 k, run_y hl c1]
      have := run_le (c := fun i => ltS (tB T i)) (n := tN T) _ (stS' T p + 1) rfl (by omega)
      exact ⟨by omega, by omega, fun _ => ⟨by omega, hl⟩⟩
    · have c1' : ltS (tB T (stS' T p)) = false := by simpa using c1
      by_cases c2 : dgS (tB T (stS' T p)) = true
      · have k := kn_2 hl c1' c2
        rw [en_2 k, run_y hl c2]
        have := run_le (c := fun i => dgS (tB T i)) (n := tN T) _ (stS' T p + 1) rfl (by omega)
        exact ⟨by omega, by omega, fun _ => ⟨by omega, hl⟩⟩
      · have k := kn_3 hl c1' (by simpa using c2)
        rw [en_3 k]
        exact ⟨by omega, by omega, fun _ => ⟨by omega, hl⟩⟩
theorem en_gt {T : Tx} {p : Nat} (h : p ≤ tN T) (hk : knS T p ≠ 0) : p < enS T p := by
  have a := st_le h
  have b := (en_le h).2.2 hk
  omega
theorem nm_lt {T : Tx} {i : Nat} : ∀ k, (∀ j, j < k → dgS (tB T (i + j)) = true) → nmF T i k < 10 ^ k
  | 0, _ => by simp [nmF]
  | k + 1, h => by
    have ih := nm_lt k (fun j hj => h j (by omega))
    have hd := h k (by omega)
    unfold dgS at hd
    rw [Bool.and_eq_true, decide_eq_true_eq, decide_eq_true_eq] at hd
    simp only [nmF]
    rw [Nat.pow_succ]
    omega
theorem nu_le {T : Tx} {p : Nat} (hk : knS T p = 2) (hl : lnS T p ≤ 4) : nuS T p ≤ 9999 := by
  unfold nuS
  unfold lnS at hl
  have hd : ∀ j, j < enS T p - stS' T p → dgS (tB T (stS' T p + j)) = true := by
    intro j hj
    have e := en_2 hk
    exact run_in (c := fun i => dgS (tB T i)) (n := tN T) _ (stS' T p) rfl (stS' T p + j) (by omega) (by omega)
  have := nm_lt _ hd
  have : 10 ^ (enS T p - stS' T p) ≤ 10 ^ 4 := Nat.pow_le_pow_right (by omega) hl
  omega
theorem sB_eq : ∀ b, b < 256 → ∀ c, c < 128 → (sB b = nI c ↔ b = c) := by decide +kernel
theorem sB_ge : ∀ b, b < 256 → (nI 97 ≤ sB b ∧ sB b ≤ nI 122 ↔ 97 ≤ b ∧ b ≤ 122) := by decide +kernel
theorem sB_dg : ∀ b, b < 256 → (nI 48 ≤ sB b ∧ sB b ≤ nI 57 ↔ 48 ≤ b ∧ b ≤ 57) := by decide +kernel
theorem sB_d : ∀ b, b < 256 → 48 ≤ b → b ≤ 57 → sB b = nI b := by decide +kernel
