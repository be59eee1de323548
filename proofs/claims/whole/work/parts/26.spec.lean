/-! ===== words for masks, counts, answers ===== -/
def b2i (b : Bool) : Int32 := if b then 1 else 0
theorem b2i_t {b : Bool} (h : b = true) : b2i b = 1 := by rw [h]; rfl
theorem b2i_f {b : Bool} (h : b = false) : b2i b = 0 := by rw [h]; rfl
theorem b2i_01 (b : Bool) : b2i b = 0 ∨ b2i b = 1 := by cases b <;> simp [b2i]
abbrev bit1 (n : Int32) : Int32 := (1 : Int32) <<< (n &&& 31)
/-- the set of those below n for whom f holds -/
def msk (f : Nat → Bool) : Nat → Int32
  | 0 => 0
  | n + 1 => if f n then msk f n ||| bit1 (nI n) else msk f n
theorem msk_t {f : Nat → Bool} {n : Nat} (h : f n = true) : msk f (n + 1) = msk f n ||| bit1 (nI n) := by simp [msk, h]
theorem msk_f {f : Nat → Bool} {n : Nat} (h : f n = false) : msk f (n + 1) = msk f n := by simp [msk, h]
theorem or_0 (x : Int32) : x ||| 0 = x := by
  apply Int32.toBitVec_inj.mp
  simp
theorem msk_congr {f g : Nat → Bool} : ∀ (n : Nat), (∀ j, j < n → f j = g j) → msk f n = msk g n
  | 0, _ => rfl
  | n + 1, h => by simp only [msk]; rw [h n (Nat.lt_succ_self n), msk_congr n (fun j hj => h j (Nat.lt_succ_of_lt hj))]
/-- as a number: the same set below 2 ^ n -/
def mskN (f : Nat → Bool) : Nat → Nat
  | 0 => 0
  | n + 1 => if f n then mskN f n + 2 ^ n else mskN f n
theorem mskN_lt (f : Nat → Bool) : ∀ n, mskN f n < 2 ^ n
  | 0 => by simp [mskN]
  | n + 1 => by
    have := mskN_lt f n
    simp only [mskN]
    split
    · rw [Nat.pow_succ]; omega
    · rw [Nat.pow_succ]; omega
theorem bit1_n : ∀ n, n < 31 → bit1 (nI n) = nI (2 ^ n) := by decide +kernel
theorem or_pow {a n : Nat} (h : a < 2 ^ n) : a ||| 2 ^ n = a + 2 ^ n := by
  have := Nat.two_pow_add_eq_or_of_lt h 1
  rw [Nat.mul_one, Nat.add_comm] at this
  rw [this, Nat.or_comm]
theorem nI_or (a b : Nat) : nI a ||| nI b = nI (a ||| b) := by
  apply Int32.toBitVec_inj.mp
  rw [Int32.toBitVec_or]
  show BitVec.ofNat 32 a ||| BitVec.ofNat 32 b = BitVec.ofNat 32 (a ||| b)
  apply BitVec.eq_of_getLsbD_eq
  intro i hi
  simp [BitVec.getLsbD_ofNat, Nat.testBit_or, hi]
theorem msk_N (f : Nat → Bool) : ∀ n, n ≤ 31 → msk f n = nI (mskN f n)
  | 0, _ => rfl
  | n + 1, h => by
    simp only [msk, mskN]
    rw [msk_N f n (by omega)]
    split
    · rw [bit1_n n (by omega), nI_or, or_pow (mskN_lt f n)]
    · rfl
/-- how many bits of a number below 256 -/
def pcN (m : Nat) : Nat := ((List.range 8).filter (fun i => m.testBit i)).length
theorem pcN_0 : pcN 0 = 0 := by decide
theorem kern_ok : ∀ m, m < 256 → m ≠ 0 → (nI m &&& (nI m - 1)) = nI (m &&& (m - 1)) ∧ pcN m = pcN (m &&& (m - 1)) + 1 ∧ m &&& (m - 1) < m := by decide +kernel
theorem pcN_le : ∀ m, m < 256 → pcN m ≤ 8 := by decide +kernel
/-- what is written at one place -/
theorem wr_same {M : Nat → Nat → Int32} {a j : Nat} {x : Int32} : lm_wr M a j x a j = x := by simp [lm_wr, upd]
theorem wr_row {M : Nat → Nat → Int32} {a b j : Nat} {x : Int32} (h : b ≠ a) : lm_wr M a j x b = M b := by simp [lm_wr, h]
theorem wr_at {M : Nat → Nat → Int32} {a i j : Nat} {x : Int32} (h : i ≠ j) : lm_wr M a j x a i = M a i := by simp [lm_wr, upd, h]
theorem wr_if (M : Nat → Nat → Int32) (a b i j : Nat) (x : Int32) : lm_wr M a j x b i = if b = a ∧ i = j then x else M b i := by
  unfold lm_wr upd
  by_cases h : b = a <;> by_cases h2 : i = j <;> simp [h, h2]
