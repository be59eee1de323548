/-! rows on bits, shifts and unsigned numbers, to paste: each family out of a closed proof of our own, whole with what it rests on; each by itself clean at Lean in its own claim (generation 39, form 5). Take a family whole -/
/-! ===== Int32 by its bits: bt x i ===== -/
def bt (x : Int32) (i : Nat) : Bool := x.toBitVec.getLsbD i
theorem b_ext {x y : Int32} (h : ∀ i, i < 32 → bt x i = bt y i) : x = y := Int32.toBitVec_inj.mp (BitVec.eq_of_getLsbD_eq (fun i hi => h i hi))
theorem b_or (x y : Int32) (i : Nat) : bt (x ||| y) i = (bt x i || bt y i) := by unfold bt; rw [Int32.toBitVec_or, BitVec.getLsbD_or]
theorem b_and (x y : Int32) (i : Nat) : bt (x &&& y) i = (bt x i && bt y i) := by unfold bt; rw [Int32.toBitVec_and, BitVec.getLsbD_and]
theorem b_xor (x y : Int32) (i : Nat) : bt (x ^^^ y) i = (bt x i ^^ bt y i) := by unfold bt; rw [Int32.toBitVec_xor, BitVec.getLsbD_xor]
theorem b_big {x : Int32} {i : Nat} (h : 32 ≤ i) : bt x i = false := BitVec.getLsbD_of_ge _ _ h
theorem b_255 (i : Nat) : bt 255 i = decide (i < 8) := by
  rcases Nat.lt_or_ge i 32 with h | h
  · exact (by decide +kernel : ∀ i, i < 32 → bt 255 i = decide (i < 8)) i h
  · rw [b_big h, decide_eq_false (by omega)]
theorem b_65535 (i : Nat) : bt 65535 i = decide (i < 16) := by
  rcases Nat.lt_or_ge i 32 with h | h
  · exact (by decide +kernel : ∀ i, i < 32 → bt 65535 i = decide (i < 16)) i h
  · rw [b_big h, decide_eq_false (by omega)]
theorem b_m1 : ∀ i, i < 32 → bt (-1) i = true := by decide +kernel
theorem b_0 (i : Nat) : bt 0 i = false := BitVec.getLsbD_zero
theorem s_l : ∀ n, n < 32 → ((nI n &&& 31).toBitVec.smod 32).toNat = n := by decide +kernel
theorem s_u : ∀ n, n < 32 → (((nI n).toUInt32 &&& Int32.toUInt32 31).toBitVec % 32).toNat = n := by decide +kernel
theorem b_shl (n : Nat) (hn : n < 32) (x : Int32) {i : Nat} (hi : i < 32) : bt (x <<< (nI n &&& 31)) i = (decide (n ≤ i) && bt x (i - n)) := by
  unfold bt
  rw [Int32.toBitVec_shiftLeft]
  show (x.toBitVec <<< ((nI n &&& 31).toBitVec.smod 32).toNat).getLsbD i = _
  rw [s_l n hn, BitVec.getLsbD_shiftLeft]
  rcases Nat.lt_or_ge i n with h | h
  · simp [h, Nat.not_le.mpr h]
  · simp [hi, h, Nat.not_lt.mpr h]
theorem b_ushr (n : Nat) (hn : n < 32) (x : Int32) (i : Nat) : bt ((x.toUInt32 >>> ((nI n).toUInt32 &&& Int32.toUInt32 31)).toInt32) i = bt x (n + i) := by
  show (x.toUInt32 >>> ((nI n).toUInt32 &&& Int32.toUInt32 31)).toBitVec.getLsbD i = x.toUInt32.toBitVec.getLsbD (n + i)
  rw [UInt32.toBitVec_shiftRight]
  show (x.toUInt32.toBitVec >>> (((nI n).toUInt32 &&& Int32.toUInt32 31).toBitVec % 32).toNat).getLsbD i = _
  rw [s_u n hn, BitVec.getLsbD_ushiftRight]
theorem b_sshr (n : Nat) (hn : n < 32) (x : Int32) {i : Nat} (hi : i < 32) : bt (x >>> (nI n &&& 31)) i = if n + i < 32 then bt x (n + i) else bt x 31 := by
  unfold bt
  rw [Int32.toBitVec_shiftRight]
  show (x.toBitVec.sshiftRight ((nI n &&& 31).toBitVec.smod 32).toNat).getLsbD i = _
  rw [s_l n hn, BitVec.getLsbD_sshiftRight, BitVec.msb_eq_getLsbD_last]
  simp [hi]
theorem b_shl8 (x : Int32) {i : Nat} (hi : i < 32) : bt (x <<< ((8 : Int32) &&& 31)) i = (decide (8 ≤ i) && bt x (i - 8)) := b_shl 8 (by omega) x hi
theorem b_shl16 (x : Int32) {i : Nat} (hi : i < 32) : bt (x <<< ((16 : Int32) &&& 31)) i = (decide (16 ≤ i) && bt x (i - 16)) := b_shl 16 (by omega) x hi
theorem b_shl24 (x : Int32) {i : Nat} (hi : i < 32) : bt (x <<< ((24 : Int32) &&& 31)) i = (decide (24 ≤ i) && bt x (i - 24)) := b_shl 24 (by omega) x hi
theorem b_sshr8 (x : Int32) {i : Nat} (hi : i < 32) : bt (x >>> ((8 : Int32) &&& 31)) i = if 8 + i < 32 then bt x (8 + i) else bt x 31 := b_sshr 8 (by omega) x hi
/-! ===== nI under and, xor, >>>, one bit, 65535 ===== -/
/-- whether one is in a set, as it is asked -/
def bitW (x : Int32) (p : Nat) : Bool := decide ((x >>> (nI p &&& 31)) &&& 1 = 1)
theorem b_1 : ∀ i, i < 32 → bt 1 i = decide (i = 0) := by decide +kernel
theorem bitW_bt {x : Int32} {p : Nat} (hp : p < 32) : bitW x p = bt x p := by
  have h0 : ∀ y : Int32, (y &&& 1 = 1) ↔ bt y 0 = true := by
    intro y
    constructor
    · intro h
      have := b_and y 1 0
      rw [h, b_1 0 (by decide)] at this
      simpa using this.symm
    · intro h
      apply b_ext
      intro i hi
      rw [b_and, b_1 i hi]
      by_cases e : i = 0
      · subst e; simp [h]
      · simp [e]
  unfold bitW
  rw [Bool.eq_iff_iff, decide_eq_true_eq, h0, b_sshr p hp x (by decide), if_pos (by omega)]
  rfl
theorem bt_bit1 {n i : Nat} (hn : n < 32) (hi : i < 32) : bt (bit1 (nI n)) i = decide (i = n) := by
  rw [b_shl n hn 1 hi]
  by_cases h : n ≤ i
  · rw [b_1 _ (by omega)]
    by_cases e : i = n
    · subst e; simp
    · simp [e, h]; omega
  · simp [h]; omega
theorem bt_msk (f : Nat → Bool) : ∀ (n : Nat), n ≤ 32 → ∀ i, i < 32 → bt (msk f n) i = (decide (i < n) && f i)
  | 0, _, i, _ => by simp [msk, b_0]
  | n + 1, hn, i, hi => by
    have ih := bt_msk f n (by omega) i hi
    simp only [msk]
    split
    · rename_i hf
      rw [b_or, ih, bt_bit1 (by omega) hi]
      by_cases e : i = n
      · subst e; simp [hf]
      · have : decide (i < n) = decide (i < n + 1) := by congr 1; apply propext; omega
        simp [e, this]
    · rename_i hf
      rw [ih]
      by_cases e : i = n
      · subst e; simp at hf; simp [hf]
      · have : decide (i < n) = decide (i < n + 1) := by congr 1; apply propext; omega
        rw [this]
theorem msk_ext {f g : Nat → Bool} {n : Nat} (hn : n ≤ 32) (h : msk f n = msk g n) : ∀ j, j < n → f j = g j := by
  intro j hj
  have := congrArg (fun x => bt x j) h
  simp only [bt_msk f n hn j (by omega), bt_msk g n hn j (by omega)] at this
  simpa [hj] using this
theorem msk_0 {n : Nat} : msk (fun _ => false) n = 0 := by
  induction n with
  | zero => rfl
  | succ n ih => simp [msk, ih]
theorem msk_z {f : Nat → Bool} {n : Nat} (hn : n ≤ 32) : msk f n = 0 ↔ ∀ j, j < n → f j = false := by
  constructor
  · intro h j hj
    have := msk_ext hn (h.trans (msk_0 (n := n)).symm) j hj
    exact this
  · intro h
    rw [msk_congr n (g := fun _ => false) h, msk_0]
theorem msk_and {f g : Nat → Bool} {n : Nat} (hn : n ≤ 32) : msk f n &&& msk g n = msk (fun j => f j && g j) n := by
  apply b_ext
  intro i hi
  rw [b_and, bt_msk _ n hn i hi, bt_msk _ n hn i hi, bt_msk _ n hn i hi]
  by_cases h : i < n <;> simp [h]
/-- a set, and whom another one names -/
theorem msk_andx {f : Nat → Bool} {n : Nat} (hn : n ≤ 32) (x : Int32) : msk f n &&& x = msk (fun j => f j && bitW x j) n := by
  apply b_ext
  intro i hi
  rw [b_and, bt_msk _ n hn i hi, bt_msk _ n hn i hi, bitW_bt hi]
  by_cases h : i < n <;> simp [h]
theorem bitW_and (x y : Int32) {p : Nat} (hp : p < 32) : bitW (x &&& y) p = (bitW x p && bitW y p) := by
  rw [bitW_bt hp, bitW_bt hp, bitW_bt hp, b_and]
theorem bitW_or (x y : Int32) {p : Nat} (hp : p < 32) : bitW (x ||| y) p = (bitW x p || bitW y p) := by
  rw [bitW_bt hp, bitW_bt hp, bitW_bt hp, b_or]
theorem bitW_msk {f : Nat → Bool} {n p : Nat} (hn : n ≤ 32) (hp : p < 32) : bitW (msk f n) p = (decide (p < n) && f p) := by
  rw [bitW_bt hp, bt_msk f n hn p hp]
theorem bitW_mskn {f : Nat → Bool} {n p : Nat} (hn : n ≤ 32) (hp : p < n) : bitW (msk f n) p = f p := by
  rw [bitW_msk hn (by omega)]
  simp [hp]
theorem bitW_bit1 {n p : Nat} (hn : n < 32) (hp : p < 32) : bitW (bit1 (nI n)) p = decide (p = n) := by
  rw [bitW_bt hp, bt_bit1 hn hp]
theorem bitW_0 {p : Nat} (hp : p < 32) : bitW 0 p = false := by
  rw [bitW_bt hp, b_0]
/-- without one -/
theorem msk_out {f : Nat → Bool} {n k : Nat} (hn : n ≤ 32) (hk : k < 32) : msk f n &&& (bit1 (nI k) ^^^ (-1)) = msk (fun j => f j && decide (j ≠ k)) n := by
  apply b_ext
  intro i hi
  rw [b_and, b_xor, bt_bit1 hk hi, b_m1 i hi, bt_msk _ n hn i hi, bt_msk _ n hn i hi]
  by_cases h : i < n <;> by_cases e : i = k <;> simp [h, e]
/-- with one more -/
theorem msk_in {f : Nat → Bool} {n k : Nat} (hn : n ≤ 32) (hk : k < n) : msk f n ||| bit1 (nI k) = msk (fun j => f j || decide (j = k)) n := by
  apply b_ext
  intro i hi
  rw [b_or, bt_bit1 (by omega) hi, bt_msk _ n hn i hi, bt_msk _ n hn i hi]
  by_cases h : i < n <;> by_cases e : i = k <;> simp [h, e] <;> omega
