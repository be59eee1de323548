/-! ===== the tape ===== -/
/-- the byte k of a word -/
def byN (w : Int32) (k : Nat) : Nat := w.toBitVec.toNat / 2 ^ (24 - 8 * k) % 256
theorem by_lt {w : Int32} {k : Nat} : byN w k < 256 := Nat.mod_lt _ (by omega)
/-- as a signed byte -/
def sB (b : Nat) : Int32 := (nI b).toInt8.toInt32
theorem b_255' : ∀ i, i < 32 → bt 255 i = decide (i < 8) := by decide +kernel
theorem sh_u {w : Int32} {n : Nat} (hn : n < 32) : ((w.toUInt32 >>> ((nI n).toUInt32 &&& Int32.toUInt32 31)).toInt32) &&& 255 = nI (w.toBitVec.toNat / 2 ^ n % 256) := by
  apply Int32.toBitVec_inj.mp
  apply BitVec.eq_of_toNat_eq
  rw [Int32.toBitVec_and, BitVec.toNat_and, pk_ushr w (nI n) n (s_u n hn)]
  show _ &&& 255 = (BitVec.ofNat 32 _).toNat
  rw [show (255 : Nat) = 2 ^ 8 - 1 by rfl, Nat.and_two_pow_sub_one_eq_mod, BitVec.toNat_ofNat]
  have : w.toBitVec.toNat / 2 ^ n % 256 < 256 := Nat.mod_lt _ (by omega)
  omega
theorem sh_s {w : Int32} {n : Nat} (hn : n ≤ 24) : (w >>> (nI n &&& 31)) &&& 255 = nI (w.toBitVec.toNat / 2 ^ n % 256) := by
  rw [← sh_u (by omega)]
  apply b_ext
  intro i hi
  rw [b_and, b_and, b_255' i hi]
  by_cases q : i < 8
  · rw [b_sshr n (by omega) w hi, b_ushr n (by omega) w i, if_pos (by omega)]
  · rw [decide_eq_false q, Bool.and_false, Bool.and_false]
theorem i8_and (x : Int32) : (x &&& 255).toInt8 = x.toInt8 := by
  apply Int8.toBitVec_inj.mp
  rw [Int32.toBitVec_toInt8, Int32.toBitVec_toInt8]
  apply BitVec.eq_of_getLsbD_eq
  intro i hi
  have := b_255' i (by omega)
  have h2 := b_and x 255 i
  unfold bt at this h2
  simp only [BitVec.getLsbD_setWidth, BitVec.getLsbD_signExtend]
  rw [h2, this]
  simp [hi]
  rw [if_pos (by omega), if_pos (by omega)]
theorem sh_c {w : Int32} {n : Nat} (hn : n < 32) : vp_nar .byte (((w.toUInt32 >>> ((nI n).toUInt32 &&& Int32.toUInt32 31)).toInt32).toInt8.toInt32) = sB (w.toBitVec.toNat / 2 ^ n % 256) := by
  rw [vp_nar_byte]
  unfold sB
  rw [← sh_u hn, i8_and]
  rw [Int8.toInt8_toInt32]
def wdS (a b c d e : Int32) (k : Nat) : Int32 := if k < 4 then a else if k < 8 then b else if k < 12 then c else if k < 16 then d else e
/-- the tape with 20 bytes more -/
def feS (tp : Nat → Nat) (L : Nat) (a b c d e : Int32) (i : Nat) : Nat := if i < L then tp i else byN (wdS a b c d e (i - L)) ((i - L) % 4)
/-- the tape as the class has it, as the model has it -/
def CT (M : Nat → Fn) (L : Nat) (tp : Nat → Nat) : Prop := M 1 1 = nI L ∧ ∀ i, i < L → M 2 i = sB (tp i)
def MT (M : Nat → Fn) (L : Nat) (tp : Nat → Nat) : Prop := M 64 18 = nI L ∧ ∀ i, i < L → M 80 i = nI (tp i)
