/-! ===== thunder, a game, years ===== -/
theorem nI_div {a b : Nat} (ha : a < 2 ^ 31) (hb : b < 2 ^ 31) : nI a / nI b = nI (a / b) := by
  have hq : a / b ≤ a := Nat.div_le_self a b
  apply Int32.toInt_inj.mp
  rw [Int32.toInt_div, nI_toInt ha, nI_toInt hb, nI_toInt (by omega), ← Int.ofNat_tdiv]
  generalize a / b = q at hq
  rw [Int.bmod_def, if_pos (by omega)]
  omega
theorem nI_sub {a b : Nat} (h : b ≤ a) : nI a - nI b = nI (a - b) := by
  obtain ⟨c, rfl⟩ : ∃ c, a = c + b := ⟨a - b, by omega⟩
  rw [← nI_add, Int32.add_sub_cancel, Nat.add_sub_cancel]
theorem nI_rem {a b : Nat} (ha : a < 2 ^ 31) (hb : b < 2 ^ 31) : nI a - nI a / nI b * nI b = nI (a % b) := by
  have e := Nat.div_add_mod a b
  have : a / b * b ≤ a := Nat.div_mul_le_self a b
  rw [nI_div ha hb, pk_mul, nI_sub this]
  congr 1
  rw [Nat.mul_comm] at this ⊢
  omega
def thS (F : Fa) (s : Sc) (c : Nat) : Nat → Sc
  | 0 => s
  | k + 1 => hourS F nl (if bitW (nI c) k then allS F (fun _ => true) (thS F s c k) (fM F) else thS F s c k)
def wgS (w : Int32) (c : Nat) : Nat → Int32
  | 0 => 1
  | k + 1 => wgS w c k * (if bitW (nI c) k then w else 10 - w)
def lkS (F : Fa) (s : Sc) (p t n : Nat) (w : Int32) : Nat → Int32
  | 0 => 0
  | c + 1 => if decide (sOw (thS F s c n) t = nI p) then lkS F s p t n w c + wgS w c n else lkS F s p t n w c
def aThu (F : Fa) (s : Sc) (x y z w : Int32) : An := if isP (fN F) x && isP (fM F) y then (if inR z 1 5 && inR w 0 10 then .inl (lkS F s x.toNatClampNeg y.toNatClampNeg z.toNatClampNeg w (2 ^ z.toNatClampNeg)) else .inr true) else .inr false
theorem th_ok {F : Fa} {s : Sc} (hs : okS F s) (c : Nat) : ∀ k, okS F (thS F s c k)
  | 0 => hs
  | k + 1 => by
    simp only [thS]
    split
    · exact ok_hour (ok_all (th_ok hs c k) _)
    · exact ok_hour (th_ok hs c k)
theorem th_br {F : Fa} {s : Sc} {c : Nat} : ∀ k, sBr (thS F s c k) = sBr s
  | 0 => rfl
  | k + 1 => by
    simp only [thS]
    split
    · exact br_hour.trans ((br_all _).trans (th_br k))
    · exact br_hour.trans (th_br k)
theorem th_y {F : Fa} {s : Sc} {c k : Nat} (h : bitW (nI c) k = true) : thS F s c (k + 1) = hourS F nl (allS F (fun _ => true) (thS F s c k) (fM F)) := by simp only [thS]; rw [h]; rfl
theorem th_n {F : Fa} {s : Sc} {c k : Nat} (h : bitW (nI c) k = false) : thS F s c (k + 1) = hourS F nl (thS F s c k) := by simp only [thS]; rw [h]; rfl
theorem wg_y {w : Int32} {c k : Nat} (h : bitW (nI c) k = true) : wgS w c (k + 1) = wgS w c k * w := by simp only [wgS]; rw [h]; rfl
theorem wg_n {w : Int32} {c k : Nat} (h : bitW (nI c) k = false) : wgS w c (k + 1) = wgS w c k * (10 - w) := by simp only [wgS]; rw [h]; rfl
theorem lk_y {F : Fa} {s : Sc} {p t n c : Nat} {w : Int32} (h : sOw (thS F s c n) t = nI p) : lkS F s p t n w (c + 1) = lkS F s p t n w c + wgS w c n := by simp only [lkS]; rw [decide_eq_true h]; rfl
theorem lk_n {F : Fa} {s : Sc} {p t n c : Nat} {w : Int32} (h : ¬ sOw (thS F s c n) t = nI p) : lkS F s p t n w (c + 1) = lkS F s p t n w c := by simp only [lkS]; rw [decide_eq_false h]; rfl
/-- all are named -/
theorem every_W {F : Fa} (hF : okF F) (s : Sc) : allS F (bitW (bit1 (nI (fN F)) - 1)) s (fM F) = allS F (fun _ => true) s (fM F) := by
  have hn := hF.n
  rw [(full_msk (fN F) hF.n).1]
  exact (all_congr (fun p hp => bitW_mskn (by omega) hp) s (fM F)).1
theorem two_le : ∀ n, n ≤ 5 → 2 ^ n ≤ 32 ∧ bit1 (nI n) = nI (2 ^ n) := by decide +kernel
theorem inR_5 {x : Int32} (h : inR x 1 5 = true) : ∃ j, 1 ≤ j ∧ j ≤ 5 ∧ x = nI j := inR_nI1 (n := 5) (by decide) h
/-! a game -/
def hqS (F : Fa) (W : Nat → Bool) (s : Sc) : Nat → Sc
  | 0 => s
  | q + 1 => if W q then husS F (hqS F W s q) q else hqS F W s q
theorem hq_y {F : Fa} {W : Nat → Bool} {s : Sc} {q : Nat} (h : W q = true) : hqS F W s (q + 1) = husS F (hqS F W s q) q := by simp only [hqS]; rw [h]; rfl
theorem hq_n {F : Fa} {W : Nat → Bool} {s : Sc} {q : Nat} (h : W q = false) : hqS F W s (q + 1) = hqS F W s q := by simp only [hqS]; rw [h]; rfl
theorem hq_skip {F : Fa} {W : Nat → Bool} {s : Sc} {a : Nat} : ∀ d, (∀ q, a ≤ q → q < a + d → W q = false) → hqS F W s (a + d) = hqS F W s a
  | 0, _ => rfl
  | d + 1, h => (hq_n (h (a + d) (by omega) (by omega))).trans (hq_skip d (fun q h1 h2 => h q h1 (by omega)))
theorem hq_ok {F : Fa} {W : Nat → Bool} {s : Sc} (hs : okS F s) : ∀ q, okS F (hqS F W s q)
  | 0 => hs
  | q + 1 => by
    simp only [hqS]
    split
    · exact ok_all (hq_ok hs q) _
    · exact hq_ok hs q
theorem hq_br {F : Fa} {W : Nat → Bool} {s : Sc} : ∀ q, sBr (hqS F W s q) = sBr s
  | 0 => rfl
  | q + 1 => by
    simp only [hqS]
    split
    · exact (br_all _).trans (hq_br q)
    · exact hq_br q
/-- whom a couple hushes -/
def gmW (p o c q : Nat) : Bool := (decide (c / 2 = 1) && decide (q = p)) || (decide (c % 2 = 1) && decide (q = o))
def gm1 (F : Fa) (p c : Nat) (S : Sc) : Sc := if c / 2 = 1 then husS F S p else S
def gm2 (F : Fa) (o c : Nat) (S : Sc) : Sc := if c % 2 = 1 then husS F S o else S
theorem gm_lt {F : Fa} {s : Sc} {p o c n : Nat} (h : p < o) (ho : o < n) : hqS F (gmW p o c) s n = gm2 F o c (gm1 F p c s) := by
  have e1 : hqS F (gmW p o c) s n = hqS F (gmW p o c) s (o + 1) := by
    have := hq_skip (F := F) (W := gmW p o c) (s := s) (a := o + 1) (n - (o + 1)) (fun q h1 h2 => by unfold gmW; simp; omega)
    rw [show o + 1 + (n - (o + 1)) = n by omega] at this
    exact this
  have e2 : hqS F (gmW p o c) s o = hqS F (gmW p o c) s (p + 1) := by
    have := hq_skip (F := F) (W := gmW p o c) (s := s) (a := p + 1) (o - (p + 1)) (fun q h1 h2 => by unfold gmW; simp; omega)
    rw [show p + 1 + (o - (p + 1)) = o by omega] at this
    exact this
  have e3 : hqS F (gmW p o c) s p = s := by
    have := hq_skip (F := F) (W := gmW p o c) (s := s) (a := 0) p (fun q h1 h2 => by unfold gmW; simp; omega)
    rw [Nat.zero_add] at this
    exact this
  rw [e1]
  have a1 : hqS F (gmW p o c) s (p + 1) = gm1 F p c s := by
    unfold gm1
    by_cases w : c / 2 = 1
    · rw [hq_y (by unfold gmW; simp [w]), e3, if_pos w]
    · rw [hq_n (by unfold gmW; simp [w]; omega), e3, if_neg w]
  rw [← a1, ← e2]
  unfold gm2
  by_cases w : c % 2 = 1
  · rw [hq_y (by unfold gmW; simp [w]), if_pos w]
  · rw [hq_n (by unfold gmW; simp [w]; omega), if_neg w]
theorem gm_gt {F : Fa} {s : Sc} {p o c n : Nat} (h : o < p) (hp : p < n) : hqS F (gmW p o c) s n = gm1 F p c (gm2 F o c s) := by
  have e1 : hqS F (gmW p o c) s n = hqS F (gmW p o c) s (p + 1) := by
    have := hq_skip (F := F) (W := gmW p o c) (s := s) (a := p + 1) (n - (p + 1)) (fun q h1 h2 => by unfold gmW; simp; omega)
    rw [show p + 1 + (n - (p + 1)) = n by omega] at this
    exact this
  have e2 : hqS F (gmW p o c) s p = hqS F (gmW p o c) s (o + 1) := by
    have := hq_skip (F := F) (W := gmW p o c) (s := s) (a := o + 1) (p - (o + 1)) (fun q h1 h2 => by unfold gmW; simp; omega)
    rw [show o + 1 + (p - (o + 1)) = p by omega] at this
    exact this
  have e3 : hqS F (gmW p o c) s o = s := by
    have := hq_skip (F := F) (W := gmW p o c) (s := s) (a := 0) o (fun q h1 h2 => by unfold gmW; simp; omega)
    rw [Nat.zero_add] at this
    exact this
  rw [e1]
  have a1 : hqS F (gmW p o c) s (o + 1) = gm2 F o c s := by
    unfold gm2
    by_cases w : c % 2 = 1
    · rw [hq_y (by unfold gmW; simp [w]), e3, if_pos w]
    · rw [hq_n (by unfold gmW; simp [w]; omega), e3, if_neg w]
  rw [← a1, ← e2]
  unfold gm1
  by_cases w : c / 2 = 1
  · rw [hq_y (by unfold gmW; simp [w]), if_pos w]
  · rw [hq_n (by unfold gmW; simp [w]; omega), if_neg w]
def gmS (F : Fa) (s : Sc) (p o c : Nat) : Sc := hrsS F nl (hqS F (gmW p o c) s (fN F)) 8
def gmX (F : Fa) (s : Sc) (p o c q : Nat) : Int32 := cnt (ownS F (sOw (gmS F s p o c)) (nI q))
def gn1 (F : Fa) (s : Sc) (p o c : Nat) : Int32 := 4 * gmX F s p o c p - gmX F s p o c o
def gn2 (F : Fa) (s : Sc) (p o c : Nat) : Int32 := 4 * gmX F s p o c o - gmX F s p o c p
def xr2 (c : Nat) : Nat := if c / 2 = 1 then c - 2 else c + 2
def xr1 (c : Nat) : Nat := if c % 2 = 1 then c - 1 else c + 1
/-- the couple rests: neither gains by another choice -/
def rsS (F : Fa) (s : Sc) (p o c : Nat) : Bool := (decide (sHu s p = -1) || decide (gn1 F s p o (xr2 c) ≤ gn1 F s p o c)) && (decide (sHu s o = -1) || decide (gn2 F s p o (xr1 c) ≤ gn2 F s p o c))
def okc (F : Fa) (s : Sc) (p o c : Nat) : Bool := (decide (c / 2 = 0) || decide (sHu s p ≠ -1)) && (decide (c % 2 = 0) || decide (sHu s o ≠ -1)) && rsS F s p o c
/-- the first couple as 10 by the one's choice, and the other one's -/
def fiC (f : Nat → Bool) (n : Nat) : Int32 := match fstS f n with
  | some c => nI (10 * (c / 2) + c % 2)
  | none => -1
def aGam (F : Fa) (s : Sc) (x y w : Int32) : An := if isP (fN F) x && (isP (fN F) y && isP 2 w) then (if decide (x ≠ y) then .inl (if w = 0 then ctS (okc F s x.toNatClampNeg y.toNatClampNeg) 4 else fiC (okc F s x.toNatClampNeg y.toNatClampNeg) 4) else .inr true) else .inr false
theorem fc_n {f : Nat → Bool} {k : Nat} (h : f k = false) : fiC f (k + 1) = fiC f k := by
  unfold fiC
  cases e : fstS f k with
  | some t => rw [fst_some e (by omega : k ≤ k + 1)]
  | none => rw [fst_nx e, h]; rfl
theorem fc_y {f : Nat → Bool} {k : Nat} (h : f k = true) (hz : fiC f k = -1) (hk : k ≤ 4) : fiC f (k + 1) = nI (10 * (k / 2) + k % 2) := by
  unfold fiC at hz ⊢
  cases e : fstS f k with
  | some t =>
    rw [e] at hz
    have := (fst_lt e).1
    exact absurd hz (nI_m1 (by omega))
  | none => rw [fst_nx e, h]; rfl
theorem fc_k {f : Nat → Bool} {k : Nat} (hz : ¬ fiC f k = -1) : fiC f (k + 1) = fiC f k := by
  unfold fiC at hz ⊢
  cases e : fstS f k with
  | some t => rw [fst_some e (by omega : k ≤ k + 1)]
  | none => rw [e] at hz; exact absurd rfl hz
/-! years -/
def sdS (x : Int32) : Int32 := x * 1103515245 + 12345
def drN (x : Int32) : Nat := x.toBitVec.toNat / 65536 % 32768
def drS (x : Int32) (n : Nat) : Nat := drN x % n
theorem dr_lt (x : Int32) : drN x < 32768 := Nat.mod_lt _ (by omega)
theorem dr_u (x : Int32) : (x.toUInt32 >>> ((16 : Int32).toUInt32 &&& Int32.toUInt32 31)).toInt32 &&& 32767 = nI (drN x) := by
  apply Int32.toBitVec_inj.mp
  apply BitVec.eq_of_toNat_eq
  rw [Int32.toBitVec_and, BitVec.toNat_and, pk_ushr x 16 16 (by decide)]
  show _ &&& 32767 = (BitVec.ofNat 32 (drN x)).toNat
  rw [show (32767 : Nat) = 2 ^ 15 - 1 by rfl, Nat.and_two_pow_sub_one_eq_mod, BitVec.toNat_ofNat, Nat.mod_eq_of_lt (a := drN x) (by have := dr_lt x; omega)]
  rfl
theorem b_32767 : ∀ i, i < 32 → bt 32767 i = decide (i < 15) := by decide +kernel
theorem dr_s (x : Int32) : (x >>> ((16 : Int32) &&& 31)) &&& 32767 = nI (drN x) := by
  rw [← dr_u]
  apply b_ext
  intro i hi
  rw [b_and, b_and, b_32767 i hi]
  by_cases w : i < 15
  · have e1 := b_sshr 16 (by omega) x hi
    have e2 := b_ushr 16 (by omega) x i
    rw [if_pos (by omega)] at e1
    rw [show bt (x >>> ((16 : Int32) &&& 31)) i = bt x (16 + i) from e1, show bt ((x.toUInt32 >>> ((16 : Int32).toUInt32 &&& Int32.toUInt32 31)).toInt32) i = bt x (16 + i) from e2]
  · rw [decide_eq_false w, Bool.and_false, Bool.and_false]
def chA (F : Fa) (x : Int32) : Int32 := if drS (sdS x) 7 = 0 ∧ 0 < fM F then sdS (sdS x) else if drS (sdS x) 7 = 1 ∧ 0 < fN F then sdS (sdS x) else if drS (sdS x) 7 = 2 ∧ 0 < fN F then sdS (sdS (sdS x)) else sdS x
def chB (F : Fa) (x : Int32) (S : Sc) : Sc := if drS (sdS x) 7 = 0 ∧ 0 < fM F then allS F (bitW (humS F (sHu S) (nI (drS (sdS (sdS x)) (fM F))))) S (fM F) else if drS (sdS x) 7 = 1 ∧ 0 < fN F then husS F S (drS (sdS (sdS x)) (fN F)) else if drS (sdS x) 7 = 2 ∧ 0 < fN F then plS S (drS (sdS (sdS x)) (fN F)) (nI (drS (sdS (sdS (sdS x))) 31)) else S
def chD (F : Fa) (x : Int32) (S : Sc) : Int32 := if drS (sdS x) 7 = 0 ∧ 0 < fM F then allD F (bitW (humS F (sHu S) (nI (drS (sdS (sdS x)) (fM F))))) S (fM F) else if drS (sdS x) 7 = 1 ∧ 0 < fN F then allD F (bitW (bit1 (nI (drS (sdS (sdS x)) (fN F))))) S (fM F) else if drS (sdS x) 7 = 2 ∧ 0 < fN F then 0 else 0
def yrX (F : Fa) (x : Int32) : Nat → Int32
  | 0 => x
  | k + 1 => chA F (yrX F x k)
def yrB (F : Fa) (x : Int32) (s : Sc) : Nat → Sc
  | 0 => s
  | k + 1 => hourS F nl (chB F (yrX F x k) (yrB F x s k))
def yrD (F : Fa) (x : Int32) (s : Sc) : Nat → Int32
  | 0 => 0
  | k + 1 => yrD F x s k + chD F (yrX F x k) (yrB F x s k) + hourD F (chB F (yrX F x k) (yrB F x s k))
def aYea (F : Fa) (s : Sc) (x y w : Int32) : An := if isP 3 w then (if inR y 0 60 then .inl (if w = 0 then yrD F x s y.toNatClampNeg else if w = 1 then cnt (ownS F (sOw (yrB F x s y.toNatClampNeg)) (-1)) else cnt (msk (fun p => decide (sHu (yrB F x s y.toNatClampNeg) p ≠ -1)) (fN F))) else .inr true) else .inr false
theorem ch_ok {F : Fa} {x : Int32} {S : Sc} (hs : okS F S) : okS F (chB F x S) := by
  unfold chB
  split
  · exact ok_all hs _
  · split
    · exact ok_all hs _
    · split
      · exact ok_pl hs _ (by have := Nat.mod_lt (drN (sdS (sdS (sdS x)))) (show 31 > 0 by omega); unfold drS; omega)
      · exact hs
theorem ch_br {F : Fa} {x : Int32} {S : Sc} : sBr (chB F x S) = sBr S := by
  unfold chB
  split
  · exact br_all _
  · split
    · exact br_all _
    · split <;> rfl
theorem yr_ok {F : Fa} {x : Int32} {s : Sc} (hs : okS F s) : ∀ k, okS F (yrB F x s k)
  | 0 => hs
  | k + 1 => ok_hour (ch_ok (yr_ok hs k))
theorem yr_br {F : Fa} {x : Int32} {s : Sc} : ∀ k, sBr (yrB F x s k) = sBr s
  | 0 => rfl
  | k + 1 => br_hour.trans (ch_br.trans (yr_br k))
theorem hum_one {F : Fa} (hF : okF F) {s : Sc} {t : Nat} (ht : t < fM F) : allS F (bitW (humS F (sHu s) (nI t))) s (fM F) = tunS F (bitW (humS F (sHu s) (nI t))) s t ∧ allD F (bitW (humS F (sHu s) (nI t))) s (fM F) = tunD F (bitW (humS F (sHu s) (nI t))) s t := by
  have := all_one hF ht (W := bitW (humS F (sHu s) (nI t))) (s := s) (fun p hp h => by rw [hum_w hF hp] at h; exact of_decide_eq_true h) (fM F) (Nat.le_refl _)
  rw [if_pos ht, if_pos ht] at this
  exact this
