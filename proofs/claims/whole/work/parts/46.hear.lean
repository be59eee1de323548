/-! ===== how tunes could go from one to the other one ===== -/
theorem bitW_nm {x : Int32} {p : Nat} (hp : p < 32) : bitW (x ^^^ (-1)) p = !(bitW x p) := by
  rw [bitW_bt hp, bitW_bt hp, b_xor, b_m1 p hp]
  cases bt x p <;> rfl
def rS (F : Fa) (pl : Fn) (a : Nat) : Nat → Nat → Bool
  | 0, q => decide (q = a)
  | k + 1, q => rS F pl a k q || decide (heardS F pl q &&& msk (rS F pl a k) (fN F) ≠ 0)
/-- who hears one of some -/
def whS (F : Fa) (pl : Fn) (x : Int32) : Int32 := msk (fun q => decide (heardS F pl q &&& x ≠ 0)) (fN F)
theorem r_0 {F : Fa} (hF : okF F) {pl : Fn} {a : Nat} (ha : a < fN F) : bit1 (nI a) = msk (rS F pl a 0) (fN F) := by
  have hn := hF.n
  have := msk_in (f := fun _ => false) (n := fN F) (k := a) (by omega) ha
  rw [msk_0] at this
  rw [show (0 : Int32) ||| bit1 (nI a) = bit1 (nI a) by rw [Int32.or_comm, or_0]] at this
  rw [this]
  apply msk_congr
  intro j hj
  simp [rS]
theorem r_s {F : Fa} (hF : okF F) {pl : Fn} {a k : Nat} : msk (rS F pl a k) (fN F) ||| whS F pl (msk (rS F pl a k) (fN F)) = msk (rS F pl a (k + 1)) (fN F) := by
  have hn := hF.n
  unfold whS
  rw [msk_or (by omega)]
  rfl
def cB (f : Nat → Bool) : Nat → Nat
  | 0 => 0
  | n + 1 => cB f n + (if f n then 1 else 0)
theorem cB_le (f : Nat → Bool) : ∀ n, cB f n ≤ n
  | 0 => Nat.le_refl _
  | n + 1 => by
    have := cB_le f n
    simp only [cB]
    split <;> omega
theorem cB_mono {f g : Nat → Bool} (h : ∀ j, f j = true → g j = true) : ∀ n, cB f n ≤ cB g n
  | 0 => Nat.le_refl _
  | n + 1 => by
    have := cB_mono h n
    simp only [cB]
    cases hf : f n with
    | false => simp; split <;> omega
    | true => rw [h n hf]; simp; omega
theorem cB_lt {f g : Nat → Bool} (h : ∀ j, f j = true → g j = true) : ∀ n, (∃ j, j < n ∧ g j = true ∧ f j = false) → cB f n < cB g n
  | 0, ⟨j, hj, _⟩ => by omega
  | n + 1, ⟨j, hj, h1, h2⟩ => by
    simp only [cB]
    by_cases e : j = n
    · subst e
      have := cB_mono h j
      rw [h1, h2]
      simp
      omega
    · have := cB_lt h n ⟨j, by omega, h1, h2⟩
      cases hf : f n with
      | false => simp; split <;> omega
      | true => rw [h n hf]; simp; omega
theorem r_mono {F : Fa} {pl : Fn} {a k q : Nat} (h : rS F pl a k q = true) : rS F pl a (k + 1) q = true := by simp only [rS]; rw [h]; rfl
/-- where nothing is new, nothing is new any more -/
theorem r_stab {F : Fa} {pl : Fn} {a k : Nat} (h : ∀ q, q < fN F → rS F pl a (k + 1) q = rS F pl a k q) : ∀ i q, q < fN F → rS F pl a (k + i) q = rS F pl a k q
  | 0, _, _ => rfl
  | i + 1, q, hq => by
    have ih := r_stab h i
    have e : msk (rS F pl a (k + i)) (fN F) = msk (rS F pl a k) (fN F) := msk_congr _ ih
    have : rS F pl a (k + (i + 1)) q = (rS F pl a (k + i) q || decide (heardS F pl q &&& msk (rS F pl a (k + i)) (fN F) ≠ 0)) := rfl
    rw [this, e, ih q hq]
    exact h q hq
theorem r_grow {F : Fa} {pl : Fn} {a b : Nat} (ha : a < fN F) (hb : b < fN F) {K : Nat} (hK : rS F pl a K b = true) (h : ∀ j, j < K → rS F pl a j b = false) : ∀ j, j ≤ K → j + 1 ≤ cB (rS F pl a j) (fN F)
  | 0, _ => by
    have := cB_lt (f := fun _ => false) (g := rS F pl a 0) (by simp) (fN F) ⟨a, ha, by simp [rS], rfl⟩
    omega
  | j + 1, hj => by
    have ih := r_grow ha hb hK h j (by omega)
    have : cB (rS F pl a j) (fN F) < cB (rS F pl a (j + 1)) (fN F) := by
      apply cB_lt (fun q hq => r_mono hq)
      apply Classical.byContradiction
      intro hn
      have st : ∀ q, q < fN F → rS F pl a (j + 1) q = rS F pl a j q := by
        intro q hq
        cases e1 : rS F pl a j q with
        | true => exact r_mono e1
        | false =>
          cases e2 : rS F pl a (j + 1) q with
          | false => rfl
          | true => exact absurd ⟨q, hq, e2, e1⟩ hn
      have := r_stab st (K - j) b hb
      rw [show j + (K - j) = K by omega, hK, h j (by omega)] at this
      cases this
    omega
theorem fst_no {f : Nat → Bool} : ∀ {n : Nat}, fstS f n = none → ∀ j, j < n → f j = false
  | 0, _, j, hj => by omega
  | n + 1, h, j, hj => by
    have h0 : fstS f n = none := by
      cases e : fstS f n with
      | none => rfl
      | some t => rw [fst_some e (by omega : n ≤ n + 1)] at h; cases h
    rw [fst_nx h0] at h
    by_cases e : j = n
    · subst e
      cases hf : f j with
      | false => rfl
      | true => rw [hf] at h; cases h
    · exact fst_no h0 j (by omega)
theorem fst_non {f : Nat → Bool} : ∀ {n : Nat}, (∀ j, j < n → f j = false) → fstS f n = none
  | 0, _ => rfl
  | n + 1, h => by
    rw [fst_nx (fst_non (fun j hj => h j (by omega))), h n (by omega)]
    rfl
theorem r_fst {F : Fa} {pl : Fn} {a b : Nat} (ha : a < fN F) (hb : b < fN F) {m : Nat} (hm : fN F ≤ m) : fiS (fun k => rS F pl a k b) m = fiS (fun k => rS F pl a k b) (fN F) := by
  cases e : fstS (fun k => rS F pl a k b) (fN F) with
  | some t => rw [fi_some e hm, fi_some e (Nat.le_refl _)]
  | none =>
    rw [fi_none e]
    have h0 := fst_no e
    apply fi_none
    have key : ∀ k, rS F pl a k b = false := by
      intro k
      induction k using Nat.strongRecOn with
      | ind k ih =>
        cases hk : rS F pl a k b with
        | false => rfl
        | true =>
          by_cases w : k < fN F
          · rw [h0 k w] at hk; cases hk
          · have := r_grow ha hb hk ih k (Nat.le_refl _)
            have := cB_le (rS F pl a k) (fN F)
            omega
    exact fst_non (fun j _ => key j)
/-- how many hums from one to the other one -/
def stepS (F : Fa) (pl : Fn) (a b : Nat) : Int32 := fiS (fun k => rS F pl a k b) (fN F)
def frstS (F : Fa) (pl : Fn) (p : Nat) : Bool := decide (fstS (fun q => decide (stepS F pl p q ≠ -1) && decide (stepS F pl q p ≠ -1)) p = none)
def partS (F : Fa) (pl : Fn) : Int32 := ctS (frstS F pl) (fN F)
def alB (f : Nat → Bool) : Nat → Bool
  | 0 => true
  | k + 1 => alB f k && f k
theorem al_t {f : Nat → Bool} : ∀ {n : Nat}, alB f n = true ↔ ∀ j, j < n → f j = true
  | 0 => by simp [alB]
  | n + 1 => by
    simp only [alB, Bool.and_eq_true, al_t (n := n)]
    constructor
    · intro h j hj
      by_cases e : j = n
      · rw [e]; exact h.2
      · exact h.1 j (by omega)
    · exact fun h => ⟨fun j hj => h j (by omega), h n (by omega)⟩
theorem al_f {f : Nat → Bool} {j n : Nat} (hj : j < n) (h : f j = false) : alB f n = false := by
  cases e : alB f n with
  | false => rfl
  | true => rw [al_t.mp e j hj] at h; cases h
/-- whether all others hear one of this set -/
def goodS (F : Fa) (pl : Fn) (k : Nat) : Bool := alB (fun p => bitW (nI k) p || decide (heardS F pl p &&& nI k ≠ 0)) (fN F)
def fewS (F : Fa) (pl : Fn) : Nat → Nat
  | 0 => 2 ^ fN F - 1
  | k + 1 => if decide (pcN k < pcN (fewS F pl k)) && goodS F pl k then k else fewS F pl k
theorem full_msk : ∀ n, n ≤ 8 → bit1 (nI n) - 1 = msk (fun _ => true) n ∧ bit1 (nI n) - 1 = nI (2 ^ n - 1) ∧ pcN (2 ^ n - 1) = n ∧ bit1 (nI n) = nI (2 ^ n) ∧ 2 ^ n ≤ 256 := by decide +kernel
theorem pc_full : ∀ n, n ≤ 8 → ∀ k, k < 2 ^ n - 1 → pcN k < n := by decide +kernel
theorem pc_lt8 : ∀ n, n ≤ 8 → ∀ k, k < 2 ^ n → pcN k ≤ n := by decide +kernel
theorem few_lt {F : Fa} {pl : Fn} : ∀ k, k ≤ 2 ^ fN F → fewS F pl k < 2 ^ fN F
  | 0, _ => by
    have := Nat.two_pow_pos (fN F)
    simp only [fewS]
    omega
  | k + 1, h => by
    simp only [fewS]
    split
    · omega
    · exact few_lt k (by omega)
theorem or_as (x y z : Int32) : x ||| y ||| z = x ||| (y ||| z) := Int32.or_assoc x y z
theorem heardP {F : Fa} (hF : okF F) {pl : Fn} {k : Nat} (h : ((whS F pl (nI k)) &&& ((bit1 (nI (fN F)) - 1) &&& (nI k ^^^ (-1))) = (bit1 (nI (fN F)) - 1) &&& (nI k ^^^ (-1)))) : goodS F pl k = true := by
  have hn := hF.n
  rw [(full_msk (fN F) hF.n).1] at h
  unfold whS at h
  rw [msk_andx (by omega), msk_andx (by omega)] at h
  have h2 := msk_ext (by omega) h
  unfold goodS
  rw [al_t]
  intro j hj
  have h3 := h2 j hj
  rw [bitW_mskn (by omega) hj] at h3
  rw [Bool.true_and, bitW_nm (by omega)] at h3
  cases e : bitW (nI k) j with
  | true => rfl
  | false => rw [e] at h3; simpa using h3
theorem heardN {F : Fa} (hF : okF F) {pl : Fn} {k : Nat} (h : goodS F pl k = true) : ((whS F pl (nI k)) &&& ((bit1 (nI (fN F)) - 1) &&& (nI k ^^^ (-1))) = (bit1 (nI (fN F)) - 1) &&& (nI k ^^^ (-1))) := by
  have hn := hF.n
  rw [(full_msk (fN F) hF.n).1]
  unfold whS
  rw [msk_andx (by omega), msk_andx (by omega)]
  apply msk_congr
  intro j hj
  rw [bitW_mskn (by omega) hj, Bool.true_and, bitW_nm (by omega)]
  have h3 := al_t.mp h j hj
  cases e : bitW (nI k) j with
  | true => simp
  | false => rw [e] at h3; simpa using h3
theorem full_good {F : Fa} (hF : okF F) {pl : Fn} : goodS F pl (2 ^ fN F - 1) = true := by
  have hn := hF.n
  have hb := full_msk (fN F) hF.n
  unfold goodS
  rw [al_t]
  intro j hj
  rw [← hb.2.1, hb.1, bitW_mskn (by omega) hj]
  rfl
