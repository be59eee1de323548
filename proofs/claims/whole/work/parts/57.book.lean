/-! ===== what is written down ===== -/
/-- acts, the states ahead of them; how many sights, who, what tune, in how many hours; what was refused -/
abbrev Bk : Type := Nat × (Nat → Sc) × Nat × (Nat → Nat) × Fn × (Nat → Nat) × Fn
abbrev bkA (B : Bk) : Nat := B.1
abbrev bkS (B : Bk) : Nat → Sc := B.2.1
abbrev bkG (B : Bk) : Nat := B.2.2.1
abbrev bkP (B : Bk) : Nat → Nat := B.2.2.2.1
abbrev bkT (B : Bk) : Fn := B.2.2.2.2.1
abbrev bkH (B : Bk) : Nat → Nat := B.2.2.2.2.2.1
abbrev bkR (B : Bk) : Fn := B.2.2.2.2.2.2
def CB (o : Nat) (M : Nat → Fn) (F : Fa) (B : Bk) : Prop := M o 2 = nI (bkA B) ∧ M o 4 = nI (bkG B) ∧ (∀ i, i < bkA B → SavC (M (o + 2)) (47 * i) F (bkS B i)) ∧ (∀ i, i < bkG B → M (o + 3) (3 * i) = nI (bkP B i) ∧ M (o + 3) (3 * i + 1) = bkT B i ∧ M (o + 3) (3 * i + 2) = nI (bkH B i)) ∧ (∀ j, j < 3 → M (o + 4) j = bkR B j)
def MB (k1 k2 r0 r1 r2 r3 r4 : Nat) (M : Nat → Fn) (F : Fa) (B : Bk) : Prop := M 64 k1 = nI (bkA B) ∧ M 64 k2 = nI (bkG B) ∧ (∀ i, i < bkA B → SavM (M r0) (47 * i) F (bkS B i)) ∧ (∀ i, i < bkG B → M r1 i = nI (bkP B i) ∧ M r2 i = bkT B i ∧ M r3 i = nI (bkH B i)) ∧ (∀ j, j < 3 → M r4 j = bkR B j)
abbrev MB1 (M : Nat → Fn) (F : Fa) (B : Bk) : Prop := MB 37 38 87 92 93 94 78 M F B
abbrev MB2 (M : Nat → Fn) (F : Fa) (B : Bk) : Prop := MB 55 56 100 101 102 103 104 M F B
def okB (F : Fa) (br : Fn) (B : Bk) : Prop := bkA B ≤ 40 ∧ bkG B ≤ 8 ∧ (∀ i, i < bkA B → okS F (bkS B i) ∧ sBr (bkS B i) = br) ∧ (∀ i, i < bkG B → bkP B i < fN F ∧ 1 ≤ bkH B i ∧ bkH B i ≤ 20)
def kpB (B : Bk) (s : Sc) : Bk := if bkA B = 40 then (40, (fun i => if i < 39 then bkS B (i + 1) else s), B.2.2) else (bkA B + 1, (fun i => if i = bkA B then s else bkS B i), B.2.2)
def unB (B : Bk) : Bk := (bkA B - 1, B.2)
def updN (f : Nat → Nat) (k x : Nat) : Nat → Nat := fun i => if i = k then x else f i
def seB (B : Bk) (p : Nat) (t : Int32) (n : Nat) : Bk := (bkA B, bkS B, bkG B + 1, updN (bkP B) (bkG B) p, upd (bkT B) (bkG B) t, updN (bkH B) (bkG B) n, bkR B)
def rfB (B : Bk) (j : Nat) : Bk := (bkA B, bkS B, bkG B, bkP B, bkT B, bkH B, upd (bkR B) j (bkR B j + 1))
def fgB (B : Bk) : Bk := (bkA B, bkS B, 0, bkP B, bkT B, bkH B, bkR B)
def clB (B : Bk) : Bk := (0, bkS B, 0, bkP B, bkT B, bkH B, bkR B)
theorem CB_fr {o : Nat} {M M1 : Nat → Fn} {F : Fa} {B : Bk} (h : CB o M F B) (e0 : M1 o = M o) (e2 : M1 (o + 2) = M (o + 2)) (e3 : M1 (o + 3) = M (o + 3)) (e4 : M1 (o + 4) = M (o + 4)) : CB o M1 F B := by
  unfold CB at h ⊢
  rw [e0, e2, e3, e4]
  exact h
theorem MB_fr {k1 k2 r0 r1 r2 r3 r4 : Nat} {M M1 : Nat → Fn} {F : Fa} {B : Bk} (h : MB k1 k2 r0 r1 r2 r3 r4 M F B) (a1 : M1 64 k1 = M 64 k1) (a2 : M1 64 k2 = M 64 k2) (e0 : M1 r0 = M r0) (e1 : M1 r1 = M r1) (e2 : M1 r2 = M r2) (e3 : M1 r3 = M r3) (e4 : M1 r4 = M r4) : MB k1 k2 r0 r1 r2 r3 r4 M1 F B := by
  unfold MB at h ⊢
  rw [a1, a2, e0, e1, e2, e3, e4]
  exact h
theorem okB_kp {F : Fa} {br : Fn} {B : Bk} {s : Sc} (h : okB F br B) (hs : okS F s) (hb : sBr s = br) : okB F br (kpB B s) := by
  obtain ⟨h1, h2, h3, h4⟩ := h
  unfold kpB
  split
  · refine ⟨Nat.le_refl _, h2, fun i hi => ?_, h4⟩
    show okS F (if i < 39 then bkS B (i + 1) else s) ∧ sBr (if i < 39 then bkS B (i + 1) else s) = br
    split
    · exact h3 (i + 1) (by omega)
    · exact ⟨hs, hb⟩
  · refine ⟨by show bkA B + 1 ≤ 40; omega, h2, fun i hi => ?_, h4⟩
    replace hi : i < bkA B + 1 := hi
    show okS F (if i = bkA B then s else bkS B i) ∧ sBr (if i = bkA B then s else bkS B i) = br
    split
    · exact ⟨hs, hb⟩
    · exact h3 i (by omega)
theorem okB_un {F : Fa} {br : Fn} {B : Bk} (h : okB F br B) : okB F br (unB B) := ⟨by have := h.1; show bkA B - 1 ≤ 40; omega, h.2.1, fun i hi => h.2.2.1 i (by replace hi : i < bkA B - 1 := hi; omega), h.2.2.2⟩
theorem okB_rf {F : Fa} {br : Fn} {B : Bk} (h : okB F br B) (j : Nat) : okB F br (rfB B j) := h
theorem okB_fg {F : Fa} {br : Fn} {B : Bk} (h : okB F br B) : okB F br (fgB B) := ⟨h.1, by show 0 ≤ 8; omega, h.2.2.1, fun i hi => absurd hi (Nat.not_lt_zero i)⟩
theorem okB_se {F : Fa} {br : Fn} {B : Bk} (h : okB F br B) {p n : Nat} {t : Int32} (hg : bkG B < 8) (hp : p < fN F) (h1 : 1 ≤ n) (h2 : n ≤ 20) : okB F br (seB B p t n) := by
  refine ⟨h.1, by show bkG B + 1 ≤ 8; omega, h.2.2.1, fun i hi => ?_⟩
  replace hi : i < bkG B + 1 := hi
  show updN (bkP B) (bkG B) p i < fN F ∧ 1 ≤ updN (bkH B) (bkG B) n i ∧ updN (bkH B) (bkG B) n i ≤ 20
  unfold updN
  by_cases e : i = bkG B
  · rw [if_pos e, if_pos e]
    exact ⟨hp, h1, h2⟩
  · rw [if_neg e, if_neg e]
    exact h.2.2.2 i (by omega)
/-! sights -/
def siS (B : Bk) (S : Sc) (n : Nat) : Bool := alB (fun k => !(decide (bkH B k = n)) || decide (sHu S (bkP B k) = bkT B k)) (bkG B)
def agS (F : Fa) (B : Bk) (s : Sc) : Bool := alB (fun n => siS B (hrsS F nl s (n + 1)) (n + 1)) 20
def mxN (f : Nat → Nat) : Nat → Nat
  | 0 => 0
  | k + 1 => if mxN f k < f k then f k else mxN f k
theorem mxN_le {f : Nat → Nat} : ∀ {k i : Nat}, i < k → f i ≤ mxN f k
  | k + 1, i, h => by
    simp only [mxN]
    by_cases e : i = k
    · subst e
      split <;> omega
    · have := mxN_le (f := f) (k := k) (i := i) (by omega)
      split <;> omega
theorem mxN_ub {f : Nat → Nat} {b : Nat} : ∀ {k : Nat}, (∀ i, i < k → f i ≤ b) → mxN f k ≤ b
  | 0, _ => Nat.zero_le _
  | k + 1, h => by
    have := mxN_ub (f := f) (k := k) (fun i hi => h i (by omega))
    have := h k (by omega)
    simp only [mxN]
    split <;> omega
theorem ag_last {F : Fa} {B : Bk} {s : Sc} {br : Fn} (h : okB F br B) : agS F B s = alB (fun n => siS B (hrsS F nl s (n + 1)) (n + 1)) (mxN (bkH B) (bkG B)) := by
  have hu : mxN (bkH B) (bkG B) ≤ 20 := mxN_ub (fun i hi => (h.2.2.2 i hi).2.2)
  unfold agS
  rw [Bool.eq_iff_iff, al_t, al_t]
  constructor
  · exact fun w j hj => w j (by omega)
  · intro w j hj
    by_cases e : j < mxN (bkH B) (bkG B)
    · exact w j e
    · show siS B _ (j + 1) = true
      unfold siS
      rw [al_t]
      intro k hk
      have := mxN_le (f := bkH B) hk
      rw [decide_eq_false (by omega : ¬ bkH B k = j + 1)]
      rfl
/-- another breath for one of the people: the j-th of all, 20 for each -/
def pjS (j : Nat) : Nat := j / 20
def vjS (j : Nat) : Nat := j % 20 + 1
def gdS (F : Fa) (B : Bk) (s : Sc) (j : Nat) : Bool := decide (nI (vjS j) ≠ sBr s (pjS j)) && agS F B (brS s (pjS j) (nI (vjS j)))
def cdS (j : Nat) : Nat := 100 * pjS j + vjS j
/-- the first as a person and a breath -/
def fiD (f : Nat → Bool) (n : Nat) : Int32 := match fstS f n with
  | some j => nI (cdS j)
  | none => -1
theorem fd_n {f : Nat → Bool} {k : Nat} (h : f k = false) : fiD f (k + 1) = fiD f k := by
  unfold fiD
  cases e : fstS f k with
  | some t => rw [fst_some e (by omega : k ≤ k + 1)]
  | none => rw [fst_nx e, h]; rfl
theorem fd_y {f : Nat → Bool} {k : Nat} (h : f k = true) (hz : fiD f k = -1) (hk : k ≤ 160) : fiD f (k + 1) = nI (cdS k) := by
  unfold fiD at hz ⊢
  cases e : fstS f k with
  | some t =>
    rw [e] at hz
    have := (fst_lt e).1
    exact absurd hz (nI_m1 (by unfold cdS pjS vjS; omega))
  | none => rw [fst_nx e, h]; rfl
theorem fd_k {f : Nat → Bool} {k : Nat} (hz : ¬ fiD f k = -1) : fiD f (k + 1) = fiD f k := by
  unfold fiD at hz ⊢
  cases e : fstS f k with
  | some t => rw [fst_some e (by omega : k ≤ k + 1)]
  | none => rw [e] at hz; exact absurd rfl hz
def aDeep (F : Fa) (B : Bk) (s : Sc) (w : Int32) : An := if isP 3 w then .inl (if w = 0 then ctS (gdS F B s) (20 * fN F) else if w = 1 then fiD (gdS F B s) (20 * fN F) else b2i (agS F B s)) else .inr false
/-- the tunes (1 more) that one would hum by all of them -/
def unS (F : Fa) (B : Bk) (s : Sc) (q : Nat) : Nat → Int32
  | 0 => 0
  | j + 1 => if gdS F B s j then unS F B s q j ||| bit1 (sHu (hrsS F nl (brS s (pjS j) (nI (vjS j))) 5) q + 1) else unS F B s q j
def fLok (F : Fa) (B : Bk) (s : Sc) (q : Nat) : Int32 := cnt (unS F B s q (20 * fN F))
def aLook (F : Fa) (B : Bk) (s : Sc) (w : Int32) : An := if isP 2 w then .inl (if w = 0 then (mxS al (fLok F B s) nI 0 (fN F)).1 else (mxS al (fLok F B s) nI 0 (fN F)).2) else .inr false
theorem un_y {F : Fa} {B : Bk} {s : Sc} {q j : Nat} (h : gdS F B s j = true) : unS F B s q (j + 1) = unS F B s q j ||| bit1 (sHu (hrsS F nl (brS s (pjS j) (nI (vjS j))) 5) q + 1) := by simp only [unS]; rw [h]; rfl
theorem un_n {F : Fa} {B : Bk} {s : Sc} {q j : Nat} (h : gdS F B s j = false) : unS F B s q (j + 1) = unS F B s q j := by simp only [unS]; rw [h]; rfl
theorem tun_bit {F : Fa} (hF : okF F) {S : Sc} (hs : okS F S) {q : Nat} (hq : q < fN F) : ∃ t, t < 8 ∧ sHu S q + 1 = nI t := by
  have hm := hF.m
  rcases hs.1 q hq with e | ⟨t, ht, e⟩
  · exact ⟨0, by omega, by rw [e]; rfl⟩
  · exact ⟨t + 1, by omega, by rw [e, nI_1]⟩
theorem or_lt8 {a : Nat} (ha : a < 256) {t : Nat} (ht : t < 8) : ∃ k, k < 256 ∧ nI a ||| bit1 (nI t) = nI k := by
  refine ⟨a ||| 2 ^ t, ?_, by rw [bit1_n t (by omega), nI_or]⟩
  have : 2 ^ t < 2 ^ 8 := Nat.pow_lt_pow_right (by omega) ht
  exact Nat.or_lt_two_pow (n := 8) ha this
theorem un_lt {F : Fa} (hF : okF F) {B : Bk} {s : Sc} (hs : okS F s) {q : Nat} (hq : q < fN F) : ∀ j, ∃ k, k < 256 ∧ unS F B s q j = nI k
  | 0 => ⟨0, by omega, rfl⟩
  | j + 1 => by
    obtain ⟨k, hk, e⟩ := un_lt hF hs hq j (B := B)
    cases w : gdS F B s j with
    | false => exact ⟨k, hk, (un_n w).trans e⟩
    | true =>
      rw [un_y w, e]
      obtain ⟨t, ht, e2⟩ := tun_bit hF (ok_hrs (lf := nl) (ok_br hs (pjS j) (nI (vjS j))) 5) hq
      rw [e2]
      exact or_lt8 hk ht
