/-! ===== states kept in rows; what a question may change ===== -/
def SavM (f : Fn) (a : Nat) (F : Fa) (s : Sc) : Prop := f a = sHr s ∧ (∀ t, t < fM F → f (a + 1 + t) = sOw s t) ∧ (∀ p, p < fN F → f (a + 1 + 6 + 5 * p) = sHu s p ∧ f (a + 1 + 6 + 5 * p + 1) = sHd s p ∧ f (a + 1 + 6 + 5 * p + 2) = sId s p ∧ f (a + 1 + 6 + 5 * p + 3) = sPl s p ∧ f (a + 1 + 6 + 5 * p + 4) = sCo s p)
def SavC (f : Fn) (a : Nat) (F : Fa) (s : Sc) : Prop := f a = sHr s ∧ (∀ p, p < fN F → f (a + 1 + p) = sPl s p ∧ f (a + 1 + 8 + p) = sCo s p ∧ f (a + 1 + 16 + p) = sHu s p ∧ f (a + 1 + 24 + p) = sHd s p ∧ f (a + 1 + 32 + p) = sId s p) ∧ (∀ t, t < fM F → f (a + 1 + 40 + t) = sOw s t)
theorem cp_le {X k n : Nat} (hX : X < 2 ^ 31) (h : X + k ≤ n) : (nI X).toNatClampNeg + k ≤ n := by rw [nI_clamp hX]; exact h
theorem SavM_eq {f g : Fn} {a : Nat} {F : Fa} {s : Sc} (hF : okF F) (h : SavM f a F s) (e : ∀ i, a ≤ i → i < a + 47 → g i = f i) : SavM g a F s := by
  have hn := hF.n
  have hm := hF.m
  refine ⟨(e a (by omega) (by omega)).trans h.1, fun t ht => (e _ (by omega) (by omega)).trans (h.2.1 t ht), fun p hp => ?_⟩
  obtain ⟨h1, h2, h3, h4, h5⟩ := h.2.2 p hp
  exact ⟨(e _ (by omega) (by omega)).trans h1, (e _ (by omega) (by omega)).trans h2, (e _ (by omega) (by omega)).trans h3, (e _ (by omega) (by omega)).trans h4, (e _ (by omega) (by omega)).trans h5⟩
theorem SavC_eq {f g : Fn} {a : Nat} {F : Fa} {s : Sc} (hF : okF F) (h : SavC f a F s) (e : ∀ i, a ≤ i → i < a + 47 → g i = f i) : SavC g a F s := by
  have hn := hF.n
  have hm := hF.m
  refine ⟨(e a (by omega) (by omega)).trans h.1, fun p hp => ?_, fun t ht => (e _ (by omega) (by omega)).trans (h.2.2 t ht)⟩
  obtain ⟨h1, h2, h3, h4, h5⟩ := h.2.1 p hp
  exact ⟨(e _ (by omega) (by omega)).trans h1, (e _ (by omega) (by omega)).trans h2, (e _ (by omega) (by omega)).trans h3, (e _ (by omega) (by omega)).trans h4, (e _ (by omega) (by omega)).trans h5⟩
/-- moved by a distance -/
theorem SavM_mv {f g : Fn} {a b : Nat} {F : Fa} {s : Sc} (hF : okF F) (h : SavM f a F s) (e : ∀ i, i < 47 → g (b + i) = f (a + i)) : SavM g b F s := by
  have hn := hF.n
  have hm := hF.m
  refine ⟨(e 0 (by omega)).trans h.1, fun t ht => ?_, fun p hp => ?_⟩
  · have := e (1 + t) (by omega)
    rw [← Nat.add_assoc, ← Nat.add_assoc] at this
    exact this.trans (h.2.1 t ht)
  · obtain ⟨h1, h2, h3, h4, h5⟩ := h.2.2 p hp
    have k : ∀ j, j < 5 → g (b + 1 + 6 + 5 * p + j) = f (a + 1 + 6 + 5 * p + j) := by
      intro j hj
      have := e (1 + 6 + 5 * p + j) (by omega)
      rw [show b + (1 + 6 + 5 * p + j) = b + 1 + 6 + 5 * p + j by omega, show a + (1 + 6 + 5 * p + j) = a + 1 + 6 + 5 * p + j by omega] at this
      exact this
    exact ⟨(k 0 (by omega)).trans h1, (k 1 (by omega)).trans h2, (k 2 (by omega)).trans h3, (k 3 (by omega)).trans h4, (k 4 (by omega)).trans h5⟩
theorem SavC_mv {f g : Fn} {a b : Nat} {F : Fa} {s : Sc} (hF : okF F) (h : SavC f a F s) (e : ∀ i, i < 47 → g (b + i) = f (a + i)) : SavC g b F s := by
  have hn := hF.n
  have hm := hF.m
  have k : ∀ j p, j + p < 46 → g (b + 1 + j + p) = f (a + 1 + j + p) := by
    intro j p hj
    have := e (1 + j + p) (by omega)
    rw [show b + (1 + j + p) = b + 1 + j + p by omega, show a + (1 + j + p) = a + 1 + j + p by omega] at this
    exact this
  refine ⟨(e 0 (by omega)).trans h.1, fun p hp => ?_, fun t ht => (k 40 t (by omega)).trans (h.2.2 t ht)⟩
  obtain ⟨h1, h2, h3, h4, h5⟩ := h.2.1 p hp
  exact ⟨(k 0 p (by omega)).trans h1, (k 8 p (by omega)).trans h2, (k 16 p (by omega)).trans h3, (k 24 p (by omega)).trans h4, (k 32 p (by omega)).trans h5⟩
theorem Ag_nx {j : Nat} {f g : Fn} {x : Int32} (h : Ag j f g) (e : x = g j) : Ag (j + 1) (upd f j x) g := by
  intro i hi
  by_cases w : i = j
  · subst w
    rw [pk_us, e]
  · rw [pk_un w]
    exact h i (by omega)
theorem Ag_cp {n k : Nat} {f g h : Fn} (hg : Ag n f h) (hk : n ≤ k) : Ag n (va_cpy f g 0 0 k) h := by
  intro i hi
  rw [pk_cpy_in (by omega) (by omega)]
  have := hg i hi
  simpa using this
theorem Ag_cps {n k a : Nat} {f g h : Fn} (hg : ∀ i, i < n → f (a + i) = h i) (hk : n ≤ k) : Ag n (va_cpy f g a 0 k) h := by
  intro i hi
  rw [pk_cpy_in (by omega) (by omega)]
  have := hg i hi
  simpa using this
theorem wa_same {M : Nat → Nat → Int32} {a : Nat} {f : Nat → Int32} : lm_wa M a f a = f := by simp [lm_wa]
theorem wa_row {M : Nat → Nat → Int32} {a b : Nat} {f : Nat → Int32} (h : b ≠ a) : lm_wa M a f b = M b := by simp [lm_wa, h]
/-! frames -/
theorem RM_fr {p : Nat → Bool} {M M1 : Nat → Fn} {F : Fa} {s : Sc} (h : RM M F s) (f : Fr p M M1) (hp : ∀ a ∈ [64, 68, 69, 71, 74, 76, 77, 79, 81, 82, 83, 84, 85, 86], p a = false) : RM M1 F s := by
  have g : ∀ a, a ∈ [64, 68, 69, 71, 74, 76, 77, 79, 81, 82, 83, 84, 85, 86] → M1 a = M a := fun a ha => f a (hp a ha)
  refine ⟨KM_of h.1 (g _ (by simp)) (g _ (by simp)) (g _ (by simp)) (g _ (by simp)) (g _ (by simp)) (g _ (by simp)), ?_⟩
  rw [g 64 (by simp), g 79 (by simp), g 85 (by simp), g 86 (by simp), g 82 (by simp), g 83 (by simp), g 84 (by simp), g 81 (by simp)]
  exact h.2
theorem KC_fr {p : Nat → Bool} {M M1 : Nat → Fn} {F : Fa} (h : KC M F) (f : Fr p M M1) (hp : ∀ a ∈ [14, 16, 19, 20, 22, 23, 24], p a = false) : KC M1 F :=
  have g : ∀ a, a ∈ [14, 16, 19, 20, 22, 23, 24] → M1 a = M a := fun a ha => f a (hp a ha)
  KC_of h (g _ (by simp)) (g _ (by simp)) (g _ (by simp)) (g _ (by simp)) (g _ (by simp)) (g _ (by simp)) (g _ (by simp))
theorem RC_fr {b : Nat} {p : Nat → Bool} {M M1 : Nat → Fn} {F : Fa} {s : Sc} (h : RC b M F s) (f : Fr p M M1) (hp : ∀ a ∈ [14, 16, 19, 20, 22, 23, 24], p a = false) (hb : ∀ a ∈ [b, b + 1, b + 2, b + 3, b + 4, b + 5, b + 6, b + 7, b + 8, b + 9], p a = false) : RC b M1 F s := by
  have g : ∀ a, a ∈ [b, b + 1, b + 2, b + 3, b + 4, b + 5, b + 6, b + 7, b + 8, b + 9] → M1 a = M a := fun a ha => f a (hb a ha)
  refine ⟨KC_fr h.1 f hp, ?_⟩
  rw [g b (by simp), g (b + 1) (by simp), g (b + 2) (by simp), g (b + 3) (by simp), g (b + 4) (by simp), g (b + 5) (by simp), g (b + 6) (by simp), g (b + 7) (by simp), g (b + 8) (by simp), g (b + 9) (by simp)]
  exact h.2
def frU (a : Nat) : Bool := decide (a = 64 ∨ (81 ≤ a ∧ a ≤ 86))
def FrU (M M1 : Nat → Fn) : Prop := Fr frU M M1 ∧ ∀ k, k ≠ 36 → M1 64 k = M 64 k
def frN (a : Nat) : Bool := decide (a = 64 ∨ a = 79 ∨ (81 ≤ a ∧ a ≤ 86) ∨ (88 ≤ a ∧ a ≤ 91) ∨ (95 ≤ a ∧ a ≤ 98))
/-- what a question may change of the model -/
def FrN (M M1 : Nat → Fn) : Prop := Fr frN M M1 ∧ ∀ k, k ≠ 4 → k ≠ 36 → k ≠ 41 → k ≠ 51 → k ≠ 53 → M1 64 k = M 64 k
theorem FrN_rf (M : Nat → Fn) : FrN M M := ⟨Fr_rf _ _, fun _ _ _ _ _ _ => rfl⟩
theorem FrN_tr {M M1 M2 : Nat → Fn} (h : FrN M M1) (h2 : FrN M1 M2) : FrN M M2 := ⟨Fr_tr h.1 h2.1, fun k a b c d e => (h2.2 k a b c d e).trans (h.2 k a b c d e)⟩
theorem FrN_M {M M1 : Nat → Fn} (h : FrM M M1) : FrN M M1 := by
  refine ⟨Fr_mn h.1 (fun a ha => ?_), fun k _ a b _ _ => h.2 k a b⟩
  unfold frN at ha
  unfold frM
  rw [decide_eq_false_iff_not] at ha
  simp only [Bool.or_eq_false_iff, beq_eq_false_iff_ne]
  omega
theorem FrN_U {M M1 : Nat → Fn} (h : FrU M M1) : FrN M M1 := by
  refine ⟨Fr_mn h.1 (fun a ha => ?_), fun k _ a _ _ _ => h.2 k a⟩
  unfold frN at ha
  unfold frU
  rw [decide_eq_false_iff_not] at ha ⊢
  omega
theorem FrN_O {M M1 : Nat → Fn} {r : Nat} (h : Fr (frO r) M M1) (hr : frN r = true) (h64 : r ≠ 64) : FrN M M1 := by
  refine ⟨Fr_mn h (fun a ha => ?_), fun k _ _ _ _ _ => by rw [h 64 (by unfold frO; simp; omega)]⟩
  unfold frO
  rw [beq_eq_false_iff_ne]
  intro e
  rw [e, hr] at ha
  cases ha
theorem FrN_wr {M M1 : Nat → Fn} (h : FrN M M1) {a j : Nat} {x : Int32} (ha : frN a = true) (h64 : a ≠ 64) : FrN M (lm_wr M1 a j x) := by
  refine ⟨Fr_wr h.1 ha, fun k a1 a2 a3 a4 a5 => ?_⟩
  rw [wr_row (fun e => h64 e.symm)]
  exact h.2 k a1 a2 a3 a4 a5
theorem FrN_w64 {M M1 : Nat → Fn} (h : FrN M M1) {j : Nat} {x : Int32} (hj : j = 4 ∨ j = 36 ∨ j = 41 ∨ j = 51 ∨ j = 53) : FrN M (lm_wr M1 64 j x) := by
  refine ⟨Fr_wr h.1 rfl, fun k a1 a2 a3 a4 a5 => ?_⟩
  rw [wr_at (by omega)]
  exact h.2 k a1 a2 a3 a4 a5
def frQ (a : Nat) : Bool := decide (a = 26 ∨ a = 27 ∨ (38 ≤ a ∧ a ≤ 47) ∨ (49 ≤ a ∧ a ≤ 51) ∨ a = 62 ∨ a = 63)
def frT (a : Nat) : Bool := decide (a = 26 ∨ a = 27 ∨ (38 ≤ a ∧ a ≤ 47))
theorem frTQ {a : Nat} (h : frQ a = false) : frT a = false := by
  unfold frQ at h
  unfold frT
  rw [decide_eq_false_iff_not] at h ⊢
  omega
theorem FT_W {M M1 : Nat → Fn} (h : FrW 38 M M1) : Fr frT M M1 := by
  refine Fr_mn h.1 (fun a ha => ?_)
  unfold frT at ha
  unfold frW
  rw [decide_eq_false_iff_not] at ha
  simp only [Bool.or_eq_false_iff, beq_eq_false_iff_ne, Bool.and_eq_false_imp, decide_eq_true_eq, decide_eq_false_iff_not]
  omega
theorem FT_C {M M1 : Nat → Fn} (h : FrC 38 M M1) : Fr frT M M1 := FT_W (FrW_C h)
theorem FQ_W {M M1 : Nat → Fn} (h : FrW 38 M M1) : Fr frQ M M1 := by
  refine Fr_mn h.1 (fun a ha => ?_)
  unfold frQ at ha
  unfold frW
  rw [decide_eq_false_iff_not] at ha
  simp only [Bool.or_eq_false_iff, beq_eq_false_iff_ne, Bool.and_eq_false_imp, decide_eq_true_eq, decide_eq_false_iff_not]
  omega
theorem FQ_C {M M1 : Nat → Fn} (h : FrC 38 M M1) : Fr frQ M M1 := FQ_W (FrW_C h)
theorem RC_Q {M M1 : Nat → Fn} {F : Fa} {s : Sc} (h : RC 28 M F s) (f : Fr frQ M M1) : RC 28 M1 F s := RC_fr h f (by decide) (by decide)
theorem RM_O {M M1 : Nat → Fn} {F : Fa} {s : Sc} {r : Nat} (h : RM M F s) (f : Fr (frO r) M M1) (hr : ∀ a ∈ [64, 68, 69, 71, 74, 76, 77, 79, 81, 82, 83, 84, 85, 86], frO r a = false) : RM M1 F s := RM_fr h f hr
abbrev nl : Nat → Bool := fun _ => false
theorem nl_C {n p : Nat} {x : Int32} (hn : n ≤ 8) (hp : p < n) (hx : x = -1) : decide (nI p = x) = nl p := by
  rw [hx]
  exact decide_eq_false (nI_m1 (by omega))
theorem nl_M {n p : Nat} {x : Int32} (hn : n ≤ 8) (hp : p < n) (hx : x = 0) : bitW x p = nl p := by
  rw [hx]
  exact bitW_0 (by omega)
/-! answers -/
abbrev An : Type := Int32 ⊕ Bool
/-- as the class gives it: false: NoSuchElementException, true: IllegalArgumentException -/
def cO (a : An) : lm_O := match a with
  | .inl v => .inl (some (.int v))
  | .inr false => .inr 0
  | .inr true => .inr 1
def cd (a : An) : Int32 := match a with
  | .inl _ => 0
  | .inr false => 1
  | .inr true => 2
def vl (a : An) : Int32 := match a with
  | .inl v => v
  | .inr _ => 0
def gO (a : An) (G : Nat → Nat → Int64) : Nat → Nat → Int64 := match a with
  | .inl v => lm_wg G 105 0 v.toInt64
  | .inr _ => G
def inR (x y z : Int32) : Bool := decide (y ≤ x ∧ x ≤ z)
theorem inL_R (x y z : Int32) : inL x.toInt64 y.toInt64 z.toInt64 = inR x y z := by
  unfold inL inR
  congr 1
  rw [eq_iff_iff, Int64.le_iff_toInt_le, Int64.le_iff_toInt_le, Int32.le_iff_toInt_le, Int32.le_iff_toInt_le, Int32.toInt_toInt64, Int32.toInt_toInt64, Int32.toInt_toInt64]
theorem inR_nI {x : Int32} {n : Nat} {z : Int32} (hz : z.toInt = n) (h : inR x 0 z = true) : ∃ j, j ≤ n ∧ x = nI j := by
  unfold inR at h
  rw [decide_eq_true_eq] at h
  exact nI_of2 hz (Int32.not_lt.mpr h.1) h.2
theorem inR_nI1 {x : Int32} {n : Nat} {z : Int32} (hz : z.toInt = n) (h : inR x 1 z = true) : ∃ j, 1 ≤ j ∧ j ≤ n ∧ x = nI j := by
  unfold inR at h
  rw [decide_eq_true_eq] at h
  obtain ⟨j, hj, e⟩ := nI_of2 hz (Int32.not_lt.mpr (Int32.le_trans (by decide) h.1)) h.2
  refine ⟨j, ?_, hj, e⟩
  cases j with
  | zero => rw [e] at h; exact absurd h.1 (by decide)
  | succ k => omega
theorem isP_2 {x : Int32} (h : isP 2 x = true) : x = 0 ∨ x = 1 := by
  obtain ⟨j, hj, e⟩ := isP_nI h (by omega)
  rcases (by omega : j = 0 ∨ j = 1) with rfl | rfl
  · exact Or.inl e
  · exact Or.inr e
theorem isP_3 {x : Int32} (h : isP 3 x = true) : x = 0 ∨ x = 1 ∨ x = 2 := by
  obtain ⟨j, hj, e⟩ := isP_nI h (by omega)
  rcases (by omega : j = 0 ∨ j = 1 ∨ j = 2) with rfl | rfl | rfl
  · exact Or.inl e
  · exact Or.inr (Or.inl e)
  · exact Or.inr (Or.inr e)
theorem inL_1 (x : Int32) : inL x.toInt64 0 1 = isP 2 x := inL_P (n := 2) (by omega) x
theorem inL_2 (x : Int32) : inL x.toInt64 0 2 = isP 3 x := inL_P (n := 3) (by omega) x
theorem isP_iff {n : Nat} (hn : n ≤ 100) {x : Int32} : isP n x = true ↔ 0 ≤ x ∧ x < nI n := by
  unfold isP
  rw [decide_eq_true_eq, Int32.le_iff_toInt_le, Int32.lt_iff_toInt_lt, nI_toInt (by omega)]
  rfl
def frL (a : Nat) : Bool := decide (28 ≤ a ∧ a ≤ 37 ∧ a ≠ 29)
def FrL (M M1 : Nat → Fn) : Prop := Fr frL M M1 ∧ ∀ k, k ≠ 2 → M1 28 k = M 28 k
theorem frLO {a r : Nat} (ha : frL a = false) (hr : frL r = true) : frO r a = false := by
  unfold frO
  rw [beq_eq_false_iff_ne]
  intro e
  rw [e, hr] at ha
  cases ha
