/-! ===== the model reads code ===== -/
def rwJ (J : Bool) : Nat := if J then 77 else 76
def lnJ (J : Bool) : Nat := if J then 9 else 8
def MCode (M : Nat → Fn) (J : Bool) (K : Cd) : Prop := M 68 (lnJ J) = nI K.length ∧ ∀ i, i < K.length → M (rwJ J) (700 + i) = encM (K.getD i (0, 0))
def FrJ (J : Bool) (M M1 : Nat → Fn) : Prop := (∀ a, a ≠ 64 → a ≠ 68 → a ≠ rwJ J → M1 a = M a) ∧ (∀ k, k ≠ 19 → k ≠ 21 → k ≠ 22 → k ≠ 23 → k ≠ 24 → k ≠ 25 → k ≠ 26 → M1 64 k = M 64 k) ∧ (∀ k, k ≠ lnJ J → M1 68 k = M 68 k) ∧ (∀ i, i < 700 → M1 (rwJ J) i = M (rwJ J) i)
theorem FrJ_rf (J : Bool) (M : Nat → Fn) : FrJ J M M := ⟨fun _ _ _ _ => rfl, fun _ _ _ _ _ _ _ _ => rfl, fun _ _ => rfl, fun _ _ => rfl⟩
theorem FrJ_tr {J : Bool} {M M1 M2 : Nat → Fn} (h : FrJ J M M1) (h2 : FrJ J M1 M2) : FrJ J M M2 := ⟨fun a x y z => (h2.1 a x y z).trans (h.1 a x y z), fun k a b c d e f g => (h2.2.1 k a b c d e f g).trans (h.2.1 k a b c d e f g), fun k a => (h2.2.2.1 k a).trans (h.2.2.1 k a), fun i a => (h2.2.2.2 i a).trans (h.2.2.2 i a)⟩
theorem rwJ_64 {J : Bool} : rwJ J ≠ 64 ∧ rwJ J ≠ 68 ∧ rwJ J ≠ 80 := by cases J <;> decide
theorem FrJ_K {J : Bool} {M M1 : Nat → Fn} (h : FrK M M1) : FrJ J M M1 := by
  have g : ∀ a, a ≠ 64 → M1 a = M a := fun a ha => h.1 a (by unfold frO; rw [beq_eq_false_iff_ne]; exact ha)
  exact ⟨fun a x _ _ => g a x, fun k a b c d e _ _ => h.2 k a b c d e, fun k _ => by rw [g 68 (by decide)], fun i _ => by rw [g _ rwJ_64.1]⟩
theorem FrJ_b {J : Bool} {M M1 : Nat → Fn} (h : FrJ J M M1) {x y : Int32} : FrJ J M (lm_wr (lm_wr M1 64 25 x) 64 26 y) :=
  ⟨fun a p q r => by rw [wr_row p, wr_row p]; exact h.1 a p q r, fun k a b c d e f g => by rw [wr_at g, wr_at f]; exact h.2.1 k a b c d e f g, h.2.2.1, fun i hi => by rw [wr_row rwJ_64.1, wr_row rwJ_64.1]; exact h.2.2.2 i hi⟩
theorem MC_K {M M1 : Nat → Fn} {J : Bool} {K : Cd} (h : MCode M J K) (f : FrK M M1) : MCode M1 J K := by
  have g : ∀ a, a ≠ 64 → M1 a = M a := fun a ha => f.1 a (by unfold frO; rw [beq_eq_false_iff_ne]; exact ha)
  unfold MCode
  rw [g 68 (by decide), g _ rwJ_64.1]
  exact h
def vvJ (J : Bool) : Nat := if J then 67 else 66
/-- where a fault is told already a call does nothing -/
def BQ (X : lm_X) (d j : Nat) (as : List Value) : Prop := ∀ (M : Nat → Nat → Int32) (v : Nat) (G : Nat → Nat → Int64) (Q : lm_O → lm_S → Prop), ¬ M 64 25 = 0 → Q (.inl none) (lm_T M v G) → lm_Q X d j as (lm_T M v G) Q
/-- a call reads what sub tells; where a fault is told already it does nothing -/
def MQe (X : lm_X) (T : Tx) (J : Bool) (d j : Nat) (as : List Value) (sub : Nat → PR) : Prop := (∀ (M : Nat → Nat → Int32) (G : Nat → Nat → Int64) (Q : lm_O → lm_S → Prop) (p : Nat) (K : Cd), GM M T p → p ≤ tN T → M 64 28 = b2i J → MCode M J K → K.length ≤ p → (∀ r c, sub p = .inl (r, c) → ∀ M1, GM M1 T r → MCode M1 J (K ++ c) → FrJ J M M1 → Q (.inl none) (lm_T M1 (vvJ J) G)) → (∀ e a, sub p = .inr (e, a) → ∀ M1, BM M1 e a → ¬ M1 64 25 = 0 → FrP M M1 → Q (.inl none) (lm_T M1 (vvJ J) G)) → lm_Q X d j as (lm_T M (vvJ J) G) Q) ∧ BQ X d j as
theorem MC_add {M : Nat → Fn} {J : Bool} {K : Cd} (h : MCode M J K) {x : Nat × Nat} {y : Int32} (hy : y = nI (K.length + 1)) : MCode (lm_wr (lm_wr M (rwJ J) (700 + K.length) (encM x)) 68 (lnJ J) y) J (K ++ [x]) := by
  refine ⟨by rw [List.length_append, wr_same]; exact hy, fun i hi => ?_⟩
  rw [wr_row rwJ_64.2.1]
  by_cases e : i = K.length
  · rw [e, wr_same, gDl]
  · rw [List.length_append] at hi
    simp only [List.length_cons, List.length_nil] at hi
    rw [wr_at (by omega), gDc (by omega)]
    exact h.2 i (by omega)
theorem FrJ_add {J : Bool} {M : Nat → Fn} {i : Nat} {x y : Int32} (hi : 700 ≤ i) : FrJ J M (lm_wr (lm_wr M (rwJ J) i x) 68 (lnJ J) y) :=
  ⟨fun a p q r => by rw [wr_row q, wr_row r], fun k _ _ _ _ _ _ _ => by rw [wr_row (by decide), wr_row (fun e => rwJ_64.1 e.symm)], fun k hk => by rw [wr_at hk, wr_row (fun e => rwJ_64.2.1 e.symm)], fun k hk => by rw [wr_row rwJ_64.2.1, wr_at (by omega)]⟩
theorem GM_J {J : Bool} {M M1 : Nat → Fn} {T : Tx} {p : Nat} (h : GM M T p) (e64 : M1 64 = M 64) (e80 : M1 80 = M 80) : GM M1 T p := by
  unfold GM RN RDm
  rw [e64, e80]
  exact h
/-- nothing can begin here -/
theorem nb_pt {T : Tx} {J dp : Bool} {rec : Nat → PR} {p : Nat} (h : canB T p = false) : ptS T J dp rec p = .inr (1, stS' T p) := by
  unfold canB at h
  rw [Bool.or_eq_false_iff, Bool.or_eq_false_iff] at h
  unfold ptS
  rw [if_neg (by rw [h.2.2]; decide), if_neg (of_decide_eq_false h.1), if_neg (of_decide_eq_false h.2.1)]
theorem nb_pX {T : Tx} {J dp : Bool} {rec : Nat → PR} {p : Nat} (h : canB T p = false) : pX T J dp rec p = .inr (1, stS' T p) := by
  have hw : isWd T p w13 = false := by
    cases e : isWd T p w13 with
    | false => rfl
    | true =>
      unfold canB at h
      rw [wd_kn e] at h
      simp at h
  have e6 : ntP T 6 p = p := by
    have := (nt_s 0 p hw 6).1
    exact this
  unfold pX
  refine lvl_r (lvl_r ?_)
  unfold tst
  rw [e6, if_neg (by rw [hw]; decide), lvl_r (lvl_r (lvl_r (nb_pt h)))]
theorem nb_pE {T : Tx} {J : Bool} {p : Nat} (h : canB T p = false) : ∀ f, pE T J f p = .inr (1, stS' T p)
  | 0 => nb_pX h
  | f + 1 => nb_pX h
/-- what the model does behind so many that it is within -/
def mE (T : Tx) (J : Bool) (w : Nat) (p : Nat) : PR := if w = 6 then .inr (if canB T p then 2 else 1, stS' T p) else pE T J (5 - w) p
theorem FrP_J {J : Bool} {M M1 : Nat → Fn} (h : FrJ J M M1) : FrP M M1 := by
  obtain ⟨h1, h2, h3, h4⟩ := h
  have hr : rwJ J = 76 ∨ rwJ J = 77 := by cases J <;> decide
  have hl : lnJ J = 8 ∨ lnJ J = 9 := by cases J <;> decide
  refine ⟨fun a ha => ?_, fun k a b c d e f g _ => h2 k a b c d e f g, fun k hk => h3 k (by omega), fun a k x y _ => by rw [h1 a (by omega) (by omega) (by omega)], fun a k x y _ => by rw [h1 a (by omega) (by omega) (by omega)], fun a k x y hk => ?_⟩
  · unfold frP at ha
    rw [decide_eq_false_iff_not] at ha
    exact h1 a (by omega) (by omega) (by omega)
  · by_cases e : a = rwJ J
    · rw [e]
      exact h4 k hk
    · rw [h1 a (by omega) (by omega) e]
theorem mE_6 {T : Tx} {J : Bool} {p : Nat} : mE T J 6 p = .inr (if canB T p then 2 else 1, stS' T p) := if_pos rfl
theorem pt_6 {T : Tx} {J : Bool} {rec : Nat → PR} : ptS T J true rec = ptS T J false (mE T J 6) := by
  funext p
  unfold ptS
  by_cases h : isSg T p 40 = true
  · rw [if_pos h, if_pos h, if_pos rfl, mE_6]
    rfl
  · rw [if_neg h, if_neg h]
theorem okL_6 {T : Tx} {J : Bool} : okL T (mE T J 6) := by
  intro p r c _ e
  rw [mE_6] at e
  cases e
theorem okL_mE {T : Tx} {J : Bool} {w : Nat} : okL T (mE T J w) := by
  by_cases h : w = 6
  · rw [h]
    exact okL_6
  · intro p r c hp e
    unfold mE at e
    rw [if_neg h] at e
    exact okL_pE _ p r c hp e
theorem mE_s {T : Tx} {J : Bool} {w : Nat} (h : w ≤ 5) : mE T J w = pX T J false (mE T J (w + 1)) := by
  by_cases e : w = 5
  · subst e
    funext p
    unfold mE
    rw [if_neg (by decide)]
    show pX T J true (fun _ => .inr (0, 0)) p = pX T J false (mE T J 6) p
    unfold pX
    rw [pt_6]
  · obtain ⟨f, hf⟩ : ∃ f, 5 - w = f + 1 := ⟨5 - w - 1, by omega⟩
    have e1 : mE T J w = pE T J (5 - w) := by
      funext p
      unfold mE
      rw [if_neg (by omega)]
    have e2 : mE T J (w + 1) = pE T J f := by
      funext p
      unfold mE
      rw [if_neg (by omega), show 5 - (w + 1) = f by omega]
    rw [e1, e2, hf]
    rfl
theorem mE_nb {T : Tx} {J : Bool} {w p : Nat} (h : canB T p = false) : mE T J w p = .inr (1, stS' T p) := by
  unfold mE
  split
  · rw [h]
    rfl
  · exact nb_pE h _
theorem wr_nz {M : Nat → Fn} {x y : Int32} (h : ¬ x = 0) : ¬ lm_wr (lm_wr M 64 25 x) 64 26 y 64 25 = 0 := h
