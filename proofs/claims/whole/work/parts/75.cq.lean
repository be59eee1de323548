/-! ===== the class reads code ===== -/
def CCode (M : Nat → Fn) (K : Cd) : Prop := M 3 11 = nI K.length ∧ ∀ i, i < K.length → M 11 i = encC (K.getD i (0, 0))
def frE (a : Nat) : Bool := decide (a = 1 ∨ a = 3 ∨ a = 11)
def FrE (M M1 : Nat → Fn) : Prop := Fr frE M M1 ∧ (∀ k, k < 6 ∨ k = 11 → M1 1 k = M 1 k) ∧ (∀ k, k ≠ 11 → M1 3 k = M 3 k)
def FrEx (M M1 : Nat → Fn) : Prop := Fr frE M M1 ∧ (∀ k, k < 6 → M1 1 k = M 1 k) ∧ (∀ k, k ≠ 11 → M1 3 k = M 3 k)
theorem FrEx_l {M M1 M2 : Nat → Fn} (h : FrE M M1) (h2 : FrEx M1 M2) : FrEx M M2 := ⟨Fr_tr h.1 h2.1, fun k a => (h2.2.1 k a).trans (h.2.1 k (Or.inl a)), fun k a => (h2.2.2 k a).trans (h.2.2 k a)⟩
theorem FrE_rf (M : Nat → Fn) : FrE M M := ⟨Fr_rf _ _, fun _ _ => rfl, fun _ _ => rfl⟩
theorem FrE_tr {M M1 M2 : Nat → Fn} (h : FrE M M1) (h2 : FrE M1 M2) : FrE M M2 := ⟨Fr_tr h.1 h2.1, fun k a => (h2.2.1 k a).trans (h.2.1 k a), fun k a => (h2.2.2 k a).trans (h.2.2 k a)⟩
theorem FrE_R {M M1 : Nat → Fn} (h : FrR M M1) : FrE M M1 := by
  refine ⟨Fr_mn h.1 (fun a ha => ?_), fun k hk => h.2 k (by omega) (by omega) (by omega) (by omega), fun k _ => by rw [h.1 3 rfl]⟩
  unfold frO
  rw [beq_eq_false_iff_ne]
  intro e
  rw [e] at ha
  cases ha
theorem FrE_f {M M1 : Nat → Fn} (h : FrE M M1) {x y : Int32} : FrEx M (lm_wr (lm_wr M1 1 10 x) 1 11 y) := ⟨Fr_wr (Fr_wr h.1 rfl) rfl, fun k hk => (wr_at (by omega)).trans ((wr_at (by omega)).trans (h.2.1 k (Or.inl hk))), h.2.2⟩
theorem CC_R {M M1 : Nat → Fn} {K : Cd} (h : CCode M K) (f : FrR M M1) : CCode M1 K := by
  unfold CCode
  rw [f.1 3 rfl, f.1 11 rfl]
  exact h
theorem gDc {l m : Cd} {i : Nat} (h : i < l.length) : (l ++ m).getD i (0, 0) = l.getD i (0, 0) := by
  rw [List.getD_eq_getElem?_getD, List.getElem?_append_left h, ← List.getD_eq_getElem?_getD]
theorem gDl {l : Cd} {x : Nat × Nat} : (l ++ [x]).getD l.length (0, 0) = x := by
  rw [List.getD_eq_getElem?_getD, List.getElem?_append_right (Nat.le_refl _), Nat.sub_self]
  rfl
theorem CC_add {M : Nat → Fn} {K : Cd} (h : CCode M K) {x : Nat × Nat} {y : Int32} (hy : y = nI (K.length + 1)) : CCode (lm_wr (lm_wr M 11 K.length (encC x)) 3 11 y) (K ++ [x]) := by
  refine ⟨by rw [List.length_append]; exact hy, fun i hi => ?_⟩
  show upd (M 11) K.length (encC x) i = _
  by_cases e : i = K.length
  · rw [e, pk_us, gDl]
  · rw [List.length_append] at hi
    simp only [List.length_cons, List.length_nil] at hi
    rw [pk_un e, gDc (by omega)]
    exact h.2 i (by omega)
/-- a call reads what sub tells -/
def CQ (X : lm_X) (T : Tx) (J : Bool) (d j : Nat) (as : List Value) (sub : Nat → PR) : Prop := ∀ (v : Nat) (M : Nat → Nat → Int32) (G : Nat → Nat → Int64) (Q : lm_O → lm_S → Prop) (p : Nat) (K : Cd), RT M T p → p ≤ tN T → M 1 5 = b2i J → CCode M K → K.length ≤ p → (∀ r c, sub p = .inl (r, c) → ∀ M1, RT M1 T r → CCode M1 (K ++ c) → FrE M M1 → Q (.inl (some (.int 1))) (lm_T M1 v G)) → (∀ e a, sub p = .inr (e, a) → ∀ M1, BC M1 e a → FrEx M M1 → Q (.inl (some (.int 0))) (lm_T M1 v G)) → lm_Q X d j as (lm_T M v G) Q
def opI (T : Tx) (lv p : Nat) : Int32 := if opS T lv p = 9 then 0 else encC (2, opS T lv p)
theorem enc_nz : ∀ o, o < 9 → ¬ encC (2, o) = 0 := by decide +kernel
theorem opI_0 {T : Tx} {lv p : Nat} : opI T lv p = 0 ↔ opS T lv p = 9 := by
  unfold opI
  by_cases h : opS T lv p = 9
  · simp [h]
  · rw [if_neg h]
    exact ⟨fun w => absurd w (enc_nz _ (op_le h).1), fun w => absurd w h⟩
theorem chn_9 {T : Tx} {lv : Nat} {sub : Nat → PR} {f p : Nat} {c : Cd} (h : opS T lv p = 9) : chn T lv sub f p c = .inl (p, c) := by
  cases f with
  | zero => rfl
  | succ f => simp only [chn]; rw [if_pos h]
theorem chn_i {T : Tx} {lv : Nat} {sub : Nat → PR} {f p r : Nat} {c c2 : Cd} (h : ¬ opS T lv p = 9) (e : sub (enS T p) = .inl (r, c2)) : chn T lv sub (f + 1) p c = chn T lv sub f r (c ++ c2 ++ [(2, opS T lv p)]) := by simp only [chn]; rw [if_neg h, e]
theorem chn_r {T : Tx} {lv : Nat} {sub : Nat → PR} {f p : Nat} {c : Cd} {e : Nat × Nat} (h : ¬ opS T lv p = 9) (e1 : sub (enS T p) = .inr e) : chn T lv sub (f + 1) p c = .inr e := by simp only [chn]; rw [if_neg h, e1]
theorem lvl_i {T : Tx} {lv : Nat} {sub : Nat → PR} {p r : Nat} {c : Cd} (e : sub p = .inl (r, c)) : lvl T lv sub p = chn T lv sub (if lv = 2 then 1 else 700) r c := by unfold lvl; rw [e]
theorem lvl_r {T : Tx} {lv : Nat} {sub : Nat → PR} {p : Nat} {e : Nat × Nat} (h : sub p = .inr e) : lvl T lv sub p = .inr e := by unfold lvl; rw [h]
theorem nt_s {T : Tx} : ∀ (f p : Nat), isWd T (ntP T f p) w13 = false → ∀ k, ntP T (f + k) p = ntP T f p ∧ ntN T (f + k) p = ntN T f p
  | 0, p, h, k => by
    have h' : isWd T p w13 = false := h
    cases k with
    | zero => exact ⟨rfl, rfl⟩
    | succ k =>
      rw [Nat.zero_add]
      simp only [ntP, ntN]
      rw [if_neg (by rw [h']; decide), if_neg (by rw [h']; decide)]
      exact ⟨rfl, rfl⟩
  | f + 1, p, h, k => by
    rw [show f + 1 + k = (f + k) + 1 by omega]
    simp only [ntP, ntN] at h ⊢
    by_cases w : isWd T p w13 = true
    · rw [if_pos w] at h
      rw [if_pos w, if_pos w, if_pos w, if_pos w]
      have := nt_s f (enS T p) h k
      rw [this.1, this.2]
      exact ⟨rfl, rfl⟩
    · rw [if_neg w, if_neg w, if_neg w, if_neg w]
      exact ⟨rfl, rfl⟩
theorem nt_y {T : Tx} : ∀ (f p : Nat), (∀ i, i ≤ f → isWd T (ntP T i p) w13 = true) → ntN T (f + 1) p = f + 1 ∧ ntP T (f + 1) p = enS T (ntP T f p)
  | 0, p, h => by
    have h0 : isWd T p w13 = true := h 0 (Nat.le_refl _)
    simp only [ntN, ntP]
    rw [if_pos h0, if_pos h0]
    exact ⟨rfl, rfl⟩
  | f + 1, p, h => by
    have h0 : isWd T p w13 = true := h 0 (by omega)
    have ih := nt_y f (enS T p) (fun i hi => by
      have := h (i + 1) (by omega)
      simp only [ntP] at this
      rw [if_pos h0] at this
      exact this)
    have e1 : ntN T (f + 1 + 1) p = ntN T (f + 1) (enS T p) + 1 := by rw [ntN]; rw [if_pos h0]
    have e2 : ntP T (f + 1 + 1) p = ntP T (f + 1) (enS T p) := by rw [ntP]; rw [if_pos h0]
    have e3 : ntP T (f + 1) p = ntP T f (enS T p) := by rw [ntP]; rw [if_pos h0]
    rw [e1, e2, e3, ih.1, ih.2]
    exact ⟨rfl, rfl⟩
