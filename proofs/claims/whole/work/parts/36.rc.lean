/-! ===== the class's scene: what is written, what stays ===== -/
def frR (a : Nat) : Bool := a == 26 || a == 27
def frC (b a : Nat) : Bool := a == 26 || a == 27 || a == b || a == b + 4 || a == b + 5 || a == b + 6 || a == b + 7 || a == b + 8
/-- what an hour may change of a scene -/
def FrC (b : Nat) (M M1 : Nat → Fn) : Prop := Fr (frC b) M M1 ∧ ∀ k, k ≠ 2 → k ≠ 13 → M1 b k = M b k
theorem FrC_rf (b : Nat) (M : Nat → Fn) : FrC b M M := ⟨Fr_rf _ _, fun _ _ _ => rfl⟩
theorem FrC_tr {b : Nat} {M M1 M2 : Nat → Fn} (h : FrC b M M1) (h2 : FrC b M1 M2) : FrC b M M2 := ⟨Fr_tr h.1 h2.1, fun k a c => (h2.2 k a c).trans (h.2 k a c)⟩
theorem FrC_R {b : Nat} {M M1 : Nat → Fn} (h : Fr frR M M1) (hb : frR b = false) : FrC b M M1 := by
  refine ⟨Fr_mn h ?_, fun k _ _ => by rw [h b hb]⟩
  intro a ha
  unfold frC at ha
  unfold frR
  revert ha
  cases (a == 26) <;> cases (a == 27) <;> simp
theorem FrC_wr {b : Nat} {M M1 : Nat → Fn} (h : FrC b M M1) {a j : Nat} {x : Int32} (ha : frC b a = true) (hb : b ≠ a) : FrC b M (lm_wr M1 a j x) := by
  refine ⟨Fr_wr h.1 ha, fun k a1 a2 => ?_⟩
  rw [wr_row hb]
  exact h.2 k a1 a2
theorem FrC_wb {b : Nat} {M M1 : Nat → Fn} (h : FrC b M M1) {j : Nat} {x : Int32} (hf : frC b b = true) (hj : j = 2 ∨ j = 13) : FrC b M (lm_wr M1 b j x) := by
  refine ⟨Fr_wr h.1 hf, fun k a1 a2 => ?_⟩
  rw [wr_at (by omega)]
  exact h.2 k a1 a2
theorem hum_upd {F : Fa} (hF : okF F) {hu : Fn} {p : Nat} {x t : Int32} (h1 : hu p ≠ t) (h2 : x ≠ t) : humS F (upd hu p x) t = humS F hu t := by
  unfold humS
  apply msk_congr
  intro j hj
  by_cases e : j = p
  · subst e
    rw [pk_us, decide_eq_false h1, decide_eq_false h2]
  · rw [pk_un e]
theorem hum_out {F : Fa} (hF : okF F) {hu : Fn} {p : Nat} (hp : p < fN F) {t : Nat} (ht : t < 100) : humS F hu (nI t) &&& (bit1 (nI p) ^^^ (-1)) = humS F (upd hu p (-1)) (nI t) := by
  have hn := hF.n
  unfold humS
  rw [msk_out (by omega) (by omega)]
  apply msk_congr
  intro j hj
  by_cases e : j = p
  · subst e
    rw [pk_us]
    simp
    exact fun w => nI_m1 (t := t) (by omega) w.symm
  · rw [pk_un e]
    simp [e]
theorem hum_in {F : Fa} (hF : okF F) {hu : Fn} {p : Nat} (hp : p < fN F) {t : Nat} : humS F hu (nI t) ||| bit1 (nI p) = humS F (upd hu p (nI t)) (nI t) := by
  have hn := hF.n
  unfold humS
  rw [msk_in (by omega) hp]
  apply msk_congr
  intro j hj
  by_cases e : j = p
  · subst e
    rw [pk_us]
    simp
  · rw [pk_un e]
    simp [e]
theorem nI_ne {a b : Nat} (ha : a < 2 ^ 31) (hb : b < 2 ^ 31) (h : a ≠ b) : nI a ≠ nI b := fun e => h ((nI_eq ha hb).mp e)
theorem Ag_hs {F : Fa} (hF : okF F) {f hu hu2 : Fn} {t : Nat} {y : Int32} (h : Ag (fM F) f (fun u => humS F hu (nI u))) (hy : y = humS F hu2 (nI t)) (ho : ∀ u, u < fM F → u ≠ t → humS F hu2 (nI u) = humS F hu (nI u)) : Ag (fM F) (upd f t y) (fun u => humS F hu2 (nI u)) := by
  intro u hu
  by_cases e : u = t
  · subst e
    rw [pk_us, hy]
  · rw [pk_un e, h u hu]
    exact (ho u hu e).symm
