/-- where a local's want stops it, nothing else goes on -/
theorem lm_le_no {X : lm_X} {i : Nat} {r : lm_R} {a b : lm_L} {S : List Value} {σ : lm_S} (hp : lm_st X r a S σ = none) : lm_st X r b S σ = none ∨ (lm_br r S = none ∧ lm_al r S σ = none ∧ lm_ca r S = none ∧ lm_rn i r S = none ∧ lm_th r = none) := by
  obtain ⟨pc, ins, x, y, w⟩ := r
  cases ins <;> first
    | (exact Or.inr ⟨rfl, rfl, rfl, rfl, rfl⟩)
    | (refine Or.inl ?_; simp only [lm_st] at hp ⊢; done)
    | (refine Or.inl ?_; simp only [lm_st] at hp ⊢; unfold lm_bi at hp ⊢; (repeat' split at hp) <;> first | (cases hp; done) | rfl | (simp only [*, if_true, if_false]; done) | (split <;> simp_all; done))
theorem lm_ev_le {X : lm_X} : ∀ (f : Nat) {d i z c k pc : Nat} {L L2 : lm_L} {S : List Value} {σ : lm_S} {Q : lm_O → lm_S → Prop}, lm_le L L2 → lm_ev X f d i z c k pc L S σ Q → lm_ev X f d i z c k pc L2 S σ Q := by
  intro f
  induction f with
  | zero => intro d i z c k pc L L2 S σ Q _ h; exact h.elim
  | succ f ih =>
    intro d i z c k pc L L2 S σ Q hl h
    simp only [lm_ev] at h ⊢
    split at h
    · exact h.elim
    · rename_i r hr
      split at h
      · rename_i g pc' L' S' σ' hst
        obtain ⟨L3, h3, h4⟩ := lm_le_st hl hst
        rw [h3]
        exact ⟨h.1, h.2.1, ih h4 h.2.2⟩
      · rename_i hst
        rcases lm_le_no (X := X) (i := i) (b := L2) hst with hn | ⟨h1, h2, h3, h4, h5⟩
        · rw [hn]
          split at h
          · exact ⟨fun b => ih hl (h.1 b), fun b => ih hl (h.2 b)⟩
          · split at h
            · exact ⟨h.1, h.2.1, h.2.2.1, h.2.2.2.1, ih hl h.2.2.2.2⟩
            · split at h
              · split at h
                · exact h.elim
                · obtain ⟨h1, h2, h3, h4, h5, h6, h7⟩ := h
                  refine ⟨h1, h2, h3, h4, h5, h6, lm_ev_mono f f (Nat.le_refl _) (fun o σ' ho => ?_) h7⟩
                  obtain ⟨σ2, hrq, ho⟩ := ho
                  refine ⟨σ2, hrq, ?_⟩
                  split at ho
                  · exact ih hl ho
                  · refine ⟨ho.1, ?_⟩
                    have ho2 := ho.2
                    split at ho2
                    · exact ⟨lm_le_nl hl _ ho2.1, by rw [← lm_le_len hl]; exact ho2.2.1, ih (lm_le_set hl _ _) ho2.2.2⟩
                    · exact ho2
              · exact h
        · rw [h1, h2, h3, h4, h5] at h
          exact h.elim
theorem lm_G_jk {X : lm_X} {d i z c k pc : Nat} {L L2 : lm_L} {S : List Value} {σ : lm_S} {Q : lm_O → lm_S → Prop} (hl : lm_le L L2) (h : lm_G X d i z c k pc L S σ Q) : lm_G X d i z c k pc L2 S σ Q := by
  obtain ⟨f, h⟩ := h
  exact ⟨f, lm_ev_le f hl h⟩
/-- a loop that counts up to T -/
theorem lm_ind {α : Type} {St Inv : Nat → α → Prop} (T : Nat) (step : ∀ j a, j < T → Inv j a → (∀ a', Inv (j + 1) a' → St (j + 1) a') → St j a) (last : ∀ a, Inv T a → St T a) : ∀ j a, j ≤ T → Inv j a → St j a := by
  have key : ∀ n j a, j + n = T → Inv j a → St j a := by
    intro n
    induction n with
    | zero =>
      intro j a hj hI
      have e : j = T := by omega
      subst e
      exact last a hI
    | succ n ih => exact fun j a hj hI => step j a (by omega) hI (fun a' h' => ih (j + 1) a' (by omega) h')
  exact fun j a hj hI => key (T - j) j a (by omega) hI
/-- rows that agree below n -/
def Ag (n : Nat) (f g : Nat → Int32) : Prop := ∀ j, j < n → f j = g j
theorem Ag_rf (n : Nat) (f : Nat → Int32) : Ag n f f := fun _ _ => rfl
theorem Ag_upd {n : Nat} {f g : Nat → Int32} (h : Ag n f g) (k : Nat) (x : Int32) : Ag n (upd f k x) (upd g k x) := by
  intro j hj
  unfold upd
  split
  · rfl
  · exact h j hj
theorem Ag_w {n : Nat} {f g : Nat → Int32} (h : Ag n f g) {k : Nat} {x : Int32} (hx : k < n → x = g k) : Ag n (upd f k x) g := by
  intro j hj
  unfold upd
  split
  · rename_i e; subst e; exact hx hj
  · exact h j hj
theorem Ag_sm {n : Nat} {f g : Nat → Int32} (h : Ag n f g) : Ag n g f := fun j hj => (h j hj).symm
theorem Ag_tr {n : Nat} {f g k : Nat → Int32} (h : Ag n f g) (h2 : Ag n g k) : Ag n f k := fun j hj => (h j hj).trans (h2 j hj)
theorem Ag_mn {n m : Nat} {f g : Nat → Int32} (h : Ag n f g) (hm : m ≤ n) : Ag m f g := fun j hj => h j (by omega)
/-- memory that is the same outside of some places -/
def Fr (p : Nat → Bool) (M M' : Nat → Nat → Int32) : Prop := ∀ a, p a = false → M' a = M a
theorem Fr_rf (p : Nat → Bool) (M : Nat → Nat → Int32) : Fr p M M := fun _ _ => rfl
theorem Fr_tr {p : Nat → Bool} {M M1 M2 : Nat → Nat → Int32} (h : Fr p M M1) (h2 : Fr p M1 M2) : Fr p M M2 := fun a ha => (h2 a ha).trans (h a ha)
theorem Fr_mn {p q : Nat → Bool} {M M1 : Nat → Nat → Int32} (h : Fr p M M1) (hpq : ∀ a, q a = false → p a = false) : Fr q M M1 := fun a ha => h a (hpq a ha)
theorem Fr_wr {p : Nat → Bool} {M M1 : Nat → Nat → Int32} (h : Fr p M M1) {a j : Nat} {x : Int32} (hp : p a = true) : Fr p M (lm_wr M1 a j x) := by
  intro b hb
  have : b ≠ a := by
    intro e
    subst e
    rw [hp] at hb
    cases hb
  rw [wr_row this]
  exact h b hb
theorem Fr_wa {p : Nat → Bool} {M M1 : Nat → Nat → Int32} (h : Fr p M M1) {a : Nat} {f : Nat → Int32} (hp : p a = true) : Fr p M (lm_wa M1 a f) := by
  intro b hb
  have : b ≠ a := by
    intro e
    subst e
    rw [hp] at hb
    cases hb
  simp only [lm_wa, this, if_false]
  exact h b hb
