/-! ===== the logic of the light machine: runs without fuel ===== -/
/-- more fuel, a wider end -/
theorem lm_ev_mono {X : lm_X} : ∀ (f : Nat) {d i z c k pc : Nat} {L : lm_L} {S : List Value} {σ : lm_S} {Q Q' : lm_O → lm_S → Prop} (f' : Nat), f ≤ f' → (∀ o σ', Q o σ' → Q' o σ') → lm_ev X f d i z c k pc L S σ Q → lm_ev X f' d i z c k pc L S σ Q' := by
  intro f
  induction f with
  | zero => intro d i z c k pc L S σ Q Q' f' _ _ h; exact h.elim
  | succ f ih =>
    intro d i z c k pc L S σ Q Q' f' hf hq h
    obtain ⟨g, rfl⟩ : ∃ g, f' = g + 1 := ⟨f' - 1, by omega⟩
    have hfg : f ≤ g := by omega
    simp only [lm_ev] at h ⊢
    split at h
    · exact h.elim
    · split at h
      · exact ⟨h.1, h.2.1, ih g hfg hq h.2.2⟩
      · split at h
        · exact ⟨fun b => ih g hfg hq (h.1 b), fun b => ih g hfg hq (h.2 b)⟩
        · split at h
          · exact ⟨h.1, h.2.1, h.2.2.1, h.2.2.2.1, ih g hfg hq h.2.2.2.2⟩
          · split at h
            · split at h
              · exact h.elim
              · obtain ⟨h1, h2, h3, h4, h5, h6, h7⟩ := h
                refine ⟨h1, h2, h3, h4, h5, h6, ih g hfg (fun o σ' ho => ?_) h7⟩
                obtain ⟨σ2, hrq, ho⟩ := ho
                refine ⟨σ2, hrq, ?_⟩
                split at ho
                · exact ih g hfg hq ho
                · refine ⟨ho.1, ?_⟩
                  have ho2 := ho.2
                  split at ho2
                  · exact ⟨ho2.1, ho2.2.1, ih g hfg hq ho2.2.2⟩
                  · exact ⟨ho2.1, hq _ _ ho2.2⟩
            · split at h
              · exact ⟨h.1, h.2.1, h.2.2.1, hq _ _ h.2.2.2⟩
              · split at h
                · exact ⟨h.1, h.2.1, h.2.2.1, h.2.2.2.1, h.2.2.2.2.1, h.2.2.2.2.2.1, hq _ _ h.2.2.2.2.2.2⟩
                · exact h.elim
/-- a run has one end -/
theorem lm_ev_one {X : lm_X} : ∀ (f : Nat) {d i z c k pc : Nat} {L : lm_L} {S : List Value} {σ : lm_S} {Q : lm_O → lm_S → Prop}, lm_ev X f d i z c k pc L S σ Q → ∃ o σ', Q o σ' ∧ ∀ Q' : lm_O → lm_S → Prop, Q' o σ' → lm_ev X f d i z c k pc L S σ Q' := by
  intro f
  induction f with
  | zero => intro d i z c k pc L S σ Q h; exact h.elim
  | succ f ih =>
    intro d i z c k pc L S σ Q h
    simp only [lm_ev] at h ⊢
    split at h
    · exact h.elim
    · split at h
      · obtain ⟨o, σ', h1, h2⟩ := ih h.2.2
        exact ⟨o, σ', h1, fun Q' hq => ⟨h.1, h.2.1, h2 Q' hq⟩⟩
      · split at h
        · rename_i b t S' _
          by_cases hb : b
          · obtain ⟨o, σ', h1, h2⟩ := ih (h.1 hb)
            exact ⟨o, σ', h1, fun Q' hq => ⟨fun _ => h2 Q' hq, fun nb => absurd hb nb⟩⟩
          · obtain ⟨o, σ', h1, h2⟩ := ih (h.2 hb)
            exact ⟨o, σ', h1, fun Q' hq => ⟨fun b => absurd b hb, fun _ => h2 Q' hq⟩⟩
        · split at h
          · obtain ⟨o, σ', h1, h2⟩ := ih h.2.2.2.2
            exact ⟨o, σ', h1, fun Q' hq => ⟨h.1, h.2.1, h.2.2.1, h.2.2.2.1, h2 Q' hq⟩⟩
          · split at h
            · split at h
              · exact h.elim
              · obtain ⟨h1, h2, h3, h4, h5, h6, h7⟩ := h
                obtain ⟨o, σ1, ⟨σ', hrq, ho⟩, hk⟩ := ih h7
                split at ho
                · obtain ⟨o2, σ2, ho2, hk2⟩ := ih ho
                  exact ⟨o2, σ2, ho2, fun Q' hq => ⟨h1, h2, h3, h4, h5, h6, hk _ ⟨σ', hrq, hk2 Q' hq⟩⟩⟩
                · obtain ⟨ho1, ho2⟩ := ho
                  split at ho2
                  · rename_i pc' n hha
                    obtain ⟨o2, σ2, ho3, hk2⟩ := ih ho2.2.2
                    refine ⟨o2, σ2, ho3, fun Q' hq => ⟨h1, h2, h3, h4, h5, h6, hk _ ⟨σ', hrq, ho1, ?_⟩⟩⟩
                    rw [hha]
                    exact ⟨ho2.1, ho2.2.1, hk2 Q' hq⟩
                  · rename_i hha
                    refine ⟨_, σ', ho2.2, fun Q' hq => ⟨h1, h2, h3, h4, h5, h6, hk _ ⟨σ', hrq, ho1, ?_⟩⟩⟩
                    rw [hha]
                    exact ⟨ho2.1, hq⟩
            · split at h
              · exact ⟨_, σ, h.2.2.2, fun Q' hq => ⟨h.1, h.2.1, h.2.2.1, hq⟩⟩
              · split at h
                · exact ⟨_, σ, h.2.2.2.2.2.2, fun Q' hq => ⟨h.1, h.2.1, h.2.2.1, h.2.2.2.1, h.2.2.2.2.1, h.2.2.2.2.2.1, hq⟩⟩
                · exact h.elim
/-- a run from here comes to an end with Q -/
def lm_G (X : lm_X) (d i z c k pc : Nat) (L : lm_L) (S : List Value) (σ : lm_S) (Q : lm_O → lm_S → Prop) : Prop := ∃ f, lm_ev X f d i z c k pc L S σ Q
/-- a call of the method i -/
def lm_Q (X : lm_X) (d i : Nat) (as : List Value) (σ : lm_S) (Q : lm_O → lm_S → Prop) : Prop := lm_G X d i σ.2.2.2 0 0 0 (lm_en i as) [] σ Q
theorem lm_G_mono {X : lm_X} {d i z c k pc : Nat} {L : lm_L} {S : List Value} {σ : lm_S} {Q Q' : lm_O → lm_S → Prop} (h : lm_G X d i z c k pc L S σ Q) (hq : ∀ o σ', Q o σ' → Q' o σ') : lm_G X d i z c k pc L S σ Q' := by
  obtain ⟨f, h⟩ := h
  exact ⟨f, lm_ev_mono f f (Nat.le_refl _) hq h⟩
/-- n instructions on, with all that they ask -/
def lm_sn (X : lm_X) (i : Nat) : Nat → Nat → lm_L → List Value → lm_S → lm_N
  | 0, pc, L, S, σ => some (True, pc, L, S, σ)
  | n + 1, pc, L, S, σ => match lm_row i pc with
    | none => none
    | some r => match lm_st X r L S σ with
      | none => none
      | some (g, pc', L', S', σ') => match lm_sn X i n pc' L' S' σ' with
        | none => none
        | some (g', q) => some (g ∧ lm_gd r S ∧ g', q)
theorem lm_G_sn {X : lm_X} {d i z c k : Nat} {Q : lm_O → lm_S → Prop} : ∀ (n : Nat) {pc pc' : Nat} {L L' : lm_L} {S S' : List Value} {σ σ' : lm_S} {g : Prop}, lm_sn X i n pc L S σ = some (g, pc', L', S', σ') → g → lm_G X d i z c k pc' L' S' σ' Q → lm_G X d i z c k pc L S σ Q := by
  intro n
  induction n with
  | zero =>
    intro pc pc' L L' S S' σ σ' g h hg hk
    cases h
    exact hk
  | succ n ih =>
    intro pc pc' L L' S S' σ σ' g h hg hk
    simp only [lm_sn] at h
    split at h
    · cases h
    · rename_i r hr
      split at h
      · cases h
      · rename_i g1 pc1 L1 S1 σ1 hst
        split at h
        · cases h
        · rename_i g2 q2 hsn
          cases h
          obtain ⟨f, hf⟩ := ih hsn hg.2.2 hk
          refine ⟨f + 1, ?_⟩
          simp only [lm_ev, hr, hst]
          exact ⟨hg.1, hg.2.1, hf⟩
/-- a branch -/
def lm_sb (X : lm_X) (i pc : Nat) (L : lm_L) (S : List Value) (σ : lm_S) : Option (Prop × Nat × List Value) := match lm_row i pc with
  | none => none
  | some r => match lm_st X r L S σ with
    | some _ => none
    | none => lm_br r S
theorem lm_G_br {X : lm_X} {d i z c k : Nat} {Q : lm_O → lm_S → Prop} {pc t : Nat} {L : lm_L} {S S' : List Value} {σ : lm_S} {b : Prop} (h : lm_sb X i pc L S σ = some (b, t, S')) (kt : b → lm_G X d i z c k t L S' σ Q) (kf : ¬ b → lm_G X d i z c k (pc + 3) L S' σ Q) : lm_G X d i z c k pc L S σ Q := by
  unfold lm_sb at h
  split at h
  · cases h
  · rename_i r hr
    split at h
    · cases h
    · rename_i hst
      by_cases hb : b
      · obtain ⟨f, hf⟩ := kt hb
        refine ⟨f + 1, ?_⟩
        simp only [lm_ev, hr, hst, h]
        exact ⟨fun _ => hf, fun nb => absurd hb nb⟩
      · obtain ⟨f, hf⟩ := kf hb
        refine ⟨f + 1, ?_⟩
        simp only [lm_ev, hr, hst, h]
        exact ⟨fun b => absurd b hb, fun _ => hf⟩
/-- a call -/
def lm_sc (X : lm_X) (i pc : Nat) (L : lm_L) (S : List Value) (σ : lm_S) : Option (Nat × List Value × List Value) := match lm_row i pc with
  | none => none
  | some r => match lm_st X r L S σ with
    | some _ => none
    | none => match lm_br r S with
      | some _ => none
      | none => match lm_al r S σ with
        | some _ => none
        | none => lm_ca r S
theorem lm_G_caP {X : lm_X} {d i z c k : Nat} {Q : lm_O → lm_S → Prop} {pc j : Nat} {L : lm_L} {S as rest : List Value} {σ : lm_S} (h : lm_sc X i pc L S σ = some (j, as, rest)) (h1 : σ.2.2.2 = lm_N0 ∨ σ.2.2.2 = z + c) (h2 : c + lm_mc j ≤ lm_mc i) (h3 : k + lm_ms j ≤ lm_ms i) (h4 : (rest.map fun v => v.category).sum ≤ 8) (h5 : (lm_ls as).length ≤ lm_ml j) (h6 : lm_rv j as σ = true)
    (hk : lm_Q X d j as σ (fun o σ1 => ∃ σ', lm_rq σ1 σ' ∧ (match o with
      | .inl v => lm_G X (d + 1) i z (c + lm_mc j) (k + lm_ms j) (pc + 3) L (v.toList ++ rest) σ' Q
      | .inr e => lm_kd j ≠ 2 ∧ (match lm_ha i pc e with
        | some (pc', n) => lm_nl L n = true ∧ n < L.length ∧ lm_G X (d + 1) i z (c + lm_mc j) (k + lm_ms j) pc' (L.set n none) [] σ' Q
        | none => lm_hh i = [] ∧ Q (.inr e) σ')))) : lm_G X (d + 1) i z c k pc L S σ Q := by
  unfold lm_sc at h
  split at h
  · cases h
  · rename_i r hr
    split at h
    · cases h
    · rename_i hst
      split at h
      · cases h
      · rename_i hbr
        split at h
        · cases h
        · rename_i hal
          obtain ⟨f1, hf1⟩ := hk
          obtain ⟨o, σ1, ⟨σ', hrq, ho⟩, hone⟩ := lm_ev_one f1 hf1
          cases o with
          | inl v =>
            obtain ⟨f2, hf2⟩ := ho
            refine ⟨max f1 f2 + 1, ?_⟩
            simp only [lm_ev, hr, hst, hbr, hal, h]
            refine ⟨h1, h2, h3, h4, h5, h6, lm_ev_mono f1 _ (Nat.le_max_left _ _) (fun _ _ q => q) (hone _ ⟨σ', hrq, ?_⟩)⟩
            exact lm_ev_mono f2 _ (Nat.le_max_right _ _) (fun _ _ q => q) hf2
          | inr e =>
            obtain ⟨hkd, ho⟩ := ho
            cases hha : lm_ha i pc e with
            | none =>
              rw [hha] at ho
              refine ⟨f1 + 1, ?_⟩
              simp only [lm_ev, hr, hst, hbr, hal, h]
              refine ⟨h1, h2, h3, h4, h5, h6, hone _ ⟨σ', hrq, hkd, ?_⟩⟩
              rw [hha]
              exact ho
            | some q =>
              rw [hha] at ho
              obtain ⟨ho1, ho2, f2, hf2⟩ := ho
              refine ⟨max f1 f2 + 1, ?_⟩
              simp only [lm_ev, hr, hst, hbr, hal, h]
              refine ⟨h1, h2, h3, h4, h5, h6, lm_ev_mono f1 _ (Nat.le_max_left _ _) (fun _ _ q => q) (hone _ ⟨σ', hrq, hkd, ?_⟩)⟩
              rw [hha]
              exact ⟨ho1, ho2, lm_ev_mono f2 _ (Nat.le_max_right _ _) (fun _ _ q => q) hf2⟩
theorem lm_G_ca {X : lm_X} {d i z c k : Nat} {Q : lm_O → lm_S → Prop} {pc j : Nat} {L : lm_L} {S as rest : List Value} {σ : lm_S} (h : lm_sc X i pc L S σ = some (j, as, rest)) (h1 : σ.2.2.2 = lm_N0 ∨ σ.2.2.2 = z + c) (h2 : c + lm_mc j ≤ lm_mc i) (h3 : k + lm_ms j ≤ lm_ms i) (h4 : (rest.map fun v => v.category).sum ≤ 8) (h5 : (lm_ls as).length ≤ lm_ml j) (h6 : lm_rv j as σ = true)
    (hk : lm_Q X d j as σ (fun o σ' => match o with
      | .inl v => lm_G X (d + 1) i z (c + lm_mc j) (k + lm_ms j) (pc + 3) L (v.toList ++ rest) σ' Q
      | .inr e => lm_kd j ≠ 2 ∧ (match lm_ha i pc e with
        | some (pc', n) => lm_nl L n = true ∧ n < L.length ∧ lm_G X (d + 1) i z (c + lm_mc j) (k + lm_ms j) pc' (L.set n none) [] σ' Q
        | none => lm_hh i = [] ∧ Q (.inr e) σ'))) : lm_G X (d + 1) i z c k pc L S σ Q :=
  lm_G_caP h h1 h2 h3 h4 h5 h6 (lm_G_mono hk (fun o σ' ho => ⟨σ', lm_rq_rf σ', ho⟩))
/-- a return -/
def lm_se (X : lm_X) (i pc : Nat) (L : lm_L) (S : List Value) (σ : lm_S) : Option (Prop × Option Value) := match lm_row i pc with
  | none => none
  | some r => match lm_st X r L S σ with
    | some _ => none
    | none => match lm_br r S with
      | some _ => none
      | none => match lm_al r S σ with
        | some _ => none
        | none => match lm_ca r S with
          | some _ => none
          | none => lm_rn i r S
theorem lm_G_re {X : lm_X} {d i z c k : Nat} {Q : lm_O → lm_S → Prop} {pc : Nat} {L : lm_L} {S : List Value} {σ : lm_S} {g : Prop} {v : Option Value} (h : lm_se X i pc L S σ = some (g, v)) (hg : g) (h2 : c ≤ lm_mc i) (h3 : k ≤ lm_ms i) (hq : Q (.inl v) σ) : lm_G X d i z c k pc L S σ Q := by
  unfold lm_se at h
  split at h
  · cases h
  · rename_i r hr
    split at h
    · cases h
    · rename_i hst
      split at h
      · cases h
      · rename_i hbr
        split at h
        · cases h
        · rename_i hal
          split at h
          · cases h
          · rename_i hca
            refine ⟨1, ?_⟩
            simp only [lm_ev, hr, hst, hbr, hal, hca, h]
            exact ⟨hg, h2, h3, hq⟩
/-- instructions that ask nothing -/
def lm_pure (r : lm_R) : Bool := match r.2.1 with
  | .idiv | .irem | .putfield _ | .iaload | .baload | .laload | .aaload | .iastore | .bastore | .lastore | .aastore | .invokestatic _ | .invokevirtual _ | .invokespecial _ => false
  | _ => true
theorem lm_pure_ok {X : lm_X} {r : lm_R} {L : lm_L} {S : List Value} {σ : lm_S} {g : Prop} {q : Nat × lm_L × List Value × lm_S} (h : lm_st X r L S σ = some (g, q)) (hp : lm_pure r = true) : g ∧ lm_gd r S := by
  obtain ⟨pc, ins, x, y, w⟩ := r
  cases ins <;> simp only [lm_pure, Bool.false_eq_true] at hp <;> refine ⟨?_, trivial⟩ <;> simp only [lm_st] at h <;> first
    | (cases h; done)
    | (cases h; trivial)
    | (obtain ⟨q1, q2, q3, q4⟩ := q; unfold lm_get at h; split at h <;> first | (cases h; done) | (split at h <;> first | (cases h; trivial) | (cases h; done)))
    | (obtain ⟨q1, q2, q3, q4⟩ := q; unfold lm_bin at h; split at h <;> first | (cases h; trivial) | (cases h; done))
    | (split at h <;> first | (cases h; trivial) | (cases h; done) | (unfold lm_put at h; split at h <;> first | (cases h; trivial) | (cases h; done)) | (split at h <;> first | (cases h; trivial) | (cases h; done) | (split at h <;> first | (cases h; trivial) | (cases h; done))))
/-- n instructions on, with what those ask that ask anything -/
def lm_sg (X : lm_X) (i : Nat) : Nat → Nat → lm_L → List Value → lm_S → lm_N
  | 0, pc, L, S, σ => some (True, pc, L, S, σ)
  | n + 1, pc, L, S, σ => match lm_row i pc with
    | none => none
    | some r => match lm_st X r L S σ with
      | none => none
      | some (g, pc', L', S', σ') => match lm_sg X i n pc' L' S' σ' with
        | none => none
        | some (g', q) => if lm_pure r then some (g', q) else some (g ∧ lm_gd r S ∧ g', q)
theorem lm_G_sg {X : lm_X} {d i z c k : Nat} {Q : lm_O → lm_S → Prop} : ∀ (n : Nat) {pc pc' : Nat} {L L' : lm_L} {S S' : List Value} {σ σ' : lm_S} {g : Prop}, lm_sg X i n pc L S σ = some (g, pc', L', S', σ') → g → lm_G X d i z c k pc' L' S' σ' Q → lm_G X d i z c k pc L S σ Q := by
  intro n
  induction n with
  | zero =>
    intro pc pc' L L' S S' σ σ' g h hg hk
    cases h
    exact hk
  | succ n ih =>
    intro pc pc' L L' S S' σ σ' g h hg hk
    simp only [lm_sg] at h
    split at h
    · cases h
    · rename_i r hr
      split at h
      · cases h
      · rename_i g1 pc1 L1 S1 σ1 hst
        split at h
        · cases h
        · rename_i g2 q2 hsn
          split at h
          · rename_i hp
            cases h
            obtain ⟨f, hf⟩ := ih hsn hg hk
            obtain ⟨p1, p2⟩ := lm_pure_ok hst hp
            refine ⟨f + 1, ?_⟩
            simp only [lm_ev, hr, hst]
            exact ⟨p1, p2, hf⟩
          · cases h
            obtain ⟨f, hf⟩ := ih hsn hg.2.2 hk
            refine ⟨f + 1, ?_⟩
            simp only [lm_ev, hr, hst]
            exact ⟨hg.1, hg.2.1, hf⟩
/-- what is made -/
def lm_sa (X : lm_X) (i pc : Nat) (L : lm_L) (S : List Value) (σ : lm_S) : Option (Nat × Nat × List Value × lm_S) := match lm_row i pc with
  | none => none
  | some r => match lm_st X r L S σ with
    | some _ => none
    | none => match lm_br r S with
      | some _ => none
      | none => lm_al r S σ
theorem lm_G_al {X : lm_X} {d i z c k : Nat} {Q : lm_O → lm_S → Prop} {pc pc' n : Nat} {L : lm_L} {S S' : List Value} {σ σ' : lm_S} (h : lm_sa X i pc L S σ = some (n, pc', S', σ')) (h1 : σ.2.2.2 < lm_N0) (h2 : σ.2.2.2 = z + c) (h3 : c + 1 ≤ lm_mc i) (h4 : k + n ≤ lm_ms i) (hk : lm_G X d i z (c + 1) (k + n) pc' L S' σ' Q) : lm_G X d i z c k pc L S σ Q := by
  unfold lm_sa at h
  split at h
  · cases h
  · rename_i r hr
    split at h
    · cases h
    · rename_i hst
      split at h
      · cases h
      · rename_i hbr
        obtain ⟨f, hf⟩ := hk
        refine ⟨f + 1, ?_⟩
        simp only [lm_ev, hr, hst, hbr, h]
        exact ⟨h1, h2, h3, h4, hf⟩
/-- 'throw new E()' -/
theorem lm_G_th {X : lm_X} {d i z c k : Nat} {Q : lm_O → lm_S → Prop} {pc e : Nat} {L : lm_L} {σ : lm_S} {r : lm_R} (hr : lm_row i pc = some r) (h : lm_st X r L [] σ = none ∧ lm_br r [] = none ∧ lm_al r [] σ = none ∧ lm_ca r [] = none ∧ lm_rn i r [] = none ∧ lm_th r = some e) (h1 : σ.2.2.2 = lm_N0) (h2 : lm_hh i = []) (h3 : e < 2) (h4 : c + 1 ≤ lm_mc i) (h5 : k + 6 ≤ lm_ms i) (hq : Q (.inr e) σ) : lm_G X d i z c k pc L [] σ Q := by
  refine ⟨1, ?_⟩
  simp only [lm_ev, hr, h.1, h.2.1, h.2.2.1, h.2.2.2.1, h.2.2.2.2.1, h.2.2.2.2.2]
  exact ⟨h1, h2, h3, h4, h5, trivial, hq⟩
