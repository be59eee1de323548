/-- the number of a method's class -/
def lm_cil : List Nat := [0, 0, 0, 0, 0, 0, 0, 0, 0, 1, 1, 1, 1, 1, 2, 2, 2, 2, 2, 2, 2, 2, 3, 3, 3, 3, 3, 3, 3, 3, 3, 3, 3, 3, 3, 3, 3, 3, 3, 3, 3, 3, 3, 3, 3, 3, 3, 4, 4, 4, 4, 5, 5, 5, 5, 5, 5, 5, 5, 5, 5, 5, 5, 5, 5, 5, 5, 5, 5, 5, 5, 5, 5, 5, 5, 5, 7, 5, 5, 5, 6, 6, 6, 6, 6, 7, 7, 7, 7, 7, 7, 7, 7, 7, 7, 7, 7, 7, 7, 7, 7, 7, 7, 7, 7, 7, 7, 7, 7, 7, 7, 7, 7, 7, 7, 7, 7, 7, 7, 7, 7, 7, 7, 7, 7, 7, 7, 7, 7, 7, 7, 7, 7, 7, 7, 7, 7, 7, 7, 8, 8, 8, 8, 8, 8, 8, 8, 8, 8, 8, 8, 8, 8, 8, 8, 8, 8, 8, 8, 8, 8, 8, 8, 8, 8, 8, 8, 8, 8, 8, 8, 8, 8, 8, 8, 8, 8, 8, 8, 8, 8, 8, 8, 8, 8, 8, 8, 8, 8, 8, 8, 8, 8, 8, 8, 8, 8, 8, 8, 8, 8, 8, 8, 8, 8, 8, 8, 8, 8, 8, 8, 8, 8, 8, 8, 8, 8, 8, 8, 8, 8, 8, 8, 8, 8, 8, 8, 8, 8, 8, 8, 8, 8, 8, 8, 8, 8, 8, 8, 8, 8, 8, 8, 8, 99, 99, 99, 99, 99, 99, 99, 99, 99, 99, 99, 99, 99, 99, 99, 99, 99, 99, 99, 99, 99, 99, 99, 99, 99, 99, 99, 99, 99]
theorem lm_cil_ok : ∀ j, j < 272 → lm_kd j = 0 → (vwCl[lm_cil.getD j 99]?).map (fun q => q.1) = some (lm_y j).cls := by decide +kernel
/-- the receiver: an object of the method's class -/
def lm_rv (j : Nat) (as : List Value) (σ : lm_S) : Bool := match lm_kd j with
  | 0 => (match as with
    | .ref a :: _ => decide (a < σ.2.2.2) && (match lm_SH[a]? with
      | some (0, ci, _) => decide (ci = lm_cil.getD j 99)
      | _ => false)
    | _ => false)
  | 1 => true
  | _ => (match as with
    | .ref _ :: _ => true
    | _ => false)
/-- what a call asks of the stack -/
def lm_gd (r : lm_R) (S : List Value) : Prop := match r.2.1 with
  | .invokestatic _ => (S.map fun v => v.category).sum ≤ 8
  | .invokevirtual _ => (S.map fun v => v.category).sum ≤ 8
  | .invokespecial _ => (S.map fun v => v.category).sum ≤ 8
  | _ => True
/-- the slots at a place -/
def lm_w (a : Nat) : Nat := match lm_SH[a]? with
  | some (0, _, ks) => ks.length
  | some (5, n, _) => n
  | _ => 0
/-- the same memory, its references told otherwise -/
def lm_rq (σ σ' : lm_S) : Prop := σ'.1 = σ.1 ∧ σ'.2.2 = σ.2.2 ∧ ∀ a, a < σ.2.2.2 → ∀ j, j < lm_w a → σ'.2.1 a j = σ.2.1 a j
theorem lm_rq_rf (σ : lm_S) : lm_rq σ σ := ⟨rfl, rfl, fun _ _ _ _ => rfl⟩
/-- THE MEANING: with fuel, depth, the method, the cells that there were at its entry, cells and slots made since, pc, locals, stack, memory: the run comes to an end with Q -/
def lm_ev (X : lm_X) : Nat → Nat → Nat → Nat → Nat → Nat → Nat → lm_L → List Value → lm_S → (lm_O → lm_S → Prop) → Prop
  | 0, _, _, _, _, _, _, _, _, _, _ => False
  | f + 1, d, i, z, c, k, pc, L, S, σ, Q => match lm_row i pc with
    | none => False
    | some r => match lm_st X r L S σ with
      | some (g, pc', L', S', σ') => g ∧ lm_gd r S ∧ lm_ev X f d i z c k pc' L' S' σ' Q
      | none => match lm_br r S with
        | some (b, t, S') => (b → lm_ev X f d i z c k t L S' σ Q) ∧ (¬ b → lm_ev X f d i z c k (pc + 3) L S' σ Q)
        | none => match lm_al r S σ with
          | some (n, pc', S', σ') => σ.2.2.2 < lm_N0 ∧ σ.2.2.2 = z + c ∧ c + 1 ≤ lm_mc i ∧ k + n ≤ lm_ms i ∧ lm_ev X f d i z (c + 1) (k + n) pc' L S' σ' Q
          | none => match lm_ca r S with
            | some (j, as, rest) => (match d with
              | 0 => False
              | d' + 1 => (σ.2.2.2 = lm_N0 ∨ σ.2.2.2 = z + c) ∧ c + lm_mc j ≤ lm_mc i ∧ k + lm_ms j ≤ lm_ms i ∧ (rest.map fun v => v.category).sum ≤ 8 ∧ (lm_ls as).length ≤ lm_ml j ∧ lm_rv j as σ = true ∧ lm_ev X f d' j σ.2.2.2 0 0 0 (lm_en j as) [] σ (fun o σ1 => ∃ σ', lm_rq σ1 σ' ∧ (match o with
                | .inl v => lm_ev X f (d' + 1) i z (c + lm_mc j) (k + lm_ms j) (pc + 3) L (v.toList ++ rest) σ' Q
                | .inr e => lm_kd j ≠ 2 ∧ (match lm_ha i pc e with
                  | some (pc', n) => lm_nl L n = true ∧ n < L.length ∧ lm_ev X f (d' + 1) i z (c + lm_mc j) (k + lm_ms j) pc' (L.set n none) [] σ' Q
                  | none => lm_hh i = [] ∧ Q (.inr e) σ'))))
            | none => match lm_rn i r S with
              | some (g, v) => g ∧ c ≤ lm_mc i ∧ k ≤ lm_ms i ∧ Q (.inl v) σ
              | none => match lm_th r with
                | some e => σ.2.2.2 = lm_N0 ∧ lm_hh i = [] ∧ e < 2 ∧ c + 1 ≤ lm_mc i ∧ k + 6 ≤ lm_ms i ∧ S = [] ∧ Q (.inr e) σ
                | none => False
/-! ===== the worlds ===== -/
abbrev lm_tys (tc : Nat → ClassId) : List (ClassId × FieldType) := [(tc 0, .int), (tc 1, .byte), (tc 2, .boolean), (tc 3, .long), (tc 4, .object "java/lang/String")]
def lm_v (ad : Nat → Nat) (v : Value) : Value := match v with
  | .ref k => .ref (ad k)
  | v => v
theorem lm_v_cat (ad : Nat → Nat) (v : Value) : (lm_v ad v).category = v.category := by cases v <;> rfl
def lm_sl (ad : Nat → Nat) (σ : lm_S) (a : Nat) (ks : List Nat) : List Value := (List.range ks.length).map (fun j => if ks.getD j 0 = 2 then va_rf ((σ.2.1 a j).map ad) else .int (σ.1 a j))
def lm_cell (ad : Nat → Nat) (tc : Nat → ClassId) (σ : lm_S) (a : Nat) : va_E := match lm_SH[a]? with
  | some (0, ci, ks) => .inr (ci, lm_sl ad σ a ks)
  | some (t + 1, n, _) => .inl (tc t, n, if t = 3 then .inr (.inl (σ.2.2.1 a)) else if t = 4 then .inr (.inr (.inr (.inr (fun j => (σ.2.1 a j).map ad)))) else .inl (σ.1 a))
  | none => .inr (0, [])
def lm_re (ad : Nat → Nat) (tc : Nat → ClassId) (σ : lm_S) : va_W := (List.range σ.2.2.2).map fun k => (ad k, lm_cell ad tc σ k)
theorem lm_re_at {ad : Nat → Nat} {tc : Nat → ClassId} {σ : lm_S} {k : Nat} (h : k < σ.2.2.2) : (lm_re ad tc σ)[k]? = some (ad k, lm_cell ad tc σ k) := by
  simp [lm_re, h]
theorem lm_re_of {ad : Nat → Nat} {tc : Nat → ClassId} {σ : lm_S} {k : Nat} {q : Nat × va_E} (h : (lm_re ad tc σ)[k]? = some q) : k < σ.2.2.2 ∧ q = (ad k, lm_cell ad tc σ k) := by
  have hk : k < σ.2.2.2 := by
    rcases Nat.lt_or_ge k σ.2.2.2 with h1 | h1
    · exact h1
    · simp [lm_re, Nat.not_lt.mpr h1] at h
  rw [lm_re_at hk] at h
  exact ⟨hk, (Option.some.inj h).symm⟩
theorem lm_ob_spec {σ : lm_S} {a ci k t : Nat} (h : lm_ob σ a ci k = some t) : a < σ.2.2.2 ∧ ∃ ks, lm_SH[a]? = some (0, ci, ks) ∧ ks[k]? = some t := by
  unfold lm_ob at h
  split at h
  · rename_i ha
    refine ⟨ha, ?_⟩
    split at h
    · rename_i c ks heq
      split at h
      · rename_i hc
        subst hc
        exact ⟨ks, heq, h⟩
      · cases h
    · cases h
  · cases h
theorem lm_ar_spec {σ : lm_S} {a t n : Nat} (h : lm_ar σ a = some (t, n)) : a < σ.2.2.2 ∧ ∃ z, lm_SH[a]? = some (t + 1, n, z) := by
  unfold lm_ar at h
  split at h
  · rename_i ha
    refine ⟨ha, ?_⟩
    split at h
    · rename_i t' n' z heq
      cases h
      exact ⟨z, heq⟩
    · cases h
  · cases h
theorem lm_cell_o {ad : Nat → Nat} {tc : Nat → ClassId} {σ : lm_S} {a ci : Nat} {ks : List Nat} (h : lm_SH[a]? = some (0, ci, ks)) : lm_cell ad tc σ a = .inr (ci, lm_sl ad σ a ks) := by
  unfold lm_cell; rw [h]
theorem lm_cell_i {ad : Nat → Nat} {tc : Nat → ClassId} {σ : lm_S} {a t n : Nat} {z : List Nat} (h : lm_SH[a]? = some (t + 1, n, z)) (h3 : t < 3) : lm_cell ad tc σ a = .inl (tc t, n, .inl (σ.1 a)) := by
  unfold lm_cell; rw [h]
  simp only
  rw [if_neg (by omega), if_neg (by omega)]
theorem lm_cell_l {ad : Nat → Nat} {tc : Nat → ClassId} {σ : lm_S} {a n : Nat} {z : List Nat} (h : lm_SH[a]? = some (3 + 1, n, z)) : lm_cell ad tc σ a = .inl (tc 3, n, .inr (.inl (σ.2.2.1 a))) := by
  unfold lm_cell; rw [h]; rfl
theorem lm_cell_q {ad : Nat → Nat} {tc : Nat → ClassId} {σ : lm_S} {a n : Nat} {z : List Nat} (h : lm_SH[a]? = some (4 + 1, n, z)) : lm_cell ad tc σ a = .inl (tc 4, n, .inr (.inr (.inr (.inr (fun j => (σ.2.1 a j).map ad))))) := by
  unfold lm_cell; rw [h]; rfl
/-- a memory that differs at one place -/
theorem lm_P_set {D : va_G} {ad : Nat → Nat} {tc : Nat → ClassId} {σ σ' : lm_S} {a : Nat} {E : va_E} {H : Heap} (ha : a < σ.2.2.2) (hn : σ'.2.2.2 = σ.2.2.2) (hP : va_P D vwCl ((lm_re ad tc σ).set a (ad a, E)) H) (he : lm_cell ad tc σ' a = E) (ho : ∀ b, b ≠ a → lm_cell ad tc σ' b = lm_cell ad tc σ b) : va_P D vwCl (lm_re ad tc σ') H := by
  intro k q hk
  obtain ⟨h1, rfl⟩ := lm_re_of hk
  rw [hn] at h1
  by_cases hka : k = a
  · subst hka
    refine hP k _ ?_
    rw [he, List.getElem?_set_self (by simpa [lm_re] using h1)]
  · refine hP k _ ?_
    rw [List.getElem?_set_ne (Ne.symm hka), lm_re_at h1, ho k hka]
theorem lm_cell_ext {ad : Nat → Nat} {tc : Nat → ClassId} {σ σ' : lm_S} {b : Nat} (h1 : σ'.1 b = σ.1 b) (h2 : σ'.2.1 b = σ.2.1 b) (h3 : σ'.2.2.1 b = σ.2.2.1 b) : lm_cell ad tc σ' b = lm_cell ad tc σ b := by
  unfold lm_cell lm_sl
  rw [h1, h2, h3]
theorem lm_sl_len {ad : Nat → Nat} {σ : lm_S} {a : Nat} {ks : List Nat} : (lm_sl ad σ a ks).length = ks.length := by simp [lm_sl]
theorem lm_sl_at {ad : Nat → Nat} {σ : lm_S} {a : Nat} {ks : List Nat} {j t : Nat} (h : ks[j]? = some t) : (lm_sl ad σ a ks)[j]? = some (if t = 2 then va_rf ((σ.2.1 a j).map ad) else .int (σ.1 a j)) := by
  have hj : j < ks.length := (List.getElem?_eq_some_iff.mp h).1
  have h2 : ks.getD j 0 = t := by simp [List.getD, h]
  unfold lm_sl
  rw [List.getElem?_map, List.getElem?_range hj]
  simp only [Option.map_some, h2]
/-- an object's int field written -/
theorem lm_sl_wr {ad : Nat → Nat} {σ : lm_S} {a : Nat} {ks : List Nat} {j t : Nat} {x : Int32} (h : ks[j]? = some t) (ht : t ≠ 2) : lm_sl ad (lm_wr σ.1 a j x, σ.2) a ks = (lm_sl ad σ a ks).set j (.int x) := by
  apply List.ext_getElem?
  intro m
  have hj : j < ks.length := (List.getElem?_eq_some_iff.mp h).1
  by_cases hm : m = j
  · subst hm
    rw [lm_sl_at h, if_neg ht, List.getElem?_set_self (by rw [lm_sl_len]; exact hj)]
    simp [lm_wr, upd]
  · rw [List.getElem?_set_ne (Ne.symm hm)]
    cases hk : ks[m]? with
    | none =>
      have h1 : ks.length ≤ m := List.getElem?_eq_none_iff.mp hk
      rw [List.getElem?_eq_none_iff.mpr (by rw [lm_sl_len]; exact h1), List.getElem?_eq_none_iff.mpr (by rw [lm_sl_len]; exact h1)]
    | some u =>
      rw [lm_sl_at hk, lm_sl_at hk]
      simp [lm_wr, upd, hm]
theorem lm_sl_wp {ad : Nat → Nat} {σ : lm_S} {a : Nat} {ks : List Nat} {j v : Nat} (h : ks[j]? = some 2) : lm_sl ad (σ.1, lm_wp σ.2.1 a j (some v), σ.2.2) a ks = (lm_sl ad σ a ks).set j (.ref (ad v)) := by
  apply List.ext_getElem?
  intro m
  have hj : j < ks.length := (List.getElem?_eq_some_iff.mp h).1
  by_cases hm : m = j
  · subst hm
    rw [lm_sl_at h, if_pos rfl, List.getElem?_set_self (by rw [lm_sl_len]; exact hj)]
    simp [lm_wp, va_up, va_rf]
  · rw [List.getElem?_set_ne (Ne.symm hm)]
    cases hk : ks[m]? with
    | none =>
      have h1 : ks.length ≤ m := List.getElem?_eq_none_iff.mp hk
      rw [List.getElem?_eq_none_iff.mpr (by rw [lm_sl_len]; exact h1), List.getElem?_eq_none_iff.mpr (by rw [lm_sl_len]; exact h1)]
    | some u =>
      rw [lm_sl_at hk, lm_sl_at hk]
      simp [lm_wp, va_up, hm]
/-- the locals -/
def lm_LS (ad : Nat → Nat) (L : lm_L) (ls : Array Slot) (nL : Nat) : Prop := L.length = nL ∧ ls.size = nL ∧ lv_wf ls ∧ ∀ (j : Nat) (v : Value), L[j]? = some (some v) → ls[j]? = some (.val (lm_v ad v))
def lm_tl (ad : Nat → Nat) (L : lm_L) : List (Nat × Value) := (List.range L.length).filterMap (fun j => (L[j]?.join).map fun v => (j, lm_v ad v))
theorem lm_tl_mem {ad : Nat → Nat} {L : lm_L} {q : Nat × Value} : q ∈ lm_tl ad L ↔ ∃ v, L[q.1]? = some (some v) ∧ q.2 = lm_v ad v := by
  unfold lm_tl
  rw [List.mem_filterMap]
  constructor
  · rintro ⟨j, hj, h⟩
    cases h1 : L[j]? with
    | none => rw [h1] at h; cases h
    | some o =>
      cases o with
      | none => rw [h1] at h; cases h
      | some v =>
        rw [h1] at h
        cases h
        exact ⟨v, h1, rfl⟩
  · rintro ⟨v, h1, h2⟩
    refine ⟨q.1, List.mem_range.mpr (List.getElem?_eq_some_iff.mp h1).1, ?_⟩
    rw [h1, ← show (q.1, q.2) = q from rfl, h2]
    rfl
theorem lm_LS.has {ad : Nat → Nat} {L : lm_L} {ls : Array Slot} {nL : Nat} (h : lm_LS ad L ls nL) : lv_has ls nL (lm_tl ad L) := by
  refine ⟨h.2.1, h.2.2.1, fun q hq => ?_⟩
  obtain ⟨v, h1, h2⟩ := lm_tl_mem.mp hq
  rw [h2]
  exact h.2.2.2 _ _ h1
theorem lm_LS.put {ad : Nat → Nat} {L : lm_L} {ls ls' : Array Slot} {nL k : Nat} {v : Value} (h : lm_LS ad L ls nL) (hk : k < L.length) (hn : lm_nl L k = true) (h' : lv_has ls' nL ((k, lm_v ad v) :: (lm_tl ad L).filter (fun q => !(q.1 == k) && !(q.1 + 1 == k && q.2.category == 2)))) : lm_LS ad (L.set k (some v)) ls' nL := by
  refine ⟨by rw [List.length_set]; exact h.1, h'.1, h'.2.1, fun j w hj => ?_⟩
  by_cases hjk : j = k
  · subst hjk
    rw [List.getElem?_set_self hk] at hj
    cases hj
    exact h'.2.2 (j, lm_v ad v) List.mem_cons_self
  · rw [List.getElem?_set_ne (Ne.symm hjk)] at hj
    refine h'.2.2 (j, lm_v ad w) (List.mem_cons_of_mem _ (List.mem_filter.mpr ⟨lm_tl_mem.mpr ⟨w, hj, rfl⟩, ?_⟩))
    simp only [Bool.and_eq_true, Bool.not_eq_true', beq_eq_false_iff_ne, ne_eq, Bool.and_eq_false_iff]
    refine ⟨hjk, ?_⟩
    by_cases h1 : j + 1 = k
    · right
      subst h1
      rw [lm_v_cat]
      simp only [lm_nl] at hn
      rw [hj] at hn
      cases w <;> simp_all [Value.category]
    · left; exact h1
theorem lm_LS.drop {ad : Nat → Nat} {L : lm_L} {ls ls' : Array Slot} {nL k x : Nat} (h : lm_LS ad L ls nL) (hk : k < L.length) (hn : lm_nl L k = true) (h' : lv_has ls' nL ((k, Value.ref x) :: (lm_tl ad L).filter (fun q => !(q.1 == k) && !(q.1 + 1 == k && q.2.category == 2)))) : lm_LS ad (L.set k none) ls' nL := by
  refine ⟨by rw [List.length_set]; exact h.1, h'.1, h'.2.1, fun j w hj => ?_⟩
  by_cases hjk : j = k
  · subst hjk
    rw [List.getElem?_set_self hk] at hj
    cases hj
  · rw [List.getElem?_set_ne (Ne.symm hjk)] at hj
    refine h'.2.2 (j, lm_v ad w) (List.mem_cons_of_mem _ (List.mem_filter.mpr ⟨lm_tl_mem.mpr ⟨w, hj, rfl⟩, ?_⟩))
    simp only [Bool.and_eq_true, Bool.not_eq_true', beq_eq_false_iff_ne, ne_eq, Bool.and_eq_false_iff]
    refine ⟨hjk, ?_⟩
    by_cases h1 : j + 1 = k
    · right
      subst h1
      rw [lm_v_cat]
      simp only [lm_nl] at hn
      rw [hj] at hn
      cases w <;> simp_all [Value.category]
    · left; exact h1
theorem lm_arrV_ext {cA : ClassId} {N : Nat} {f g : Nat → Value} (h : ∀ j, j < N → f j = g j) : arrV cA N f = arrV cA N g := by
  unfold arrV
  congr 2
  funext j
  exact h j.val j.isLt
theorem lm_rq_P {D : va_G} {ad : Nat → Nat} {tc : Nat → ClassId} {σ σ' : lm_S} {H : Heap} (hq : lm_rq σ σ') (hP : va_P D vwCl (lm_re ad tc σ) H) : va_P D vwCl (lm_re ad tc σ') H := by
  obtain ⟨h1, h2, h3⟩ := hq
  intro k q hk
  obtain ⟨hk1, rfl⟩ := lm_re_of hk
  rw [h2] at hk1
  have hat := hP k _ (lm_re_at hk1)
  have h4 := h3 k hk1
  cases hsh : lm_SH[k]? with
  | none =>
    have e1 : lm_cell ad tc σ' k = lm_cell ad tc σ k := by unfold lm_cell; rw [hsh]
    rw [e1]; exact hat
  | some r =>
    obtain ⟨t, n, ks⟩ := r
    cases t with
    | zero =>
      have hw : lm_w k = ks.length := by unfold lm_w; rw [hsh]; rfl
      have e1 : lm_cell ad tc σ' k = lm_cell ad tc σ k := by
        rw [lm_cell_o hsh, lm_cell_o hsh]
        congr 2
        unfold lm_sl
        apply List.map_congr_left
        intro j hj
        rw [h4 j (by rw [hw]; exact List.mem_range.mp hj), h1]
      rw [e1]; exact hat
    | succ t =>
      by_cases ht4 : t = 4
      · subst ht4
        have hw : lm_w k = n := by unfold lm_w; rw [hsh]; rfl
        rw [lm_cell_q hsh] at hat ⊢
        have hat2 : H[ad k]? = some (arrV (tc 4) n (fun j => va_rf ((σ.2.1 k j).map ad))) := hat
        show H[ad k]? = some (arrV (tc 4) n (fun j => va_rf ((σ'.2.1 k j).map ad)))
        rw [hat2]
        exact congrArg some (lm_arrV_ext (fun j hj => by rw [h4 j (by rw [hw]; exact hj)]))
      · have e1 : lm_cell ad tc σ' k = lm_cell ad tc σ k := by
          unfold lm_cell
          rw [hsh]
          simp only
          rw [if_neg ht4, if_neg ht4, h1, h2]
        rw [e1]; exact hat
