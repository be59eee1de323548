/-! ===== breaths that agree, as a list ===== -/
theorem gD_ {l : List Nat} {i : Nat} (h : i < l.length) : l.getD i 0 = l[i] := by
  rw [List.getD_eq_getElem?_getD, List.getElem?_eq_getElem h]
  rfl
theorem gD_a {l m : List Nat} {i : Nat} (h : i < l.length) : (l ++ m).getD i 0 = l.getD i 0 := by
  rw [List.getD_eq_getElem?_getD, List.getElem?_append_left h, ← List.getD_eq_getElem?_getD]
def glS (F : Fa) (B : Bk) (s : Sc) (n : Nat) : List Nat := (List.range n).filter (gdS F B s)
theorem gl_y {F : Fa} {B : Bk} {s : Sc} {n : Nat} (h : gdS F B s n = true) : glS F B s (n + 1) = glS F B s n ++ [n] := by
  unfold glS
  rw [List.range_succ, List.filter_append]
  simp [h]
theorem gl_n {F : Fa} {B : Bk} {s : Sc} {n : Nat} (h : gdS F B s n = false) : glS F B s (n + 1) = glS F B s n := by
  unfold glS
  rw [List.range_succ, List.filter_append]
  simp [h]
theorem gl_len {F : Fa} {B : Bk} {s : Sc} {n : Nat} : (glS F B s n).length ≤ n := by
  unfold glS
  have := List.length_filter_le (gdS F B s) (List.range n)
  simpa using this
theorem gl_mem {F : Fa} {B : Bk} {s : Sc} {n : Nat} {j : Nat} (h : j ∈ glS F B s n) : j < n ∧ gdS F B s j = true := by
  unfold glS at h
  rw [List.mem_filter, List.mem_range] at h
  exact h
theorem gl_ct {F : Fa} {B : Bk} {s : Sc} : ∀ n, ctS (gdS F B s) n = nI (glS F B s n).length
  | 0 => rfl
  | n + 1 => by
    cases e : gdS F B s n with
    | true => rw [ct_y e, gl_y e, gl_ct n, List.length_append, nI_1]; rfl
    | false => rw [ct_n e, gl_n e, gl_ct n]
theorem gl_fd {F : Fa} {B : Bk} {s : Sc} : ∀ n, n ≤ 160 → fiD (gdS F B s) n = if (glS F B s n).length = 0 then -1 else nI (cdS ((glS F B s n).getD 0 0))
  | 0, _ => rfl
  | n + 1, h => by
    have ih := gl_fd (F := F) (B := B) (s := s) n (by omega)
    cases e : gdS F B s n with
    | false => rw [fd_n e, gl_n e, ih]
    | true =>
      rw [gl_y e]
      by_cases w : (glS F B s n).length = 0
      · rw [if_pos w] at ih
        rw [fd_y e ih (by omega), List.eq_nil_of_length_eq_zero w]
        rfl
      · rw [if_neg w] at ih
        have nz : ¬ fiD (gdS F B s) n = -1 := by rw [ih]; exact nI_m1 (by
          have hl := gl_len (F := F) (B := B) (s := s) (n := n)
          have hm : (glS F B s n).getD 0 0 ∈ glS F B s n := by
            rw [gD_ (by omega)]
            exact List.getElem_mem _
          have := (gl_mem hm).1
          unfold cdS pjS vjS
          omega)
        rw [fd_k nz, ih, if_neg (by rw [List.length_append]; omega), gD_a (by omega)]
def unL (F : Fa) (s : Sc) (q : Nat) (l : List Nat) : Int32 := l.foldl (fun a j => a ||| bit1 (sHu (hrsS F nl (brS s (pjS j) (nI (vjS j))) 5) q + 1)) 0
theorem unL_s {F : Fa} {s : Sc} {q j : Nat} {l : List Nat} : unL F s q (l ++ [j]) = unL F s q l ||| bit1 (sHu (hrsS F nl (brS s (pjS j) (nI (vjS j))) 5) q + 1) := by
  unfold unL
  rw [List.foldl_append]
  rfl
theorem unL_gl {F : Fa} {B : Bk} {s : Sc} {q : Nat} : ∀ n, unL F s q (glS F B s n) = unS F B s q n
  | 0 => rfl
  | n + 1 => by
    cases e : gdS F B s n with
    | true => rw [gl_y e, unL_s, un_y e, unL_gl n]
    | false => rw [gl_n e, un_n e, unL_gl n]
theorem take_s {l : List Nat} {i : Nat} (h : i < l.length) : l.take (i + 1) = l.take i ++ [l.getD i 0] := by
  rw [List.take_succ, gD_ h, List.getElem?_eq_getElem h]
  rfl
theorem getD_mem {l : List Nat} {i : Nat} (h : i < l.length) : l.getD i 0 ∈ l := by
  rw [gD_ h]
  exact List.getElem_mem _
theorem pj_eq {j i : Nat} (h : i < 20) : pjS (20 * j + i) = j ∧ vjS (20 * j + i) = i + 1 := by unfold pjS vjS; omega
/-! see -/
def dSee (F : Fa) (B : Bk) (y z : Int32) : Bool := (decide (y = -1) || isP (fM F) y) && (inR z 1 20 && decide (bkG B < 8))
def seeB (F : Fa) (B : Bk) (x y z : Int32) : Bk := if isP (fN F) x then (if dSee F B y z then seB B x.toNatClampNeg y z.toNatClampNeg else rfB B 2) else B
def aSee (F : Fa) (B : Bk) (x y z : Int32) : An := if isP (fN F) x then .inl (if dSee F B y z then nI (bkG B + 1) else -1) else .inr false
theorem see_in {F : Fa} (hF : okF F) {y : Int32} : inL y.toInt64 (-1) (nI (fM F) - 1).toInt64 = (decide (y = -1) || isP (fM F) y) := by
  rw [rou_in hF.m]
  have hm := hF.m
  rw [Bool.eq_iff_iff, Bool.or_eq_true, decide_eq_true_eq, decide_eq_true_eq]
  constructor
  · intro w
    by_cases e : y = -1
    · exact Or.inl e
    · obtain ⟨i, hi, e2⟩ := rou_ix w.1 w.2 e hm
      refine Or.inr ?_
      rw [e2, isP_iff (by omega)]
      exact ⟨nI_pos' (by omega), nI_lt hi (by omega)⟩
  · rintro (w | w)
    · rw [w]
      refine ⟨Int32.le_refl _, ?_⟩
      exact Int32.lt_of_lt_of_le (by decide) (nI_pos' (n := fM F) (by omega))
    · rw [isP_iff (by omega)] at w
      exact ⟨Int32.le_trans (by decide) w.1, w.2⟩
theorem CB_se {M M1 : Nat → Fn} {F : Fa} {B : Bk} {p n : Nat} {t : Int32} (h : CB 52 M F B) (hg : bkG B < 8) (e0 : M1 52 2 = M 52 2) (e4 : M1 52 4 = nI (bkG B + 1)) (r2 : M1 54 = M 54) (r4 : M1 56 = M 56) (a0 : M1 55 (3 * bkG B) = nI p) (a1 : M1 55 (3 * bkG B + 1) = t) (a2 : M1 55 (3 * bkG B + 2) = nI n) (ao : ∀ i, i < 3 * bkG B → M1 55 i = M 55 i) : CB 52 M1 F (seB B p t n) := by
  refine ⟨e0.trans h.1, e4, fun i hi => by show SavC (M1 54) _ _ _; rw [r2]; exact h.2.2.1 i hi, fun i hi => ?_, fun j hj => by show M1 56 j = _; rw [r4]; exact h.2.2.2.2 j hj⟩
  replace hi : i < bkG B + 1 := hi
  show M1 55 (3 * i) = nI (updN (bkP B) (bkG B) p i) ∧ M1 55 (3 * i + 1) = upd (bkT B) (bkG B) t i ∧ M1 55 (3 * i + 2) = nI (updN (bkH B) (bkG B) n i)
  unfold updN
  by_cases e : i = bkG B
  · rw [if_pos e, if_pos e, e, pk_us]
    exact ⟨a0, a1, a2⟩
  · rw [if_neg e, if_neg e, pk_un e]
    obtain ⟨b1, b2, b3⟩ := h.2.2.2.1 i (by omega)
    exact ⟨(ao _ (by omega)).trans b1, (ao _ (by omega)).trans b2, (ao _ (by omega)).trans b3⟩
theorem MB_se {M : Nat → Fn} {F : Fa} {B : Bk} {p n : Nat} {t x : Int32} (h : MB1 M F B) (hx : x = nI (bkG B + 1)) : MB1 (lm_wr (lm_wr (lm_wr (lm_wr M 92 (bkG B) (nI p)) 93 (bkG B) t) 94 (bkG B) (nI n)) 64 38 x) F (seB B p t n) := by
  refine ⟨h.1, hx, h.2.2.1, fun i hi => ?_, h.2.2.2.2⟩
  replace hi : i < bkG B + 1 := hi
  show upd (M 92) (bkG B) (nI p) i = nI (updN (bkP B) (bkG B) p i) ∧ upd (M 93) (bkG B) t i = upd (bkT B) (bkG B) t i ∧ upd (M 94) (bkG B) (nI n) i = nI (updN (bkH B) (bkG B) n i)
  unfold updN
  by_cases e : i = bkG B
  · rw [if_pos e, if_pos e, e, pk_us, pk_us, pk_us, pk_us]
    exact ⟨rfl, rfl, rfl⟩
  · rw [if_neg e, if_neg e, pk_un e, pk_un e, pk_un e, pk_un e]
    exact h.2.2.2.1 i (by omega)
