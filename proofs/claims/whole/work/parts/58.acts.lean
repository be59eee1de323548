/-! ===== acts ===== -/
def CS (M : Nat → Fn) (F : Fa) (s : Sc) (B : Bk) : Prop := RC 28 M F s ∧ M 28 12 = -1 ∧ CB 52 M F B
def MS (M : Nat → Fn) (F : Fa) (s : Sc) (B : Bk) : Prop := RM M F s ∧ M 64 42 = 0 ∧ MB1 M F B
def frG (a : Nat) : Bool := decide (a = 26 ∨ a = 27 ∨ (28 ≤ a ∧ a ≤ 37) ∨ a = 52 ∨ (54 ≤ a ∧ a ≤ 56))
def frH (a : Nat) : Bool := decide (a = 64 ∨ a = 78 ∨ (81 ≤ a ∧ a ≤ 89) ∨ (92 ≤ a ∧ a ≤ 94))
def FrH (M M1 : Nat → Fn) : Prop := Fr frH M M1 ∧ ∀ k, k ≠ 4 → k ≠ 36 → k ≠ 37 → k ≠ 38 → k ≠ 41 → M1 64 k = M 64 k
theorem FrH_rf (M : Nat → Fn) : FrH M M := ⟨Fr_rf _ _, fun _ _ _ _ _ _ => rfl⟩
theorem FrH_tr {M M1 M2 : Nat → Fn} (h : FrH M M1) (h2 : FrH M1 M2) : FrH M M2 := ⟨Fr_tr h.1 h2.1, fun k a b c d e => (h2.2 k a b c d e).trans (h.2 k a b c d e)⟩
theorem FrH_M {M M1 : Nat → Fn} (h : FrM M M1) : FrH M M1 := by
  refine ⟨Fr_mn h.1 (fun a ha => ?_), fun k _ a _ _ b => h.2 k a b⟩
  unfold frH at ha
  unfold frM
  rw [decide_eq_false_iff_not] at ha
  simp only [Bool.or_eq_false_iff, beq_eq_false_iff_ne]
  omega
theorem FrH_U {M M1 : Nat → Fn} (h : FrU M M1) : FrH M M1 := by
  refine ⟨Fr_mn h.1 (fun a ha => ?_), fun k _ a _ _ _ => h.2 k a⟩
  unfold frH at ha
  unfold frU
  rw [decide_eq_false_iff_not] at ha ⊢
  omega
theorem FrH_wr {M M1 : Nat → Fn} (h : FrH M M1) {a j : Nat} {x : Int32} (ha : frH a = true) (h64 : a ≠ 64) : FrH M (lm_wr M1 a j x) := by
  refine ⟨Fr_wr h.1 ha, fun k a1 a2 a3 a4 a5 => ?_⟩
  rw [wr_row (fun e => h64 e.symm)]
  exact h.2 k a1 a2 a3 a4 a5
theorem FrH_w64 {M M1 : Nat → Fn} (h : FrH M M1) {j : Nat} {x : Int32} (hj : j = 4 ∨ j = 36 ∨ j = 37 ∨ j = 38 ∨ j = 41) : FrH M (lm_wr M1 64 j x) := by
  refine ⟨Fr_wr h.1 rfl, fun k a1 a2 a3 a4 a5 => ?_⟩
  rw [wr_at (by omega)]
  exact h.2 k a1 a2 a3 a4 a5
theorem FG_W {M M1 : Nat → Fn} (h : FrC 28 M M1) : Fr frG M M1 := by
  refine Fr_mn h.1 (fun a ha => ?_)
  unfold frG at ha
  unfold frC
  rw [decide_eq_false_iff_not] at ha
  simp only [Bool.or_eq_false_iff, beq_eq_false_iff_ne]
  omega
theorem FG_L {M M1 : Nat → Fn} (h : FrL M M1) : Fr frG M M1 := by
  refine Fr_mn h.1 (fun a ha => ?_)
  unfold frG at ha
  unfold frL
  rw [decide_eq_false_iff_not] at ha ⊢
  omega
theorem CB_C {M M1 : Nat → Fn} {F : Fa} {B : Bk} (h : CB 52 M F B) (f : FrC 28 M M1) : CB 52 M1 F B := CB_fr h (f.1 52 rfl) (f.1 54 rfl) (f.1 55 rfl) (f.1 56 rfl)
theorem CB_L {M M1 : Nat → Fn} {F : Fa} {B : Bk} (h : CB 52 M F B) (f : FrL M M1) : CB 52 M1 F B := CB_fr h (f.1 52 rfl) (f.1 54 rfl) (f.1 55 rfl) (f.1 56 rfl)
theorem MB_M {M M1 : Nat → Fn} {F : Fa} {B : Bk} (h : MB1 M F B) (f : FrM M M1) : MB1 M1 F B := MB_fr h (f.2 37 (by decide) (by decide)) (f.2 38 (by decide) (by decide)) (f.1 87 rfl) (f.1 92 rfl) (f.1 93 rfl) (f.1 94 rfl) (f.1 78 rfl)
theorem MB_U {M M1 : Nat → Fn} {F : Fa} {B : Bk} (h : MB1 M F B) (f : FrU M M1) : MB1 M1 F B := MB_fr h (f.2 37 (by decide)) (f.2 38 (by decide)) (f.1 87 rfl) (f.1 92 rfl) (f.1 93 rfl) (f.1 94 rfl) (f.1 78 rfl)
theorem MS_M {M M1 : Nat → Fn} {F : Fa} {s s' : Sc} {B : Bk} (h : MS M F s B) (f : FrM M M1) (hr : RM M1 F s') : MS M1 F s' B := ⟨hr, (f.2 42 (by decide) (by decide)).trans h.2.1, MB_M h.2.2 f⟩
theorem MS_U {M M1 : Nat → Fn} {F : Fa} {s s' : Sc} {B : Bk} (h : MS M F s B) (f : FrU M M1) (hr : RM M1 F s') : MS M1 F s' B := ⟨hr, (f.2 42 (by decide)).trans h.2.1, MB_U h.2.2 f⟩
theorem CS_C {M M1 : Nat → Fn} {F : Fa} {s s' : Sc} {B : Bk} (h : CS M F s B) (f : FrC 28 M M1) (hr : RC 28 M1 F s') : CS M1 F s' B := ⟨hr, (f.2 12 (by decide) (by decide)).trans h.2.1, CB_C h.2.2 f⟩
theorem MS_4 {M : Nat → Fn} {F : Fa} {s : Sc} {B : Bk} (h : MS M F s B) (x : Int32) : MS (lm_wr M 64 4 x) F s B := ⟨RM_taken h.1 4 (by decide) x, (wr_at (by decide)).trans h.2.1, MB_fr h.2.2 (wr_at (by decide)) (wr_at (by decide)) rfl rfl rfl rfl rfl⟩
def coS (s : Sc) (p q : Nat) : Sc := (sHr s, sBr s, sPl s, upd (upd (sCo s) p (sCo s p - 1)) q (upd (sCo s) p (sCo s p - 1) q + 1), sHu s, sHd s, sId s, sOw s)
def actS (d : Bool) (s s' : Sc) : Sc := if d then s' else s
def actB (ok d : Bool) (B : Bk) (s : Sc) : Bk := if ok then (if d then kpB B s else rfB B 1) else B
def actA (ok d : Bool) (v : Int32) : An := if ok then .inl (if d then v else -1) else .inr false
def dHrs (s : Sc) (x : Int32) : Bool := inR x 1 20 && decide (sHr s + x ≤ 999)
def dSell (F : Fa) (s : Sc) (t p : Nat) : Bool := decide (sOw s t ≠ -1) && (decide (humS F (sHu s) (nI t) = 0) && (decide (sOw s t ≠ nI p) && decide (sCo s p ≠ 0)))
def dGo (s : Sc) (p : Nat) (y : Int32) : Bool := inR y 0 30 && decide (y ≠ sPl s p)
/-! the book: one more, one less -/
theorem CB_kp {M M1 : Nat → Fn} {F : Fa} {B : Bk} {s : Sc} (hF : okF F) (hb : CB 52 M F B) (hA : bkA B < 40) (h2 : M1 52 2 = nI (bkA B + 1)) (h4 : M1 52 4 = M 52 4) (hv : SavC (M1 54) (47 * bkA B) F s) (ho : ∀ i, i < 47 * bkA B → M1 54 i = M 54 i) (e3 : M1 55 = M 55) (e4 : M1 56 = M 56) : CB 52 M1 F (kpB B s) := by
  have e : kpB B s = (bkA B + 1, (fun i => if i = bkA B then s else bkS B i), B.2.2) := if_neg (by omega)
  rw [e]
  refine ⟨h2, h4.trans hb.2.1, fun i hi => ?_, ?_, ?_⟩
  · replace hi : i < bkA B + 1 := hi
    show SavC (M1 54) (47 * i) F (if i = bkA B then s else bkS B i)
    by_cases w : i = bkA B
    · rw [if_pos w, w]
      exact hv
    · rw [if_neg w]
      exact SavC_eq hF (hb.2.2.1 i (by omega)) (fun k a1 a2 => ho k (by omega))
  · show ∀ i, i < bkG B → M1 55 (3 * i) = nI (bkP B i) ∧ M1 55 (3 * i + 1) = bkT B i ∧ M1 55 (3 * i + 2) = nI (bkH B i)
    rw [e3]
    exact hb.2.2.2.1
  · show ∀ j, j < 3 → M1 56 j = bkR B j
    rw [e4]
    exact hb.2.2.2.2
theorem CB_kp40 {M M1 : Nat → Fn} {F : Fa} {B : Bk} {s : Sc} (hF : okF F) (hb : CB 52 M F B) (hA : bkA B = 40) (h2 : M1 52 2 = nI 40) (h4 : M1 52 4 = M 52 4) (hv : SavC (M1 54) 1833 F s) (ho : ∀ i, i < 1833 → M1 54 i = M 54 (47 + i)) (e3 : M1 55 = M 55) (e4 : M1 56 = M 56) : CB 52 M1 F (kpB B s) := by
  have e : kpB B s = (40, (fun i => if i < 39 then bkS B (i + 1) else s), B.2.2) := if_pos hA
  rw [e]
  refine ⟨h2, h4.trans hb.2.1, fun i hi => ?_, ?_, ?_⟩
  · replace hi : i < 40 := hi
    show SavC (M1 54) (47 * i) F (if i < 39 then bkS B (i + 1) else s)
    by_cases w : i < 39
    · rw [if_pos w]
      exact SavC_mv hF (hb.2.2.1 (i + 1) (by omega)) (fun k hk => by rw [ho _ (by omega)]; congr 1; omega)
    · rw [if_neg w, show 47 * i = 1833 by omega]
      exact hv
  · show ∀ i, i < bkG B → M1 55 (3 * i) = nI (bkP B i) ∧ M1 55 (3 * i + 1) = bkT B i ∧ M1 55 (3 * i + 2) = nI (bkH B i)
    rw [e3]
    exact hb.2.2.2.1
  · show ∀ j, j < 3 → M1 56 j = bkR B j
    rw [e4]
    exact hb.2.2.2.2
theorem MB_kp {M M1 : Nat → Fn} {F : Fa} {B : Bk} {s : Sc} (hF : okF F) (hb : MB1 M F B) (hA : bkA B < 40) (h2 : M1 64 37 = nI (bkA B + 1)) (h4 : M1 64 38 = M 64 38) (hv : SavM (M1 87) (47 * bkA B) F s) (ho : ∀ i, i < 47 * bkA B → M1 87 i = M 87 i) (e1 : M1 92 = M 92) (e2 : M1 93 = M 93) (e3 : M1 94 = M 94) (e4 : M1 78 = M 78) : MB1 M1 F (kpB B s) := by
  have e : kpB B s = (bkA B + 1, (fun i => if i = bkA B then s else bkS B i), B.2.2) := if_neg (by omega)
  rw [e]
  refine ⟨h2, h4.trans hb.2.1, fun i hi => ?_, ?_, ?_⟩
  · replace hi : i < bkA B + 1 := hi
    show SavM (M1 87) (47 * i) F (if i = bkA B then s else bkS B i)
    by_cases w : i = bkA B
    · rw [if_pos w, w]
      exact hv
    · rw [if_neg w]
      exact SavM_eq hF (hb.2.2.1 i (by omega)) (fun k a1 a2 => ho k (by omega))
  · show ∀ i, i < bkG B → M1 92 i = nI (bkP B i) ∧ M1 93 i = bkT B i ∧ M1 94 i = nI (bkH B i)
    rw [e1, e2, e3]
    exact hb.2.2.2.1
  · show ∀ j, j < 3 → M1 78 j = bkR B j
    rw [e4]
    exact hb.2.2.2.2
theorem MB_kp40 {M M1 : Nat → Fn} {F : Fa} {B : Bk} {s : Sc} (hF : okF F) (hb : MB1 M F B) (hA : bkA B = 40) (h2 : M1 64 37 = nI 40) (h4 : M1 64 38 = M 64 38) (hv : SavM (M1 87) 1833 F s) (ho : ∀ i, i < 1833 → M1 87 i = M 87 (47 + i)) (e1 : M1 92 = M 92) (e2 : M1 93 = M 93) (e3 : M1 94 = M 94) (e4 : M1 78 = M 78) : MB1 M1 F (kpB B s) := by
  have e : kpB B s = (40, (fun i => if i < 39 then bkS B (i + 1) else s), B.2.2) := if_pos hA
  rw [e]
  refine ⟨h2, h4.trans hb.2.1, fun i hi => ?_, ?_, ?_⟩
  · replace hi : i < 40 := hi
    show SavM (M1 87) (47 * i) F (if i < 39 then bkS B (i + 1) else s)
    by_cases w : i < 39
    · rw [if_pos w]
      exact SavM_mv hF (hb.2.2.1 (i + 1) (by omega)) (fun k hk => by rw [ho _ (by omega)]; congr 1; omega)
    · rw [if_neg w, show 47 * i = 1833 by omega]
      exact hv
  · show ∀ i, i < bkG B → M1 92 i = nI (bkP B i) ∧ M1 93 i = bkT B i ∧ M1 94 i = nI (bkH B i)
    rw [e1, e2, e3]
    exact hb.2.2.2.1
  · show ∀ j, j < 3 → M1 78 j = bkR B j
    rw [e4]
    exact hb.2.2.2.2
theorem CB_rf {M : Nat → Fn} {F : Fa} {B : Bk} (hb : CB 52 M F B) {j : Nat} (hj : j < 3) : CB 52 (lm_wr M 56 j (M 56 j + 1)) F (rfB B j) := by
  refine ⟨hb.1, hb.2.1, hb.2.2.1, hb.2.2.2.1, fun i hi => ?_⟩
  show upd (M 56) j (M 56 j + 1) i = upd (bkR B) j (bkR B j + 1) i
  rw [hb.2.2.2.2 j hj]
  by_cases e : i = j
  · subst e
    rw [pk_us, pk_us]
  · rw [pk_un e, pk_un e]
    exact hb.2.2.2.2 i hi
theorem MB_rf {M : Nat → Fn} {F : Fa} {B : Bk} (hb : MB1 M F B) {j : Nat} (hj : j < 3) : MB1 (lm_wr M 78 j (M 78 j + 1)) F (rfB B j) := by
  refine ⟨hb.1, hb.2.1, hb.2.2.1, hb.2.2.2.1, fun i hi => ?_⟩
  show upd (M 78) j (M 78 j + 1) i = upd (bkR B) j (bkR B j + 1) i
  rw [hb.2.2.2.2 j hj]
  by_cases e : i = j
  · subst e
    rw [pk_us, pk_us]
  · rw [pk_un e, pk_un e]
    exact hb.2.2.2.2 i hi
