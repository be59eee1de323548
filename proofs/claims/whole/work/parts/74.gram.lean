/-! ===== the grammar ===== -/
abbrev Cd : Type := List (Nat × Nat)
abbrev PR : Type := (Nat × Cd) ⊕ (Nat × Nat)
def canB (T : Tx) (p : Nat) : Bool := decide (knS T p = 2) || (decide (knS T p = 1) || isSg T p 40)
/-- which value a word is (J: of the rule of joining), 6: none -/
def valS (J : Bool) (T : Tx) (p : Nat) : Nat := if isWd T p w6 then 0 else if isWd T p w7 then 1 else if isWd T p w8 then 2 else if isWd T p w9 then 3 else if isWd T p w10 then 4 else if (if J then isWd T p w12 else isWd T p w11) then 5 else 6
/-- what is done at a level, 9: nothing -/
def opS (T : Tx) (lv p : Nat) : Nat := match lv with
  | 0 => if isWd T p w14 then 8 else 9
  | 1 => if isWd T p w15 then 7 else 9
  | 2 => if isSg T p 60 then 4 else if isSg T p 61 then 5 else 9
  | 3 => if isSg T p 43 then 0 else if isSg T p 45 then 1 else 9
  | _ => if isSg T p 42 then 2 else if isSg T p 47 then 3 else 9
def ptS (T : Tx) (J dp : Bool) (rec : Nat → PR) (p : Nat) : PR :=
  if isSg T p 40 then (if dp then .inr (if canB T (enS T p) then 2 else 1, stS' T (enS T p)) else match rec (enS T p) with
    | .inl (r, c) => if isSg T r 41 then .inl (enS T r, c) else .inr (1, stS' T r)
    | .inr e => .inr e)
  else if knS T p = 2 then (if lnS T p ≤ 4 then .inl (enS T p, [(0, nuS T p)]) else .inr (2, stS' T p))
  else if knS T p = 1 then (if valS J T p = 6 then .inr (3, stS' T p) else .inl (enS T p, [(1, valS J T p)]))
  else .inr (1, stS' T p)
/-- more of them, as long as something is done at this level -/
def chn (T : Tx) (lv : Nat) (sub : Nat → PR) : Nat → Nat → Cd → PR
  | 0, p, c => .inl (p, c)
  | f + 1, p, c => if opS T lv p = 9 then .inl (p, c) else match sub (enS T p) with
    | .inl (r, c2) => chn T lv sub f r (c ++ c2 ++ [(2, opS T lv p)])
    | .inr e => .inr e
def lvl (T : Tx) (lv : Nat) (sub : Nat → PR) (p : Nat) : PR := match sub p with
  | .inl (r, c) => chn T lv sub (if lv = 2 then 1 else 700) r c
  | .inr e => .inr e
/-- how many 'not's there are, and what is behind them -/
def ntN (T : Tx) : Nat → Nat → Nat
  | 0, _ => 0
  | f + 1, p => if isWd T p w13 then ntN T f (enS T p) + 1 else 0
def ntP (T : Tx) : Nat → Nat → Nat
  | 0, p => p
  | f + 1, p => if isWd T p w13 then ntP T f (enS T p) else p
def tst (T : Tx) (sub : Nat → PR) (p : Nat) : PR := if isWd T (ntP T 6 p) w13 then .inr (2, stS' T (ntP T 6 p)) else match lvl T 2 sub (ntP T 6 p) with
  | .inl (r, c) => .inl (r, c ++ List.replicate (ntN T 6 p) (2, 6))
  | .inr e => .inr e
def pX (T : Tx) (J dp : Bool) (rec : Nat → PR) : Nat → PR := lvl T 0 (lvl T 1 (tst T (lvl T 3 (lvl T 4 (ptS T J dp rec)))))
/-- an expression that may hold so many others one within the other -/
def pE (T : Tx) (J : Bool) : Nat → Nat → PR
  | 0 => pX T J true (fun _ => .inr (0, 0))
  | f + 1 => pX T J false (pE T J f)
/-! how far, how long, how deep -/
def okL (T : Tx) (sub : Nat → PR) : Prop := ∀ p r c, p ≤ tN T → sub p = .inl (r, c) → p < r ∧ r ≤ tN T ∧ c.length ≤ r - p
theorem sg_kn {T : Tx} {p c : Nat} (h : isSg T p c = true) : knS T p = 3 := by
  unfold isSg at h
  rw [Bool.and_eq_true] at h
  exact of_decide_eq_true h.1
theorem wd_kn {T : Tx} {p : Nat} {w : List Nat} (h : isWd T p w = true) : knS T p = 1 := by
  unfold isWd at h
  rw [Bool.and_eq_true] at h
  exact of_decide_eq_true h.1
theorem op_kn {T : Tx} {lv p : Nat} (h : opS T lv p ≠ 9) : knS T p ≠ 0 := by
  intro w
  apply h
  have hs : ∀ c, isSg T p c = false := fun c => by cases e : isSg T p c with
    | false => rfl
    | true => rw [sg_kn e] at w; cases w
  have hw : ∀ l, isWd T p l = false := fun l => by cases e : isWd T p l with
    | false => rfl
    | true => rw [wd_kn e] at w; cases w
  unfold opS
  split <;> simp [hs, hw]
theorem okL_pt {T : Tx} {J dp : Bool} {rec : Nat → PR} (h : dp = false → okL T rec) : okL T (ptS T J dp rec) := by
  intro p r c hp e
  unfold ptS at e
  by_cases h1 : isSg T p 40 = true
  · rw [if_pos h1] at e
    have g1 := en_gt hp (by rw [sg_kn h1]; decide)
    have l1 := (en_le hp).2.1
    cases dp with
    | true => simp at e
    | false =>
      rw [if_neg (by decide)] at e
      split at e
      · rename_i r2 c2 e2
        obtain ⟨a1, a2, a3⟩ := h rfl _ _ _ l1 e2
        split at e
        · rename_i h2
          have g2 := en_gt a2 (by rw [sg_kn h2]; decide)
          have l2 := (en_le a2).2.1
          cases e
          exact ⟨by omega, l2, by omega⟩
        · cases e
      · cases e
  · rw [if_neg h1] at e
    by_cases h2 : knS T p = 2
    · rw [if_pos h2] at e
      have g1 := en_gt hp (by rw [h2]; decide)
      have l1 := (en_le hp).2.1
      split at e
      · cases e
        exact ⟨g1, l1, by simp; omega⟩
      · cases e
    · rw [if_neg h2] at e
      by_cases h3 : knS T p = 1
      · rw [if_pos h3] at e
        have g1 := en_gt hp (by rw [h3]; decide)
        have l1 := (en_le hp).2.1
        split at e
        · cases e
        · cases e
          exact ⟨g1, l1, by simp; omega⟩
      · rw [if_neg h3] at e
        cases e
theorem okL_chn {T : Tx} {lv : Nat} {sub : Nat → PR} (h : okL T sub) : ∀ f p c r c2, p ≤ tN T → chn T lv sub f p c = .inl (r, c2) → p ≤ r ∧ r ≤ tN T ∧ c2.length ≤ c.length + (r - p)
  | 0, p, c, r, c2, hp, e => by
    simp only [chn] at e
    cases e
    exact ⟨Nat.le_refl _, hp, by omega⟩
  | f + 1, p, c, r, c2, hp, e => by
    simp only [chn] at e
    by_cases h9 : opS T lv p = 9
    · rw [if_pos h9] at e
      cases e
      exact ⟨Nat.le_refl _, hp, by omega⟩
    · rw [if_neg h9] at e
      have g1 := en_gt hp (op_kn h9)
      have l1 := (en_le hp).2.1
      split at e
      · rename_i r3 c3 e3
        obtain ⟨a1, a2, a3⟩ := h _ _ _ l1 e3
        obtain ⟨b1, b2, b3⟩ := okL_chn h f r3 _ r c2 a2 e
        simp only [List.length_append, List.length_cons, List.length_nil] at b3
        exact ⟨by omega, b2, by omega⟩
      · cases e
theorem okL_lvl {T : Tx} {lv : Nat} {sub : Nat → PR} (h : okL T sub) : okL T (lvl T lv sub) := by
  intro p r c hp e
  unfold lvl at e
  split at e
  · rename_i r2 c2 e2
    obtain ⟨a1, a2, a3⟩ := h _ _ _ hp e2
    obtain ⟨b1, b2, b3⟩ := okL_chn h _ r2 c2 r c a2 e
    exact ⟨by omega, b2, by omega⟩
  · cases e
theorem nt_le {T : Tx} : ∀ f p, p ≤ tN T → p + ntN T f p ≤ ntP T f p ∧ ntP T f p ≤ tN T
  | 0, p, hp => ⟨by simp [ntN, ntP], hp⟩
  | f + 1, p, hp => by
    simp only [ntN, ntP]
    by_cases h : isWd T p w13 = true
    · rw [if_pos h, if_pos h]
      have g1 := en_gt hp (by rw [wd_kn h]; decide)
      have := nt_le f (enS T p) (en_le hp).2.1
      exact ⟨by omega, this.2⟩
    · rw [if_neg h, if_neg h]
      exact ⟨by omega, hp⟩
theorem okL_tst {T : Tx} {sub : Nat → PR} (h : okL T sub) : okL T (tst T sub) := by
  intro p r c hp e
  unfold tst at e
  obtain ⟨n1, n2⟩ := nt_le 6 p hp
  split at e
  · cases e
  · split at e
    · rename_i r2 c2 e2
      obtain ⟨a1, a2, a3⟩ := okL_lvl h _ _ _ n2 e2
      cases e
      rw [List.length_append, List.length_replicate]
      exact ⟨by omega, a2, by omega⟩
    · cases e
theorem okL_pX {T : Tx} {J dp : Bool} {rec : Nat → PR} (h : dp = false → okL T rec) : okL T (pX T J dp rec) := okL_lvl (okL_lvl (okL_tst (okL_lvl (okL_lvl (okL_pt h)))))
theorem okL_pE {T : Tx} {J : Bool} : ∀ f, okL T (pE T J f)
  | 0 => okL_pX (fun w => by cases w)
  | f + 1 => okL_pX (fun _ => okL_pE f)
/-- where n numbers wait, the code may stand, and one more waits behind it -/
def okW (T : Tx) (b : Nat) (sub : Nat → PR) : Prop := ∀ p r c, p ≤ tN T → sub p = .inl (r, c) → ∀ n rest, n ≤ b → wfS rest (n + 1) → wfS (c ++ rest) n
theorem okW_pt {T : Tx} {J dp : Bool} {rec : Nat → PR} {b : Nat} (hb : b ≤ 30) (h : dp = false → okW T b rec) : okW T b (ptS T J dp rec) := by
  intro p r c hp e n rest hn hw
  unfold ptS at e
  by_cases h1 : isSg T p 40 = true
  · rw [if_pos h1] at e
    cases dp with
    | true => simp at e
    | false =>
      rw [if_neg (by decide)] at e
      split at e
      · rename_i r2 c2 e2
        split at e
        · cases e
          exact h rfl _ _ _ (en_le hp).2.1 e2 n rest hn hw
        · cases e
      · cases e
  · rw [if_neg h1] at e
    by_cases h2 : knS T p = 2
    · rw [if_pos h2] at e
      split at e
      · rename_i h4
        cases e
        have := nu_le h2 h4
        exact ⟨by omega, by omega, hw⟩
      · cases e
    · rw [if_neg h2] at e
      by_cases h3 : knS T p = 1
      · rw [if_pos h3] at e
        split at e
        · cases e
        · rename_i h6
          cases e
          refine ⟨?_, by omega, hw⟩
          have : valS J T p ≤ 6 := by
            unfold valS
            repeat' split
            all_goals omega
          omega
      · rw [if_neg h3] at e
        cases e
theorem op_le {T : Tx} {lv p : Nat} (h : opS T lv p ≠ 9) : opS T lv p < 9 ∧ opS T lv p ≠ 6 := by
  unfold opS at h ⊢
  split <;> (repeat' split) <;> simp_all
theorem okW_chn {T : Tx} {lv b : Nat} {sub : Nat → PR} (hl : okL T sub) (h : okW T (b + 1) sub) : ∀ f p c r c2, p ≤ tN T → chn T lv sub f p c = .inl (r, c2) → ∀ n rest, n ≤ b → (∀ rest, wfS rest (n + 1) → wfS (c ++ rest) n) → wfS rest (n + 1) → wfS (c2 ++ rest) n
  | 0, p, c, r, c2, hp, e, n, rest, hn, hc, hw => by
    simp only [chn] at e
    cases e
    exact hc rest hw
  | f + 1, p, c, r, c2, hp, e, n, rest, hn, hc, hw => by
    simp only [chn] at e
    by_cases h9 : opS T lv p = 9
    · rw [if_pos h9] at e
      cases e
      exact hc rest hw
    · rw [if_neg h9] at e
      have l1 := (en_le hp).2.1
      split at e
      · rename_i r3 c3 e3
        refine okW_chn hl h f r3 _ r c2 (hl _ _ _ l1 e3).2.1 e n rest hn (fun rest2 hw2 => ?_) hw
        rw [List.append_assoc, List.append_assoc]
        refine hc _ (h _ _ _ l1 e3 (n + 1) _ (by omega) ?_)
        obtain ⟨o1, o2⟩ := op_le h9
        show opS T lv p < 9 ∧ (if opS T lv p = 6 then 1 ≤ n + 2 ∧ wfS rest2 (n + 2) else 2 ≤ n + 2 ∧ wfS rest2 (n + 2 - 1))
        rw [if_neg o2]
        exact ⟨o1, by omega, hw2⟩
      · cases e
theorem okW_lvl {T : Tx} {lv b : Nat} {sub : Nat → PR} (hl : okL T sub) (h : okW T (b + 1) sub) : okW T b (lvl T lv sub) := by
  intro p r c hp e n rest hn hw
  unfold lvl at e
  split at e
  · rename_i r2 c2 e2
    exact okW_chn hl h _ r2 c2 r c (hl _ _ _ hp e2).2.1 e n rest hn (fun rest2 hw2 => h _ _ _ hp e2 n rest2 (by omega) hw2) hw
  · cases e
theorem wf_nots {n : Nat} (hn : 1 ≤ n) : ∀ k rest, wfS rest n → wfS (List.replicate k (2, 6) ++ rest) n
  | 0, rest, h => h
  | k + 1, rest, h => by
    show wfS ((2, 6) :: (List.replicate k (2, 6) ++ rest)) n
    refine ⟨by omega, ?_⟩
    rw [if_pos rfl]
    exact ⟨hn, wf_nots hn k rest h⟩
theorem okW_tst {T : Tx} {b : Nat} {sub : Nat → PR} (hl : okL T sub) (h : okW T (b + 1) sub) : okW T b (tst T sub) := by
  intro p r c hp e n rest hn hw
  unfold tst at e
  split at e
  · cases e
  · split at e
    · rename_i r2 c2 e2
      cases e
      rw [List.append_assoc]
      exact okW_lvl hl h _ _ _ (nt_le 6 p hp).2 e2 n _ hn (wf_nots (by omega) _ _ hw)
    · cases e
theorem okW_pX {T : Tx} {J dp : Bool} {rec : Nat → PR} {b : Nat} (hb : b + 5 ≤ 30) (hl : dp = false → okL T rec) (h : dp = false → okW T (b + 5) rec) : okW T b (pX T J dp rec) :=
  okW_lvl (okL_lvl (okL_tst (okL_lvl (okL_lvl (okL_pt hl))))) (okW_lvl (okL_tst (okL_lvl (okL_lvl (okL_pt hl)))) (okW_tst (okL_lvl (okL_lvl (okL_pt hl))) (okW_lvl (okL_lvl (okL_pt hl)) (okW_lvl (okL_pt hl) (okW_pt (by omega) h)))))
theorem okW_pE {T : Tx} {J : Bool} : ∀ f b, b + 5 * f ≤ 25 → okW T b (pE T J f)
  | 0, b, hb => okW_pX (by omega) (fun w => by cases w) (fun w => by cases w)
  | f + 1, b, hb => okW_pX (by omega) (fun _ => okL_pE f) (fun _ => okW_pE f (b + 5) (by omega))
theorem wf_top {T : Tx} {J : Bool} {p r : Nat} {c : Cd} (hp : p ≤ tN T) (h : pE T J 5 p = .inl (r, c)) : wfS c 0 := by
  have := okW_pE (T := T) (J := J) 5 0 (by omega) p r c hp h 0 [] (by omega) rfl
  rw [List.append_nil] at this
  exact this
