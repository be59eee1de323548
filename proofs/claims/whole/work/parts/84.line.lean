/-! ===== lines: what a text tells ===== -/
/-- people, tunes, earshot, whether it is told, breath, rest, place, cows, who whistles, air, owner, the rules -/
abbrev Dr : Type := Nat × Nat × Int32 × Bool × Fn × Fn × Fn × Fn × Fn × Fn × Fn × Cd × Cd
abbrev dNo (D : Dr) : Nat := D.1
abbrev dM (D : Dr) : Nat := D.2.1
abbrev dE (D : Dr) : Int32 := D.2.2.1
abbrev dT (D : Dr) : Bool := D.2.2.2.1
abbrev dBr (D : Dr) : Fn := D.2.2.2.2.1
abbrev dRe (D : Dr) : Fn := D.2.2.2.2.2.1
abbrev dPl (D : Dr) : Fn := D.2.2.2.2.2.2.1
abbrev dCo (D : Dr) : Fn := D.2.2.2.2.2.2.2.1
abbrev dWh (D : Dr) : Fn := D.2.2.2.2.2.2.2.2.1
abbrev dAi (D : Dr) : Fn := D.2.2.2.2.2.2.2.2.2.1
abbrev dOw (D : Dr) : Fn := D.2.2.2.2.2.2.2.2.2.2.1
abbrev dR0 (D : Dr) : Cd := D.2.2.2.2.2.2.2.2.2.2.2.1
abbrev dR1 (D : Dr) : Cd := D.2.2.2.2.2.2.2.2.2.2.2.2
def dRJ (D : Dr) (J : Bool) : Cd := if J then dR1 D else dR0 D
def adP (D : Dr) (w : Bool) (b r q c : Nat) : Dr := (dNo D + 1, dM D, dE D, dT D, upd (dBr D) (dNo D) (nI b), upd (dRe D) (dNo D) (nI r), upd (dPl D) (dNo D) (nI q), upd (dCo D) (dNo D) (nI c), upd (dWh D) (dNo D) (b2i w), dAi D, dOw D, dR0 D, dR1 D)
def adT (D : Dr) (a : Nat) (o : Int32) : Dr := (dNo D, dM D + 1, dE D, dT D, dBr D, dRe D, dPl D, dCo D, dWh D, upd (dAi D) (dM D) (nI a), upd (dOw D) (dM D) o, dR0 D, dR1 D)
def adE (D : Dr) (x : Nat) : Dr := (dNo D, dM D, nI x, true, dBr D, dRe D, dPl D, dCo D, dWh D, dAi D, dOw D, dR0 D, dR1 D)
def adR (D : Dr) (J : Bool) (c : Cd) : Dr := (dNo D, dM D, dE D, dT D, dBr D, dRe D, dPl D, dCo D, dWh D, dAi D, dOw D, if J then dR0 D else c, if J then c else dR1 D)
abbrev LR : Type := (Nat × Dr) ⊕ (Nat × Nat)
def nuL (T : Tx) (p lo hi : Nat) (k : Nat → LR) : LR := match rdN T p lo hi with
  | .inl x => k x
  | .inr f => .inr (f, stS' T p)
def e1 (T : Tx) (p : Nat) : Nat := enS T p
def e2 (T : Tx) (p : Nat) : Nat := enS T (e1 T p)
def e3 (T : Tx) (p : Nat) : Nat := enS T (e2 T p)
def e4 (T : Tx) (p : Nat) : Nat := enS T (e3 T p)
def e5 (T : Tx) (p : Nat) : Nat := enS T (e4 T p)
def peL (T : Tx) (w : Bool) (D : Dr) (p : Nat) : LR := if 8 ≤ dNo D then .inr (2, stS' T p) else nuL T (e1 T p) 1 20 fun b => nuL T (e2 T p) 0 9 fun r => nuL T (e3 T p) 0 30 fun q => nuL T (e4 T p) 0 9 fun c => .inl (e5 T p, adP D w b r q c)
def tuL (T : Tx) (D : Dr) (p : Nat) : LR := if 6 ≤ dM D then .inr (2, stS' T p) else nuL T (e1 T p) 0 9 fun a => if isWd T (e2 T p) w3 then nuL T (e3 T p) 0 9999 fun x => if x < dNo D then .inl (e4 T p, adT D a (nI x)) else .inr (3, stS' T (e3 T p)) else .inl (e2 T p, adT D a (-1))
def eaL (T : Tx) (D : Dr) (p : Nat) : LR := if dT D then .inr (5, stS' T p) else nuL T (e1 T p) 0 30 fun x => .inl (e2 T p, adE D x)
def ruL (T : Tx) (J : Bool) (D : Dr) (p : Nat) : LR := if dRJ D J ≠ [] then .inr (5, stS' T p) else match pE T J 5 (e1 T p) with
  | .inl (r, c) => .inl (r, adR D J c)
  | .inr e => .inr e
/-- a line ends with ';' -/
def seL (T : Tx) (x : LR) : LR := match x with
  | .inl (q, D) => if isSg T q 59 then .inl (enS T q, D) else .inr (1, stS' T q)
  | .inr e => .inr e
def liL (T : Tx) (D : Dr) (p : Nat) : LR := if isWd T p w0 then peL T false D p else if isWd T p w1 then peL T true D p else if isWd T p w2 then tuL T D p else if isWd T p w4 then eaL T D p else if isWd T p w5 then ruL T false D p else if isWd T p w16 then ruL T true D p else .inr (1, stS' T p)
def lnL (T : Tx) (D : Dr) (p : Nat) : LR := seL T (liL T D p)
def lnsS (T : Tx) : Nat → Dr → Nat → Dr ⊕ (Nat × Nat)
  | 0, D, _ => .inl D
  | f + 1, D, p => if knS T p = 0 then .inl D else match lnL T D p with
    | .inl (r, D') => lnsS T f D' r
    | .inr e => .inr e
def D0 : Dr := (0, 0, 5, false, fun _ => 0, fun _ => 0, fun _ => 0, fun _ => 0, fun _ => 0, fun _ => 0, fun _ => 0, [], [])
def txS (T : Tx) : Dr ⊕ (Nat × Nat) := lnsS T 700 D0 0
/-! all that is told fits -/
def okD (D : Dr) : Prop := dNo D ≤ 8 ∧ dM D ≤ 6 ∧ (∃ x, x ≤ 30 ∧ dE D = nI x) ∧ (∀ i, i < dNo D → dWh D i = 0 ∨ dWh D i = 1) ∧ (∀ i, i < dNo D → ∃ x, x ≤ 30 ∧ dPl D i = nI x) ∧ (∀ t, t < dM D → dOw D t = -1 ∨ ∃ q, q < dNo D ∧ dOw D t = nI q) ∧ (dR0 D = [] ∨ wfS (dR0 D) 0) ∧ (dR1 D = [] ∨ wfS (dR1 D) 0) ∧ (dR0 D).length ≤ 700 ∧ (dR1 D).length ≤ 700
theorem okD_0 : okD D0 := ⟨by decide, by decide, ⟨5, by omega, rfl⟩, fun i hi => absurd hi (Nat.not_lt_zero i), fun i hi => absurd hi (Nat.not_lt_zero i), fun i hi => absurd hi (Nat.not_lt_zero i), Or.inl rfl, Or.inl rfl, by decide, by decide⟩
theorem nuL_i {T : Tx} {p lo hi : Nat} {k : Nat → LR} {z : Nat × Dr} (h : nuL T p lo hi k = .inl z) : ∃ x, rdN T p lo hi = .inl x ∧ k x = .inl z := by
  unfold nuL at h
  split at h
  · rename_i x e
    exact ⟨x, e, h⟩
  · cases h
theorem nuL_x {T : Tx} {p lo hi x : Nat} {k : Nat → LR} (h : rdN T p lo hi = .inl x) : nuL T p lo hi k = k x := by unfold nuL; rw [h]
theorem nuL_f {T : Tx} {p lo hi f : Nat} {k : Nat → LR} (h : rdN T p lo hi = .inr f) : nuL T p lo hi k = .inr (f, stS' T p) := by unfold nuL; rw [h]
theorem rdN_b {T : Tx} {p lo hi x : Nat} (h : rdN T p lo hi = .inl x) : lo ≤ x ∧ x ≤ hi ∧ knS T p = 2 := by
  unfold rdN at h
  split at h
  · rename_i hk
    split at h
    · rename_i q
      cases h
      exact ⟨q.2.1, q.2.2, hk⟩
    · cases h
  · cases h
theorem Ag_ad {n : Nat} {f g : Fn} (h : Ag n f g) (x : Int32) : Ag (n + 1) (upd f n x) (upd g n x) := by
  intro i hi
  by_cases e : i = n
  · subst e
    rw [pk_us, pk_us]
  · rw [pk_un e, pk_un e]
    exact h i (by omega)
theorem ad_all {n : Nat} {f : Fn} {P : Int32 → Prop} {x : Int32} (h : ∀ i, i < n → P (f i)) (hx : P x) : ∀ i, i < n + 1 → P (upd f n x i) := by
  intro i hi
  by_cases e : i = n
  · subst e
    rw [pk_us]
    exact hx
  · rw [pk_un e]
    exact h i (by omega)
theorem okD_P {D : Dr} (h : okD D) {w : Bool} {b r q c : Nat} (h8 : ¬ 8 ≤ dNo D) (hq : q ≤ 30) : okD (adP D w b r q c) := by
  obtain ⟨a1, a2, a3, a4, a5, a6, a7⟩ := h
  refine ⟨by show dNo D + 1 ≤ 8; omega, a2, a3, ad_all (P := fun y => y = 0 ∨ y = 1) a4 (b2i_01 w), ad_all (P := fun y => ∃ x, x ≤ 30 ∧ y = nI x) a5 ⟨q, hq, rfl⟩, fun t ht => ?_, a7⟩
  rcases a6 t ht with e | ⟨z, hz, e⟩
  · exact Or.inl e
  · exact Or.inr ⟨z, by show z < dNo D + 1; omega, e⟩
theorem okD_T {D : Dr} (h : okD D) {a : Nat} {o : Int32} (h6 : ¬ 6 ≤ dM D) (ho : o = -1 ∨ ∃ q, q < dNo D ∧ o = nI q) : okD (adT D a o) := by
  obtain ⟨a1, a2, a3, a4, a5, a6, a7⟩ := h
  exact ⟨a1, by show dM D + 1 ≤ 6; omega, a3, a4, a5, ad_all (P := fun y => y = -1 ∨ ∃ q, q < dNo D ∧ y = nI q) a6 ho, a7⟩
theorem okD_E {D : Dr} (h : okD D) {x : Nat} (hx : x ≤ 30) : okD (adE D x) := by
  obtain ⟨a1, a2, a3, a4, a5, a6, a7⟩ := h
  exact ⟨a1, a2, ⟨x, hx, rfl⟩, a4, a5, a6, a7⟩
theorem okD_R {D : Dr} (h : okD D) {J : Bool} {c : Cd} (hc : wfS c 0) (hl : c.length ≤ 700) : okD (adR D J c) := by
  obtain ⟨a1, a2, a3, a4, a5, a6, a7, a8, a9, a10⟩ := h
  cases J
  · exact ⟨a1, a2, a3, a4, a5, a6, Or.inr hc, a8, hl, a10⟩
  · exact ⟨a1, a2, a3, a4, a5, a6, a7, Or.inr hc, a9, hl⟩
/-- where the tokens of a line lie -/
theorem e_le {T : Tx} {p : Nat} (h : p ≤ tN T) : e1 T p ≤ tN T ∧ e2 T p ≤ tN T ∧ e3 T p ≤ tN T ∧ e4 T p ≤ tN T ∧ e5 T p ≤ tN T := by
  have h1 : e1 T p ≤ tN T := (en_le h).2.1
  have h2 : e2 T p ≤ tN T := (en_le h1).2.1
  have h3 : e3 T p ≤ tN T := (en_le h2).2.1
  have h4 : e4 T p ≤ tN T := (en_le h3).2.1
  exact ⟨h1, h2, h3, h4, (en_le h4).2.1⟩
theorem e_ge {T : Tx} {p : Nat} (h : p ≤ tN T) : p ≤ e1 T p ∧ e1 T p ≤ e2 T p ∧ e2 T p ≤ e3 T p ∧ e3 T p ≤ e4 T p ∧ e4 T p ≤ e5 T p := by
  obtain ⟨h1, h2, h3, h4, h5⟩ := e_le h
  have g : ∀ q, q ≤ tN T → q ≤ enS T q := fun q hq => Nat.le_trans (st_le hq).1 (en_le hq).1
  exact ⟨g p h, g _ h1, g _ h2, g _ h3, g _ h4⟩
theorem liL_ok {T : Tx} (hT : okT T) {D D' : Dr} {p r : Nat} (hp : p ≤ tN T) (hD : okD D) (h : liL T D p = .inl (r, D')) : okD D' ∧ p < r ∧ r ≤ tN T := by
  obtain ⟨g1, g2, g3, g4, g5⟩ := e_ge hp
  obtain ⟨l1, l2, l3, l4, l5⟩ := e_le hp
  have hn := hT.1
  have pe : ∀ w, knS T p = 1 → peL T w D p = .inl (r, D') → okD D' ∧ p < r ∧ r ≤ tN T := by
    intro w hk h
    have hg : p < e1 T p := en_gt hp (by omega)
    unfold peL at h
    split at h
    · cases h
    · rename_i h8
      obtain ⟨b, _, h⟩ := nuL_i h
      obtain ⟨b2, _, h⟩ := nuL_i h
      obtain ⟨b3, q3, h⟩ := nuL_i h
      obtain ⟨b4, _, h⟩ := nuL_i h
      cases h
      exact ⟨okD_P hD h8 (rdN_b q3).2.1, by omega, l5⟩
  have ru : ∀ J, knS T p = 1 → ruL T J D p = .inl (r, D') → okD D' ∧ p < r ∧ r ≤ tN T := by
    intro J hk h
    have hg : p < e1 T p := en_gt hp (by omega)
    unfold ruL at h
    split at h
    · cases h
    · split at h
      · rename_i r2 c2 e
        cases h
        obtain ⟨o1, o2, o3⟩ := okL_pE 5 _ _ _ l1 e
        exact ⟨okD_R hD (wf_top l1 e) (by omega), by omega, o2⟩
      · cases h
  unfold liL at h
  split at h
  · rename_i hw
    exact pe _ (wd_kn hw) h
  · split at h
    · rename_i hw
      exact pe _ (wd_kn hw) h
    · split at h
      · rename_i hw
        have hg : p < e1 T p := en_gt hp (by rw [wd_kn hw]; decide)
        unfold tuL at h
        split at h
        · cases h
        · rename_i h6
          obtain ⟨a, _, h⟩ := nuL_i h
          split at h
          · obtain ⟨x, _, h⟩ := nuL_i h
            split at h
            · rename_i hx
              cases h
              exact ⟨okD_T hD h6 (Or.inr ⟨x, hx, rfl⟩), by omega, l4⟩
            · cases h
          · cases h
            exact ⟨okD_T hD h6 (Or.inl rfl), by omega, l2⟩
      · split at h
        · rename_i hw
          have hg : p < e1 T p := en_gt hp (by rw [wd_kn hw]; decide)
          unfold eaL at h
          split at h
          · cases h
          · obtain ⟨x, q, h⟩ := nuL_i h
            cases h
            exact ⟨okD_E hD (rdN_b q).2.1, by omega, l2⟩
        · split at h
          · rename_i hw
            exact ru _ (wd_kn hw) h
          · split at h
            · rename_i hw
              exact ru _ (wd_kn hw) h
            · cases h
theorem lnL_ok {T : Tx} (hT : okT T) {D D' : Dr} {p r : Nat} (hp : p ≤ tN T) (hD : okD D) (h : lnL T D p = .inl (r, D')) : okD D' ∧ p < r ∧ r ≤ tN T := by
  unfold lnL seL at h
  split at h
  · rename_i q D2 e
    obtain ⟨a, b, c⟩ := liL_ok hT hp hD e
    split at h
    · rename_i hs
      cases h
      have := en_gt c (by rw [sg_kn hs]; decide)
      exact ⟨a, by omega, (en_le c).2.1⟩
    · cases h
  · cases h
/-! how it stands in memory -/
def RUc (M : Nat → Fn) (i : Nat) (R K : Cd) : Prop := ∃ a, a + R.length ≤ K.length ∧ M 12 i = nI a ∧ M 13 i = nI (a + R.length) ∧ ∀ k, k < R.length → K.getD (a + k) (0, 0) = R.getD k (0, 0)
def DC (M : Nat → Fn) (D : Dr) (K : Cd) : Prop := M 3 0 = nI (dNo D) ∧ M 3 6 = nI (dM D) ∧ M 3 9 = dE D ∧ M 1 4 = b2i (dT D) ∧ Ag (dNo D) (M 4) (dBr D) ∧ Ag (dNo D) (M 5) (dRe D) ∧ Ag (dNo D) (M 6) (dPl D) ∧ Ag (dNo D) (M 7) (dCo D) ∧ Ag (dNo D) (M 8) (dWh D) ∧ Ag (dM D) (M 9) (dAi D) ∧ Ag (dM D) (M 10) (dOw D) ∧ CCode M K ∧ RUc M 0 (dR0 D) K ∧ RUc M 1 (dR1 D) K
theorem DC_fr {M M1 : Nat → Fn} {D : Dr} {K : Cd} (h : DC M D K) (e1 : M1 1 4 = M 1 4) (e : ∀ a, 3 ≤ a → a ≤ 13 → M1 a = M a) : DC M1 D K := by
  unfold DC CCode RUc at h ⊢
  rw [e1, e 3 (by omega) (by omega), e 4 (by omega) (by omega), e 5 (by omega) (by omega), e 6 (by omega) (by omega), e 7 (by omega) (by omega), e 8 (by omega) (by omega), e 9 (by omega) (by omega), e 10 (by omega) (by omega), e 11 (by omega) (by omega), e 12 (by omega) (by omega), e 13 (by omega) (by omega)]
  exact h
theorem frO1 {a : Nat} (h : 2 ≤ a) : frO 1 a = false := by
  unfold frO
  rw [beq_eq_false_iff_ne]
  omega
theorem DC_R {M M1 : Nat → Fn} {D : Dr} {K : Cd} (h : DC M D K) (f : FrR M M1) : DC M1 D K := DC_fr h (f.2 4 (by decide) (by decide) (by decide) (by decide)) (fun a h1 _ => f.1 a (frO1 (by omega)))
def upH (f : Fn) (n k : Nat) (g : Fn) : Prop := ∀ i, i < n → f (k + i) = g i
def DM (M : Nat → Fn) (D : Dr) : Prop := M 68 5 = nI (dNo D) ∧ M 68 6 = nI (dM D) ∧ M 68 7 = dE D ∧ upH (M 70) (dNo D) 8 (dBr D) ∧ upH (M 71) (dNo D) 8 (dRe D) ∧ upH (M 72) (dNo D) 8 (dPl D) ∧ upH (M 73) (dNo D) 8 (dCo D) ∧ upH (M 69) (dNo D) 8 (dWh D) ∧ upH (M 74) (dM D) 6 (dAi D) ∧ upH (M 75) (dM D) 6 (dOw D) ∧ MCode M false (dR0 D) ∧ MCode M true (dR1 D)
theorem up_ad {f g : Fn} {n k : Nat} (h : upH f n k g) (x : Int32) : upH (upd f (k + n) x) (n + 1) k (upd g n x) := by
  intro i hi
  by_cases e : i = n
  · subst e
    rw [pk_us, pk_us]
  · rw [pk_un (by omega), pk_un e]
    exact h i (by omega)
theorem DM_fr {M M1 : Nat → Fn} {D : Dr} (h : DM M D) (e : ∀ a, 68 ≤ a → a ≤ 77 → M1 a = M a) : DM M1 D := by
  unfold DM MCode at h ⊢
  rw [e 68 (by omega) (by omega), e 69 (by omega) (by omega), e 70 (by omega) (by omega), e 71 (by omega) (by omega), e 72 (by omega) (by omega), e 73 (by omega) (by omega), e 74 (by omega) (by omega), e 75 (by omega) (by omega)]
  simp only [rwJ, Bool.false_eq_true, if_true, if_false] at h ⊢
  rw [e 76 (by omega) (by omega), e 77 (by omega) (by omega)]
  exact h
theorem FrK_row {M M1 : Nat → Fn} (f : FrK M M1) {a : Nat} (h : a ≠ 64) : M1 a = M a := f.1 a (by unfold frO; rw [beq_eq_false_iff_ne]; exact h)
theorem DM_K {M M1 : Nat → Fn} {D : Dr} (h : DM M D) (f : FrK M M1) : DM M1 D := DM_fr h (fun a h1 _ => FrK_row f (by omega))
def dnB (t a b : Bool) : Int32 := nI ((if t then 1 else 0) + (if a then 2 else 0) + (if b then 4 else 0))
def dnI (D : Dr) : Int32 := dnB (dT D) (decide (dR0 D ≠ [])) (decide (dR1 D ≠ []))
theorem dn_and1 : ∀ t a b, (1 : Int32) &&& dnB t a b = b2i t := by decide
theorem dn_and2 : ∀ t a b, (2 : Int32) &&& dnB t a b = (if a then 2 else 0) := by decide
theorem dn_and4 : ∀ t a b, (4 : Int32) &&& dnB t a b = (if b then 4 else 0) := by decide
theorem dn_and0 : ∀ t a b, (0 : Int32) &&& dnB t a b = 0 := by decide
theorem dn_or1 : ∀ t a b, dnB t a b ||| 1 = dnB true a b := by decide
theorem dn_or2 : ∀ t a b, dnB t a b ||| 2 = dnB t true b := by decide
theorem dn_or4 : ∀ t a b, dnB t a b ||| 4 = dnB t a true := by decide
theorem dn_or0 : ∀ t a b, dnB t a b ||| 0 = dnB t a b := by decide
theorem wd_ln {T : Tx} {p : Nat} {w : List Nat} (h : isWd T p w = true) : lnS T p = w.length := by
  unfold isWd at h
  rw [Bool.and_eq_true, Bool.and_eq_true] at h
  exact of_decide_eq_true h.2.1
theorem wd_no {T : Tx} {p : Nat} {w u : List Nat} (h : isWd T p w = true) (hl : w.length ≠ u.length) : isWd T p u = false := by
  cases e : isWd T p u with
  | false => rfl
  | true => exact absurd ((wd_ln h).symm.trans (wd_ln e)) hl
theorem pE_ne {T : Tx} {J : Bool} {p r : Nat} {c : Cd} (hp : p ≤ tN T) (h : pE T J 5 p = .inl (r, c)) : c ≠ [] := by
  intro e
  have := wf_top hp h
  rw [e] at this
  exact absurd (show (0 : Nat) = 1 from this) (by decide)
