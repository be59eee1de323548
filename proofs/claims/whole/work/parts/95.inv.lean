/-! ===== what holds ahead of each call ===== -/
def CI (M : Nat → Fn) (F : Fa) (s : Sc) (B : Bk) (L : Nat) (tp : Nat → Nat) (K : Bool) (s2 : Sc) (B2 : Bk) : Prop := CS M F s B ∧ CT M L tp ∧ Ag (fN F) (M 15) (sBr s) ∧ M 0 8 = b2i K ∧ (K = true → CB 57 M F B2 ∧ SavC (M 58) 0 F s2)
def MI (M : Nat → Fn) (F : Fa) (s : Sc) (B : Bk) (L : Nat) (tp : Nat → Nat) (K : Bool) (s2 : Sc) (B2 : Bk) : Prop := MS M F s B ∧ MT M L tp ∧ M 64 54 = b2i K ∧ (K = true → MB2 M F B2 ∧ SavM (M 99) 0 F s2)
def okWd (F : Fa) (s : Sc) (B : Bk) (L : Nat) (tp : Nat → Nat) (s2 : Sc) (B2 : Bk) : Prop := okF F ∧ okS F s ∧ okB F (sBr s) B ∧ L ≤ 700 ∧ (∀ i, i < L → tp i < 256) ∧ okS F s2 ∧ sBr s2 = sBr s ∧ okB F (sBr s) B2
def WI (M : Nat → Fn) : Prop := ∃ F s B L tp K s2 B2, okWd F s B L tp s2 B2 ∧ CI M F s B L tp K s2 B2 ∧ MI M F s B L tp K s2 B2 ∧ M 1 11 = M 64 27
/-- the class's side, where the model has done something; and the other way round -/
def lowE (M M1 : Nat → Fn) : Prop := ∀ r, r < 64 → M1 r = M r
def higE (M M1 : Nat → Fn) : Prop := ∀ r, 64 ≤ r → M1 r = M r
section
variable {M M1 : Nat → Fn} {F : Fa} {s : Sc} {B : Bk} {L : Nat} {tp : Nat → Nat} {K : Bool} {s2 : Sc} {B2 : Bk}
theorem CS_lo (h : CS M F s B) (f : lowE M M1) : CS M1 F s B :=
  ⟨RC_fr h.1 (p := fun a => decide (64 ≤ a)) (fun a ha => f a (by rw [decide_eq_false_iff_not] at ha; omega)) (by decide) (by decide), by rw [f 28 (by decide)]; exact h.2.1, CB_fr h.2.2 (f 52 (by decide)) (f 54 (by decide)) (f 55 (by decide)) (f 56 (by decide))⟩
theorem CI_lo (h : CI M F s B L tp K s2 B2) (f : lowE M M1) : CI M1 F s B L tp K s2 B2 := by
  obtain ⟨h1, h2, h3, h4, h5⟩ := h
  refine ⟨CS_lo h1 f, ?_, ?_, ?_, fun k => ⟨CB_fr (h5 k).1 (f 57 (by decide)) (f 59 (by decide)) (f 60 (by decide)) (f 61 (by decide)), ?_⟩⟩
  · unfold CT; rw [f 1 (by decide), f 2 (by decide)]; exact h2
  · rw [f 15 (by decide)]; exact h3
  · rw [f 0 (by decide)]; exact h4
  · rw [f 58 (by decide)]; exact (h5 k).2
theorem MS_hi (h : MS M F s B) (f : higE M M1) : MS M1 F s B :=
  ⟨RM_fr h.1 (p := fun a => decide (a < 64)) (fun a ha => f a (by rw [decide_eq_false_iff_not] at ha; omega)) (by decide), by rw [f 64 (by decide)]; exact h.2.1, MB_fr h.2.2 (by rw [f 64 (by decide)]) (by rw [f 64 (by decide)]) (f 87 (by decide)) (f 92 (by decide)) (f 93 (by decide)) (f 94 (by decide)) (f 78 (by decide))⟩
theorem MI_hi (h : MI M F s B L tp K s2 B2) (f : higE M M1) : MI M1 F s B L tp K s2 B2 := by
  obtain ⟨h1, h2, h3, h4⟩ := h
  refine ⟨MS_hi h1 f, ?_, ?_, fun k => ⟨MB_fr (h4 k).1 (by rw [f 64 (by decide)]) (by rw [f 64 (by decide)]) (f 100 (by decide)) (f 101 (by decide)) (f 102 (by decide)) (f 103 (by decide)) (f 104 (by decide)), ?_⟩⟩
  · unfold MT; rw [f 64 (by decide), f 80 (by decide)]; exact h2
  · rw [f 64 (by decide)]; exact h3
  · rw [f 99 (by decide)]; exact (h4 k).2
/-! the class has asked -/
theorem hi_Q (f : Fr frQ M M1) : higE M M1 := fun r hr => f r (by unfold frQ; rw [decide_eq_false_iff_not]; omega)
theorem hi_G (f : Fr frG M M1) : higE M M1 := fun r hr => f r (by unfold frG; rw [decide_eq_false_iff_not]; omega)
theorem hi_K1 (f : Fr frK1 M M1) : higE M M1 := fun r hr => f r (by unfold frK1; rw [decide_eq_false_iff_not]; omega)
theorem hi_Tp (f : FrTp M M1) : higE M M1 := fun r hr => f.1 r (by unfold frTp; rw [decide_eq_false_iff_not]; omega)
theorem lo_N (f : FrN M M1) : lowE M M1 := fun r hr => f.1 r (by unfold frN; rw [decide_eq_false_iff_not]; omega)
theorem lo_H (f : FrH M M1) : lowE M M1 := fun r hr => f.1 r (by unfold frH; rw [decide_eq_false_iff_not]; omega)
theorem lo_I (f : FrI M M1) : lowE M M1 := fun r hr => f.1 r (by unfold frI; rw [decide_eq_false_iff_not]; omega)
theorem lo_Mt (f : FrMt M M1) : lowE M M1 := fun r hr => f.1 r (by unfold frMt; rw [decide_eq_false_iff_not]; omega)
theorem CI_Q (h : CI M F s B L tp K s2 B2) (f : Fr frQ M M1) : CI M1 F s B L tp K s2 B2 := by
  obtain ⟨h1, h2, h3, h4, h5⟩ := h
  refine ⟨⟨RC_Q h1.1 f, by rw [f 28 rfl]; exact h1.2.1, CB_fr h1.2.2 (f 52 rfl) (f 54 rfl) (f 55 rfl) (f 56 rfl)⟩, ?_, ?_, ?_, fun k => ⟨CB_fr (h5 k).1 (f 57 rfl) (f 59 rfl) (f 60 rfl) (f 61 rfl), ?_⟩⟩
  · unfold CT; rw [f 1 rfl, f 2 rfl]; exact h2
  · rw [f 15 rfl]; exact h3
  · rw [f 0 rfl]; exact h4
  · rw [f 58 rfl]; exact (h5 k).2
theorem CI_G {s' : Sc} {B' : Bk} (h : CI M F s B L tp K s2 B2) (hc : CS M1 F s' B') (hb : sBr s' = sBr s) (f : Fr frG M M1) : CI M1 F s' B' L tp K s2 B2 := by
  obtain ⟨h1, h2, h3, h4, h5⟩ := h
  refine ⟨hc, ?_, ?_, ?_, fun k => ⟨CB_fr (h5 k).1 (f 57 rfl) (f 59 rfl) (f 60 rfl) (f 61 rfl), ?_⟩⟩
  · unfold CT; rw [f 1 rfl, f 2 rfl]; exact h2
  · rw [f 15 rfl, hb]; exact h3
  · rw [f 0 rfl]; exact h4
  · rw [f 58 rfl]; exact (h5 k).2
theorem MI_N (h : MI M F s B L tp K s2 B2) (hr : RM M1 F s) (f : FrN M M1) : MI M1 F s B L tp K s2 B2 := by
  obtain ⟨h1, h2, h3, h4⟩ := h
  have g : ∀ k, k ≠ 4 → k ≠ 36 → k ≠ 41 → k ≠ 51 → k ≠ 53 → M1 64 k = M 64 k := f.2
  refine ⟨⟨hr, (g 42 (by decide) (by decide) (by decide) (by decide) (by decide)).trans h1.2.1, MB_fr h1.2.2 (g 37 (by decide) (by decide) (by decide) (by decide) (by decide)) (g 38 (by decide) (by decide) (by decide) (by decide) (by decide)) (f.1 87 rfl) (f.1 92 rfl) (f.1 93 rfl) (f.1 94 rfl) (f.1 78 rfl)⟩, ?_, (g 54 (by decide) (by decide) (by decide) (by decide) (by decide)).trans h3, fun k => ⟨MB_fr (h4 k).1 (g 55 (by decide) (by decide) (by decide) (by decide) (by decide)) (g 56 (by decide) (by decide) (by decide) (by decide) (by decide)) (f.1 100 rfl) (f.1 101 rfl) (f.1 102 rfl) (f.1 103 rfl) (f.1 104 rfl), ?_⟩⟩
  · unfold MT; rw [g 18 (by decide) (by decide) (by decide) (by decide) (by decide), f.1 80 rfl]; exact h2
  · rw [f.1 99 rfl]; exact (h4 k).2
theorem MI_H {s' : Sc} {B' : Bk} (h : MI M F s B L tp K s2 B2) (hm : MS M1 F s' B') (f : FrH M M1) : MI M1 F s' B' L tp K s2 B2 := by
  obtain ⟨h1, h2, h3, h4⟩ := h
  have g : ∀ k, k ≠ 4 → k ≠ 36 → k ≠ 37 → k ≠ 38 → k ≠ 41 → M1 64 k = M 64 k := f.2
  refine ⟨hm, ?_, (g 54 (by decide) (by decide) (by decide) (by decide) (by decide)).trans h3, fun k => ⟨MB_fr (h4 k).1 (g 55 (by decide) (by decide) (by decide) (by decide) (by decide)) (g 56 (by decide) (by decide) (by decide) (by decide) (by decide)) (f.1 100 rfl) (f.1 101 rfl) (f.1 102 rfl) (f.1 103 rfl) (f.1 104 rfl), ?_⟩⟩
  · unfold MT; rw [g 18 (by decide) (by decide) (by decide) (by decide) (by decide), f.1 80 rfl]; exact h2
  · rw [f.1 99 rfl]; exact (h4 k).2
end
/-- a question, asked of both -/
theorem WI_q {M M1 M2 : Nat → Fn} {F : Fa} {s : Sc} {B : Bk} {L : Nat} {tp : Nat → Nat} {K : Bool} {s2 : Sc} {B2 : Bk} (ok : okWd F s B L tp s2 B2) (ci : CI M F s B L tp K s2 B2) (mi : MI M F s B L tp K s2 B2) (e : M 1 11 = M 64 27) (f1 : Fr frQ M M1) (r2 : RM M2 F s) (f2 : FrN M1 M2) : WI M2 := by
  refine ⟨F, s, B, L, tp, K, s2, B2, ok, CI_lo (CI_Q ci f1) (lo_N f2), MI_N (MI_hi mi (hi_Q f1)) r2 f2, ?_⟩
  rw [lo_N f2 1 (by decide), f1 1 rfl, f2.2 27 (by decide) (by decide) (by decide) (by decide) (by decide), hi_Q f1 64 (by decide)]
  exact e
/-- an act, done by both -/
theorem WI_a {M M1 M2 : Nat → Fn} {F : Fa} {s s' : Sc} {B B' : Bk} {L : Nat} {tp : Nat → Nat} {K : Bool} {s2 : Sc} {B2 : Bk} (ok : okWd F s B L tp s2 B2) (ci : CI M F s B L tp K s2 B2) (mi : MI M F s B L tp K s2 B2) (e : M 1 11 = M 64 27) (hs' : okS F s') (hb' : sBr s' = sBr s) (hB' : okB F (sBr s) B') (c1 : CS M1 F s' B') (f1 : Fr frG M M1) (m2 : MS M2 F s' B') (f2 : FrH M1 M2) : WI M2 := by
  obtain ⟨o1, o2, o3, o4, o5, o6, o7, o8⟩ := ok
  refine ⟨F, s', B', L, tp, K, s2, B2, ⟨o1, hs', by rw [hb']; exact hB', o4, o5, o6, o7.trans hb'.symm, by rw [hb']; exact o8⟩, CI_lo (CI_G ci c1 hb' f1) (lo_H f2), MI_H (MI_hi mi (hi_G f1)) m2 f2, ?_⟩
  rw [lo_H f2 1 (by decide), f1 1 rfl, f2.2 27 (by decide) (by decide) (by decide) (by decide) (by decide), hi_G f1 64 (by decide)]
  exact e
theorem okB_act {F : Fa} {s : Sc} {B : Bk} {ok d : Bool} (h : okB F (sBr s) B) (hs : okS F s) : okB F (sBr s) (actB ok d B s) := by
  unfold actB
  split
  · split
    · exact okB_kp h hs rfl
    · exact okB_rf h 1
  · exact h
theorem okS_act {F : Fa} {s s' : Sc} {d : Bool} (hs : okS F s) (hd : d = true → okS F s') : okS F (actS d s s') := by
  unfold actS
  split
  · rename_i e; exact hd e
  · exact hs
theorem br_act {s s' : Sc} {d : Bool} (hd : d = true → sBr s' = sBr s) : sBr (actS d s s') = sBr s := by
  unfold actS
  split
  · rename_i e; exact hd e
  · rfl
theorem ok_co {F : Fa} {s : Sc} {p q : Nat} (h : okS F s) : okS F (coS s p q) := h
theorem ok_hus {F : Fa} {s : Sc} {q : Nat} (h : okS F s) : okS F (husS F s q) := ok_all h _
theorem br_hus {F : Fa} {s : Sc} {q : Nat} : sBr (husS F s q) = sBr s := br_all _
theorem ok_go {F : Fa} {s : Sc} {p : Nat} {y : Int32} (h : okS F s) (hd : dGo s p y = true) : okS F (plS s p y) := by
  unfold dGo at hd
  rw [Bool.and_eq_true] at hd
  obtain ⟨j, hj, e⟩ := inR_nI (n := 30) (by decide) hd.1
  rw [e]
  exact ok_pl h p hj
theorem okB_see {F : Fa} {br : Fn} {B : Bk} {x y z : Int32} (hF : okF F) (h : okB F br B) : okB F br (seeB F B x y z) := by
  have hn := hF.n
  unfold seeB
  split
  · rename_i hx
    split
    · rename_i hd
      unfold dSee at hd
      rw [Bool.and_eq_true, Bool.and_eq_true] at hd
      obtain ⟨p, hp, ep⟩ := isP_nI hx (by omega)
      obtain ⟨j, j1, j2, ej⟩ := inR_nI1 (n := 20) (by decide) hd.2.1
      rw [ep, ej, nI_clamp (by omega), nI_clamp (by omega)]
      exact okB_se h (of_decide_eq_true hd.2.2) hp j1 j2
    · exact okB_rf h 2
  · exact h
theorem okS_und {F : Fa} {s : Sc} {B : Bk} {br : Fn} (hs : okS F s) (h : okB F br B) : okS F (undS B s) := by
  unfold undS
  split
  · exact hs
  · exact (h.2.2.1 _ (by omega)).1
theorem br_und {F : Fa} {s : Sc} {B : Bk} (h : okB F (sBr s) B) : sBr (undS B s) = sBr s := by
  unfold undS
  split
  · rfl
  · exact (h.2.2.1 _ (by omega)).2
/-! the others -/
theorem WI_feed {M M1 M2 : Nat → Fn} {F : Fa} {s : Sc} {B : Bk} {L L' : Nat} {tp tp' : Nat → Nat} {K : Bool} {s2 : Sc} {B2 : Bk} (ok : okWd F s B L tp s2 B2) (ci : CI M F s B L tp K s2 B2) (mi : MI M F s B L tp K s2 B2) (e : M 1 11 = M 64 27) (hL' : L' ≤ 700) (ht' : ∀ i, i < L' → tp' i < 256) (c1 : CT M1 L' tp') (f1 : FrTp M M1) (m2 : MT M2 L' tp') (f2 : FrMt M1 M2) : WI M2 := by
  obtain ⟨o1, o2, o3, o4, o5, o6⟩ := ok
  have lo := lo_Mt f2
  have hi := hi_Tp f1
  have c64 : ∀ k, k ≠ 4 → k ≠ 18 → M2 64 k = M 64 k := fun k a b => by rw [f2.2 k a b, hi 64 (by decide)]
  have rr : ∀ r, r ≠ 1 → r ≠ 2 → r ≠ 64 → r ≠ 80 → M2 r = M r := fun r a b c d => by
    rw [f2.1 r (by unfold frMt; rw [decide_eq_false_iff_not]; omega), f1.1 r (by unfold frTp; rw [decide_eq_false_iff_not]; omega)]
  refine ⟨F, s, B, L', tp', K, s2, B2, ⟨o1, o2, o3, hL', ht', o6⟩, ⟨?_, ?_, ?_, ?_, fun k => ⟨?_, ?_⟩⟩, ⟨?_, m2, ?_, fun k => ⟨?_, ?_⟩⟩, ?_⟩
  · obtain ⟨h1, h2, h3⟩ := ci.1
    exact ⟨RC_fr h1 (p := fun a => decide (a = 1 ∨ a = 2 ∨ a = 64 ∨ a = 80)) (fun a ha => by rw [decide_eq_false_iff_not] at ha; exact rr a (by omega) (by omega) (by omega) (by omega)) (by decide) (by decide), by rw [rr 28 (by decide) (by decide) (by decide) (by decide)]; exact h2, CB_fr h3 (rr 52 (by decide) (by decide) (by decide) (by decide)) (rr 54 (by decide) (by decide) (by decide) (by decide)) (rr 55 (by decide) (by decide) (by decide) (by decide)) (rr 56 (by decide) (by decide) (by decide) (by decide))⟩
  · unfold CT; rw [lo 1 (by decide), lo 2 (by decide)]; exact c1
  · rw [rr 15 (by decide) (by decide) (by decide) (by decide)]; exact ci.2.2.1
  · rw [rr 0 (by decide) (by decide) (by decide) (by decide)]; exact ci.2.2.2.1
  · exact CB_fr (ci.2.2.2.2 k).1 (rr 57 (by decide) (by decide) (by decide) (by decide)) (rr 59 (by decide) (by decide) (by decide) (by decide)) (rr 60 (by decide) (by decide) (by decide) (by decide)) (rr 61 (by decide) (by decide) (by decide) (by decide))
  · rw [rr 58 (by decide) (by decide) (by decide) (by decide)]; exact (ci.2.2.2.2 k).2
  · obtain ⟨h1, h2, h3⟩ := mi.1
    refine ⟨⟨KM_of h1.1 (rr 68 (by decide) (by decide) (by decide) (by decide)) (rr 71 (by decide) (by decide) (by decide) (by decide)) (rr 69 (by decide) (by decide) (by decide) (by decide)) (rr 74 (by decide) (by decide) (by decide) (by decide)) (rr 76 (by decide) (by decide) (by decide) (by decide)) (rr 77 (by decide) (by decide) (by decide) (by decide)), ?_⟩, (c64 42 (by decide) (by decide)).trans h2, MB_fr h3 (c64 37 (by decide) (by decide)) (c64 38 (by decide) (by decide)) (rr 87 (by decide) (by decide) (by decide) (by decide)) (rr 92 (by decide) (by decide) (by decide) (by decide)) (rr 93 (by decide) (by decide) (by decide) (by decide)) (rr 94 (by decide) (by decide) (by decide) (by decide)) (rr 78 (by decide) (by decide) (by decide) (by decide))⟩
    rw [c64 36 (by decide) (by decide), rr 79 (by decide) (by decide) (by decide) (by decide), rr 85 (by decide) (by decide) (by decide) (by decide), rr 86 (by decide) (by decide) (by decide) (by decide), rr 82 (by decide) (by decide) (by decide) (by decide), rr 83 (by decide) (by decide) (by decide) (by decide), rr 84 (by decide) (by decide) (by decide) (by decide), rr 81 (by decide) (by decide) (by decide) (by decide)]
    exact h1.2
  · exact (c64 54 (by decide) (by decide)).trans mi.2.2.1
  · exact MB_fr (mi.2.2.2 k).1 (c64 55 (by decide) (by decide)) (c64 56 (by decide) (by decide)) (rr 100 (by decide) (by decide) (by decide) (by decide)) (rr 101 (by decide) (by decide) (by decide) (by decide)) (rr 102 (by decide) (by decide) (by decide) (by decide)) (rr 103 (by decide) (by decide) (by decide) (by decide)) (rr 104 (by decide) (by decide) (by decide) (by decide))
  · rw [rr 99 (by decide) (by decide) (by decide) (by decide)]; exact (mi.2.2.2 k).2
  · rw [lo 1 (by decide), f1.2 11 (by decide), c64 27 (by decide) (by decide)]; exact e
theorem fe_lt {tp : Nat → Nat} {L : Nat} {a b c d e : Int32} (h : ∀ i, i < L → tp i < 256) : ∀ i, i < L + 20 → feS tp L a b c d e i < 256 := by
  intro i hi
  unfold feS
  split
  · rename_i w; exact h i w
  · exact by_lt
theorem WI_4 {M : Nat → Fn} (x : Int32) (h : WI M) : WI (lm_wr M 64 4 x) := by
  obtain ⟨F, s, B, L, tp, K, s2, B2, ok, ci, mi, e⟩ := h
  refine ⟨F, s, B, L, tp, K, s2, B2, ok, CI_lo ci (fun r hr => wr_row (by omega)), ⟨MS_4 mi.1 x, mi.2.1, mi.2.2.1, fun k => ⟨MB_fr (mi.2.2.2 k).1 rfl rfl rfl rfl rfl rfl rfl, (mi.2.2.2 k).2⟩⟩, e⟩
