/-! ===== trials: what goes on and is put back ===== -/
/-- the model in a trial that began at s: as S now -/
def TM (M0 : Nat → Fn) (F : Fa) (s : Sc) (M : Nat → Fn) (S : Sc) : Prop := RM M F S ∧ FrN M0 M ∧ SavM (M 90) 0 F s ∧ M 64 4 = 0 ∧ M 64 42 = 0
/-- the class's trial as S now -/
def TC (M0 : Nat → Fn) (F : Fa) (M : Nat → Fn) (S : Sc) : Prop := RC 38 M F S ∧ Fr frQ M0 M ∧ M 38 12 = -1
theorem TM_M {M0 M M1 : Nat → Fn} {F : Fa} {s S S' : Sc} (t : TM M0 F s M S) (f : FrM M M1) (h : RM M1 F S') : TM M0 F s M1 S' :=
  ⟨h, FrN_tr t.2.1 (FrN_M f), by rw [f.1 90 rfl]; exact t.2.2.1, by rw [f.2 4 (by decide) (by decide)]; exact t.2.2.2.1, by rw [f.2 42 (by decide) (by decide)]; exact t.2.2.2.2⟩
theorem TM_U {M0 M M1 : Nat → Fn} {F : Fa} {s S S' : Sc} (t : TM M0 F s M S) (f : FrU M M1) (h : RM M1 F S') : TM M0 F s M1 S' :=
  ⟨h, FrN_tr t.2.1 (FrN_U f), by rw [f.1 90 rfl]; exact t.2.2.1, by rw [f.2 4 (by decide)]; exact t.2.2.2.1, by rw [f.2 42 (by decide)]; exact t.2.2.2.2⟩
theorem TM_wr {M0 M : Nat → Fn} {F : Fa} {s S S' : Sc} (t : TM M0 F s M S) {a j : Nat} {x : Int32} (ha : frN a = true) (h64 : a ≠ 64) (h90 : a ≠ 90) (h : RM (lm_wr M a j x) F S') : TM M0 F s (lm_wr M a j x) S' :=
  ⟨h, FrN_wr t.2.1 ha h64, by rw [wr_row (fun e => h90 e.symm)]; exact t.2.2.1, by rw [wr_row (fun e => h64 e.symm)]; exact t.2.2.2.1, by rw [wr_row (fun e => h64 e.symm)]; exact t.2.2.2.2⟩
theorem RM_wr {M : Nat → Fn} {F : Fa} {S : Sc} (h : RM M F S) {a j : Nat} {x : Int32} (ha : a ∉ [64, 68, 69, 71, 74, 76, 77, 79, 81, 82, 83, 84, 85, 86]) : RM (lm_wr M a j x) F S := by
  refine RM_fr (p := frO a) h (Fr_wr (Fr_rf _ _) (by simp [frO])) (fun b hb => ?_)
  unfold frO
  rw [beq_eq_false_iff_ne]
  exact fun e => ha (e ▸ hb)
theorem TM_w64 {M0 M : Nat → Fn} {F : Fa} {s S : Sc} (t : TM M0 F s M S) {j : Nat} {x : Int32} (hj : j = 41 ∨ j = 51 ∨ j = 53) : TM M0 F s (lm_wr M 64 j x) S :=
  ⟨RM_taken t.1 j (by omega) x, FrN_w64 t.2.1 (by omega), t.2.2.1, by rw [wr_at (by omega)]; exact t.2.2.2.1, by rw [wr_at (by omega)]; exact t.2.2.2.2⟩
theorem RM_pl {M : Nat → Fn} {F : Fa} {S : Sc} (h : RM M F S) (p : Nat) (x : Int32) : RM (lm_wr M 85 p x) F (plS S p x) := ⟨KM_of h.1 rfl rfl rfl rfl rfl rfl, h.hr, h.br, Ag_upd h.pl p x, h.co, h.hu, h.hd, h.id, h.ow⟩
theorem RM_br {M : Nat → Fn} {F : Fa} {S : Sc} (h : RM M F S) (p : Nat) (x : Int32) : RM (lm_wr M 79 p x) F (brS S p x) := ⟨KM_of h.1 rfl rfl rfl rfl rfl rfl, h.hr, Ag_upd h.br p x, h.pl, h.co, h.hu, h.hd, h.id, h.ow⟩
theorem TM_pl {M0 M : Nat → Fn} {F : Fa} {s S : Sc} (t : TM M0 F s M S) (p : Nat) (x : Int32) : TM M0 F s (lm_wr M 85 p x) (plS S p x) := TM_wr t rfl (by decide) (by decide) (RM_pl t.1 p x)
theorem TM_br {M0 M : Nat → Fn} {F : Fa} {s S : Sc} (t : TM M0 F s M S) (p : Nat) (x : Int32) : TM M0 F s (lm_wr M 79 p x) (brS S p x) := TM_wr t rfl (by decide) (by decide) (RM_br t.1 p x)
theorem TC_C {M0 M M1 : Nat → Fn} {F : Fa} {S S' : Sc} (t : TC M0 F M S) (f : FrC 38 M M1) (h : RC 38 M1 F S') : TC M0 F M1 S' := ⟨h, Fr_tr t.2.1 (FQ_C f), (f.2 12 (by decide) (by decide)).trans t.2.2⟩
theorem TC_W {M0 M M1 : Nat → Fn} {F : Fa} {S S' : Sc} (t : TC M0 F M S) (f : FrW 38 M M1) (h : RC 38 M1 F S') : TC M0 F M1 S' := ⟨h, Fr_tr t.2.1 (FQ_W f), (f.2 12 (by decide) (by decide)).trans t.2.2⟩
theorem RC_br {M : Nat → Fn} {F : Fa} {S : Sc} (h : RC 38 M F S) (p : Nat) (x : Int32) : RC 38 (lm_wr M 39 p x) F (brS S p x) := ⟨KC_of h.1 rfl rfl rfl rfl rfl rfl rfl, h.hr, Ag_upd h.br p x, h.pl, h.co, h.hu, h.hd, h.id, h.ow, h.hs, h.he⟩
theorem TC_br {M0 M : Nat → Fn} {F : Fa} {S : Sc} (t : TC M0 F M S) (p : Nat) (x : Int32) : TC M0 F (lm_wr M 39 p x) (brS S p x) := ⟨RC_br t.1 p x, Fr_wr t.2.1 rfl, t.2.2⟩
theorem ok_br {F : Fa} {s : Sc} (h : okS F s) (p : Nat) (x : Int32) : okS F (brS s p x) := h
theorem ok_pl {F : Fa} {s : Sc} (h : okS F s) (p : Nat) {x : Nat} (hx : x ≤ 30) : okS F (plS s p (nI x)) := by
  refine ⟨h.1, h.2.1, fun q hq => ?_⟩
  by_cases e : q = p
  · subst e
    exact ⟨x, hx, pk_us⟩
  · obtain ⟨y, hy, e2⟩ := h.2.2 q hq
    exact ⟨y, hy, (pk_un e).trans e2⟩
theorem br_tun {F : Fa} {W : Nat → Bool} {s : Sc} {t : Nat} : sBr (tunS F W s t) = sBr s := by
  unfold tunS
  split
  · exact (stp_ow (fN F)).2.2.1
  · exact (stp_ow (fN F)).2.2.1
theorem br_all {F : Fa} {W : Nat → Bool} {s : Sc} : ∀ n, sBr (allS F W s n) = sBr s
  | 0 => rfl
  | n + 1 => br_tun.trans (br_all n)
theorem br_boj {F : Fa} {s : Sc} {p : Nat} : sBr (bojS F s p) = sBr s := by
  unfold bojS
  split
  · rfl
  · split <;> rfl
theorem br_beg {F : Fa} {W lf : Nat → Bool} {s : Sc} : ∀ n, sBr (begA F W lf s n) = sBr s
  | 0 => rfl
  | n + 1 => by
    simp only [begA]
    split
    · exact br_boj.trans (br_beg n)
    · exact br_beg n
theorem br_tick {s : Sc} : ∀ n, sBr (tickS s n) = sBr s
  | 0 => rfl
  | n + 1 => by
    have := br_tick (s := s) n
    simp only [tickS]
    unfold tickP
    split <;> exact this
theorem br_hour {F : Fa} {lf : Nat → Bool} {s : Sc} : sBr (hourS F lf s) = sBr s := (br_tick (fN F)).trans ((br_beg (fN F)).trans (br_all (fM F)))
theorem br_hrs {F : Fa} {lf : Nat → Bool} {s : Sc} : ∀ n, sBr (hrsS F lf s n) = sBr s
  | 0 => rfl
  | n + 1 => br_hour.trans (br_hrs n)
theorem RC_left {M : Nat → Fn} {F : Fa} {S : Sc} {x : Int32} (h : RC 38 M F S) : RC 38 (lm_wr M 38 12 x) F S := ⟨KC_of h.1 rfl rfl rfl rfl rfl rfl rfl, h.hr, h.br, h.pl, h.co, h.hu, h.hd, h.id, h.ow, h.hs, h.he⟩
section
variable {X : lm_X} {d v : Nat} {M M0 : Nat → Fn} {G : Nat → Nat → Int64} {Q : lm_O → lm_S → Prop} {F : Fa} {s S : Sc}
theorem t_pack (hF : okF F) (h : RM M F s) (f : FrN M0 M) (c : M 64 4 = 0) (l : M 64 42 = 0) (hQ : ∀ M1, TM M0 F s M1 s → Q (.inl none) (lm_T M1 v G)) : lm_Q X d 177 [.ref 64, .ref 90, .int 0] (lm_T M v G) Q :=
  m_pack90 (a := 0) hF h (by omega) (fun M1 v1 _ k1 => hQ M1 ⟨RM_O h k1 (by decide), FrN_tr f (FrN_O k1 rfl (by decide)), v1, by rw [k1 64 rfl]; exact c, by rw [k1 64 rfl]; exact l⟩)
theorem t_unpack (hF : okF F) (t : TM M0 F s M S) (e : sBr S = sBr s) (hQ : ∀ M1, TM M0 F s M1 s → Q (.inl none) (lm_T M1 v G)) : lm_Q X d 178 [.ref 64, .ref 90, .int 0] (lm_T M v G) Q :=
  m_unpack90 (a := 0) hF t.1.1 (by rw [← e]; exact t.1.br) t.2.2.1 (by omega) (fun M1 h1 k1 => hQ M1 (TM_U t k1 h1))
/-- put back with another breath -/
theorem t_unpackB {p : Nat} {x : Int32} (hF : okF F) (t : TM M0 F s M S) (e : sBr S = sBr (brS s p x)) (hQ : ∀ M1, TM M0 F s M1 (brS s p x) → Q (.inl none) (lm_T M1 v G)) : lm_Q X d 178 [.ref 64, .ref 90, .int 0] (lm_T M v G) Q :=
  m_unpack90 (s := brS s p x) (a := 0) hF t.1.1 (by rw [← e]; exact t.1.br) t.2.2.1 (by omega) (fun M1 h1 k1 => hQ M1 (TM_U t k1 h1))
theorem t_anHour (hF : okF F) (t : TM M0 F s M S) (hs : okS F S) (hQ : ∀ M1, TM M0 F s M1 (hourS F nl S) → M1 64 41 = M 64 41 + hourD F S → Q (.inl none) (lm_T M1 v G)) : lm_Q X (d + 4) 193 [.ref 64] (lm_T M v G) Q :=
  m_anHour (lf := nl) hF t.1 hs (fun _ hp => nl_M hF.n hp t.2.2.2.2) (fun M1 h1 k1 e1 => hQ M1 (TM_M t k1 h1) e1)
theorem t_goOn {n : Nat} (hF : okF F) (t : TM M0 F s M S) (hs : okS F S) (hn : n < 2 ^ 31) (hQ : ∀ M1, TM M0 F s M1 (hrsS F nl S n) → M1 64 41 = M 64 41 + hrsD F nl S n → Q (.inl none) (lm_T M1 v G)) : lm_Q X (d + 5) 194 [.ref 64, .int (nI n)] (lm_T M v G) Q :=
  m_goOn (lf := nl) hF t.1 hs (fun _ hp => nl_M hF.n hp t.2.2.2.2) hn (fun M1 h1 k1 e1 => hQ M1 (TM_M t k1 h1) e1)
theorem t_allStop {x : Int32} (hF : okF F) (t : TM M0 F s M S) (hQ : ∀ M1, TM M0 F s M1 (allS F (bitW x) S (fM F)) → M1 64 41 = M 64 41 + allD F (bitW x) S (fM F) → Q (.inl none) (lm_T M1 v G)) : lm_Q X (d + 1) 191 [.ref 64, .int x] (lm_T M v G) Q :=
  m_allStop hF t.1 (fun M1 h1 e1 k1 => hQ M1 (TM_M t k1 h1) e1)
theorem u_start (hF : okF F) (h : RC 28 M0 F s) (f : Fr frQ M0 M) (l : M0 28 12 = -1) (hQ : ∀ M1, TC M0 F M1 s → M1 38 13 = 0 → Q (.inl none) (lm_T M1 v G)) : lm_Q X (d + 1) 132 [.ref 0] (lm_T M v G) Q :=
  c_startTrial hF (RC_Q h f) (fun M1 h1 l1 t1 f1 => hQ M1 ⟨h1, Fr_tr f (Fr_mn f1 (fun _ => frTQ)), l1.trans ((congrFun (f 28 rfl) 12).trans l)⟩ t1)
theorem u_passHour (hF : okF F) (t : TC M0 F M S) (hs : okS F S) (hQ : ∀ M1, TC M0 F M1 (hourS F nl S) → M1 38 13 = M 38 13 + hourD F S → Q (.inl none) (lm_T M1 v G)) : lm_Q X (d + 5) 74 [.ref 38] (lm_T M v G) Q :=
  c_passHour38 (lf := nl) hF t.1 hs (fun _ hp => nl_C hF.n hp t.2.2) (fun M1 h1 k1 e1 => hQ M1 (TC_C t k1 h1) e1)
theorem u_passHours {n : Nat} (hF : okF F) (t : TC M0 F M S) (hs : okS F S) (hn : n < 2 ^ 31) (hQ : ∀ M1, TC M0 F M1 (hrsS F nl S n) → M1 38 13 = M 38 13 + hrsD F nl S n → Q (.inl none) (lm_T M1 v G)) : lm_Q X (d + 6) 73 [.ref 38, .int (nI n)] (lm_T M v G) Q :=
  c_passHours38 (lf := nl) hF t.1 hs (fun _ hp => nl_C hF.n hp t.2.2) hn (fun M1 h1 k1 e1 => hQ M1 (TC_C t k1 h1) e1)
theorem u_behind {n : Nat} {x : Int32} (hF : okF F) (t : TC M0 F M S) (hs : okS F S) (hn : n < 2 ^ 31) (hQ : ∀ M1, TC M0 F M1 (hrsS F nl S n) → Q (.inl (some (.int (cnt (ownS F (sOw (hrsS F nl S n)) x))))) (lm_T M1 v G)) : lm_Q X (d + 6) 62 [.ref 38, .int x, .int (nI n)] (lm_T M v G) Q :=
  c_behind38 (lf := nl) hF t.1 hs (fun _ hp => nl_C hF.n hp t.2.2) hn (fun M1 h1 k1 => hQ M1 (TC_C t k1 h1))
theorem u_putAt {p : Nat} {x : Int32} (hF : okF F) (t : TC M0 F M S) (hp : p < fN F) (hQ : ∀ M1, TC M0 F M1 (plS S p x) → M1 38 13 = M 38 13 → Q (.inl none) (lm_T M1 v G)) : lm_Q X (d + 1) 64 [.ref 38, .int (nI p), .int x] (lm_T M v G) Q :=
  c_putAt38 hF t.1 hp (fun M1 h1 k1 e1 => hQ M1 (TC_W t k1 h1) e1)
theorem u_quiet {p : Nat} (hF : okF F) (t : TC M0 F M S) (hs : okS F S) (hp : p < fN F) (hQ : ∀ M1, TC M0 F M1 (allS F (bitW (bit1 (nI p))) S (fM F)) → M1 38 13 = M 38 13 + allD F (bitW (bit1 (nI p))) S (fM F) → Q (.inl none) (lm_T M1 v G)) : lm_Q X (d + 2) 68 [.ref 38, .int (nI p)] (lm_T M v G) Q :=
  c_quiet38 hF t.1 hs hp (fun M1 h1 k1 e1 => hQ M1 (TC_C t k1 h1) e1)
theorem u_clap (hF : okF F) (t : TC M0 F M S) (hQ : ∀ M1, TC M0 F M1 (allS F (fun _ => true) S (fM F)) → M1 38 13 = M 38 13 + allD F (fun _ => true) S (fM F) → Q (.inl none) (lm_T M1 v G)) : lm_Q X (d + 3) 70 [.ref 38] (lm_T M v G) Q :=
  c_clap38 hF t.1 (fun M1 h1 k1 e1 => hQ M1 (TC_C t k1 h1) e1)
theorem u_quietT {t0 : Nat} (hF : okF F) (t : TC M0 F M S) (ht : t0 < fM F) (hQ : ∀ M1, TC M0 F M1 (tunS F (bitW (humS F (sHu S) (nI t0))) S t0) → M1 38 13 = M 38 13 + tunD F (bitW (humS F (sHu S) (nI t0))) S t0 → Q (.inl none) (lm_T M1 v G)) : lm_Q X (d + 2) 69 [.ref 38, .int (nI t0)] (lm_T M v G) Q :=
  c_quietT38 hF t.1 ht (fun M1 h1 k1 e1 => hQ M1 (TC_C t k1 h1) e1)
end
/-- the first of the greatest -/
def mxS (g : Nat → Bool) (f lb : Nat → Int32) (m : Int32) : Nat → Int32 × Int32
  | 0 => (-1, m)
  | k + 1 => if g k && decide ((mxS g f lb m k).2 < f k) then (lb k, f k) else mxS g f lb m k
theorem mx_y {g : Nat → Bool} {f lb : Nat → Int32} {m : Int32} {k : Nat} (hg : g k = true) (h : (mxS g f lb m k).2 < f k) : mxS g f lb m (k + 1) = (lb k, f k) := by simp only [mxS]; rw [hg, decide_eq_true h]; rfl
theorem mx_n {g : Nat → Bool} {f lb : Nat → Int32} {m : Int32} {k : Nat} (h : ¬ (mxS g f lb m k).2 < f k) : mxS g f lb m (k + 1) = mxS g f lb m k := by simp only [mxS]; rw [decide_eq_false h, Bool.and_false]; rfl
theorem mx_g {g : Nat → Bool} {f lb : Nat → Int32} {m : Int32} {k : Nat} (h : g k = false) : mxS g f lb m (k + 1) = mxS g f lb m k := by simp only [mxS]; rw [h, Bool.false_and]; rfl
abbrev al : Nat → Bool := fun _ => true
def ctS (f : Nat → Bool) : Nat → Int32
  | 0 => 0
  | k + 1 => if f k then ctS f k + 1 else ctS f k
theorem ct_y {f : Nat → Bool} {k : Nat} (h : f k = true) : ctS f (k + 1) = ctS f k + 1 := by simp [ctS, h]
theorem ct_n {f : Nat → Bool} {k : Nat} (h : f k = false) : ctS f (k + 1) = ctS f k := by simp [ctS, h]
/-- the first as a number, or -1 -/
def fiS (f : Nat → Bool) (n : Nat) : Int32 := match fstS f n with
  | some k => nI k
  | none => -1
theorem fi_some {f : Nat → Bool} {j n k : Nat} (h : fstS f j = some k) (hj : j ≤ n) : fiS f n = nI k := by unfold fiS; rw [fst_some h hj]
theorem fi_none {f : Nat → Bool} {n : Nat} (h : fstS f n = none) : fiS f n = -1 := by unfold fiS; rw [h]
/-- where the one fault is an IllegalArgumentException -/
def cO1 (a : An) : lm_O := match a with
  | .inl v => .inl (some (.int v))
  | .inr _ => .inr 1
theorem cnt_pos {x : Int32} (h : ∃ k, k < 256 ∧ x = nI k) : -1 < cnt x := by
  obtain ⟨k, hk, e⟩ := h
  rw [e, cnt_nI hk]
  have := pcN_le k hk
  exact Int32.lt_of_lt_of_le (by decide) (nI_pos' (n := pcN k) (by omega))
def frSs (a : Nat) : Bool := decide (a = 64 ∨ (81 ≤ a ∧ a ≤ 86) ∨ a = 88 ∨ a = 89 ∨ a = 95)
/-- what a row of hours that is put back may change -/
def FrS (M M1 : Nat → Fn) : Prop := Fr frSs M M1 ∧ ∀ k, k ≠ 36 → k ≠ 41 → M1 64 k = M 64 k
theorem FrS_rf (M : Nat → Fn) : FrS M M := ⟨Fr_rf _ _, fun _ _ _ => rfl⟩
theorem FrS_tr {M M1 M2 : Nat → Fn} (h : FrS M M1) (h2 : FrS M1 M2) : FrS M M2 := ⟨Fr_tr h.1 h2.1, fun k a b => (h2.2 k a b).trans (h.2 k a b)⟩
theorem FrS_M {M M1 : Nat → Fn} (h : FrM M M1) : FrS M M1 := by
  refine ⟨Fr_mn h.1 (fun a ha => ?_), h.2⟩
  unfold frSs at ha
  unfold frM
  rw [decide_eq_false_iff_not] at ha
  simp only [Bool.or_eq_false_iff, beq_eq_false_iff_ne]
  omega
theorem FrS_U {M M1 : Nat → Fn} (h : FrU M M1) : FrS M M1 := by
  refine ⟨Fr_mn h.1 (fun a ha => ?_), fun k a _ => h.2 k a⟩
  unfold frSs at ha
  unfold frU
  rw [decide_eq_false_iff_not] at ha ⊢
  omega
theorem FrS_O {M M1 : Nat → Fn} (h : Fr (frO 95) M M1) : FrS M M1 := by
  refine ⟨Fr_mn h (fun a ha => ?_), fun k _ _ => by rw [h 64 rfl]⟩
  unfold frO
  rw [beq_eq_false_iff_ne]
  intro e
  rw [e] at ha
  cases ha
theorem FrN_S {M M1 : Nat → Fn} (h : FrS M M1) : FrN M M1 := by
  refine ⟨Fr_mn h.1 (fun a ha => ?_), fun k _ a b _ _ => h.2 k a b⟩
  unfold frN at ha
  unfold frSs
  rw [decide_eq_false_iff_not] at ha ⊢
  omega
theorem TM_S {M0 M M1 : Nat → Fn} {F : Fa} {s S S' : Sc} (t : TM M0 F s M S) (f : FrS M M1) (h : RM M1 F S') : TM M0 F s M1 S' :=
  ⟨h, FrN_tr t.2.1 (FrN_S f), by rw [f.1 90 rfl]; exact t.2.2.1, by rw [f.2 4 (by decide) (by decide)]; exact t.2.2.2.1, by rw [f.2 42 (by decide) (by decide)]; exact t.2.2.2.2⟩
/-- the first as a number that counts from 1, or -1 -/
def fi1 (f : Nat → Bool) (n : Nat) : Int32 := match fstS f n with
  | some k => nI (k + 1)
  | none => -1
theorem f1_some {f : Nat → Bool} {j n k : Nat} (h : fstS f j = some k) (hj : j ≤ n) : fi1 f n = nI (k + 1) := by unfold fi1; rw [fst_some h hj]
theorem f1_none {f : Nat → Bool} {n : Nat} (h : fstS f n = none) : fi1 f n = -1 := by unfold fi1; rw [h]
theorem br_self {s : Sc} {p : Nat} : brS s p (sBr s p) = s := by
  unfold brS
  have : upd (sBr s) p (sBr s p) = sBr s := by
    funext j
    by_cases e : j = p
    · subst e
      exact pk_us
    · exact pk_un e
  rw [this]
theorem br_twice {s : Sc} {p : Nat} {x y : Int32} : brS (brS s p x) p y = brS s p y := by
  unfold brS
  have : upd (upd (sBr s) p x) p y = upd (sBr s) p y := by
    funext j
    by_cases e : j = p
    · subst e
      rw [pk_us, pk_us]
    · rw [pk_un e, pk_un e, pk_un e]
  show (_, upd (upd (sBr s) p x) p y, _) = _
  rw [this]
theorem TM_brb {M0 M : Nat → Fn} {F : Fa} {s : Sc} {p : Nat} {y : Int32} (t : TM M0 F s M (brS s p y)) (q : Nat) (x : Int32) (e : q = p := by rfl) : TM M0 F s (lm_wr M 79 p x) (brS s p x) := by
  have := TM_br t p x
  rw [br_twice] at this
  exact this
theorem RM_brk {M : Nat → Fn} {F : Fa} {s : Sc} {p : Nat} {y : Int32} (_ : p < fN F) (h : RM M F (brS s p y)) : RM (lm_wr M 79 p (sBr s p)) F s := by
  have := RM_br h p (sBr s p)
  rw [br_twice, br_self] at this
  exact this
/-- the class's trial, with all else as it was -/
def TD (M0 : Nat → Fn) (F : Fa) (M : Nat → Fn) (S : Sc) : Prop := RC 38 M F S ∧ Fr frT M0 M ∧ M 38 12 = -1
theorem TD_C {M0 M M1 : Nat → Fn} {F : Fa} {S S' : Sc} (t : TD M0 F M S) (f : FrC 38 M M1) (h : RC 38 M1 F S') : TD M0 F M1 S' := ⟨h, Fr_tr t.2.1 (FT_C f), (f.2 12 (by decide) (by decide)).trans t.2.2⟩
theorem RC_T {M M1 : Nat → Fn} {F : Fa} {s : Sc} (h : RC 28 M F s) (f : Fr frT M M1) : RC 28 M1 F s := RC_fr h f (by decide) (by decide)
theorem TD_br {M0 M : Nat → Fn} {F : Fa} {S : Sc} (t : TD M0 F M S) (p : Nat) (x : Int32) : TD M0 F (lm_wr M 39 p x) (brS S p x) := ⟨RC_br t.1 p x, Fr_wr t.2.1 rfl, t.2.2⟩
section
variable {X : lm_X} {d v : Nat} {M M0 : Nat → Fn} {G : Nat → Nat → Int64} {Q : lm_O → lm_S → Prop} {F : Fa} {s S : Sc}
theorem w_start (hF : okF F) (h : RC 28 M F s) (l : M 28 12 = -1) (hQ : ∀ M1, TD M F M1 s → Q (.inl none) (lm_T M1 v G)) : lm_Q X (d + 1) 132 [.ref 0] (lm_T M v G) Q :=
  c_startTrial hF h (fun M1 h1 l1 _ f1 => hQ M1 ⟨h1, f1, l1.trans l⟩)
theorem w_passHour (hF : okF F) (t : TD M0 F M S) (hs : okS F S) (hQ : ∀ M1, TD M0 F M1 (hourS F nl S) → Q (.inl none) (lm_T M1 v G)) : lm_Q X (d + 5) 74 [.ref 38] (lm_T M v G) Q :=
  c_passHour38 (lf := nl) hF t.1 hs (fun _ hp => nl_C hF.n hp t.2.2) (fun M1 h1 k1 _ => hQ M1 (TD_C t k1 h1))
theorem w_passHours {n : Nat} (hF : okF F) (t : TD M0 F M S) (hs : okS F S) (hn : n < 2 ^ 31) (hQ : ∀ M1, TD M0 F M1 (hrsS F nl S n) → Q (.inl none) (lm_T M1 v G)) : lm_Q X (d + 6) 73 [.ref 38, .int (nI n)] (lm_T M v G) Q :=
  c_passHours38 (lf := nl) hF t.1 hs (fun _ hp => nl_C hF.n hp t.2.2) hn (fun M1 h1 k1 _ => hQ M1 (TD_C t k1 h1))
theorem w_quiet {p : Nat} (hF : okF F) (t : TD M0 F M S) (hs : okS F S) (hp : p < fN F) (hQ : ∀ M1, TD M0 F M1 (allS F (bitW (bit1 (nI p))) S (fM F)) → Q (.inl none) (lm_T M1 v G)) : lm_Q X (d + 2) 68 [.ref 38, .int (nI p)] (lm_T M v G) Q :=
  c_quiet38 hF t.1 hs hp (fun M1 h1 k1 _ => hQ M1 (TD_C t k1 h1))
end
