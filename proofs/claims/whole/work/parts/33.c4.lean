/-! ===== contracts: the model's rules ===== -/
set_option maxRecDepth 10000 in
theorem m_reckon0 {X : lm_X} {d v : Nat} {M : Nat → Nat → Int32} {G : Nat → Nat → Int64} {Q : lm_O → lm_S → Prop} {x y : Int32} (hQ : Q (.inl (some (.int (doS 0 x y)))) (lm_T M v G)) : lm_Q X d 184 [.int (-20), .int x, .int y] (lm_T M v G) Q := by
  show lm_G X d 184 106 0 0 0 [some (.int (-20)), some (.int x), some (.int y)] [] (lm_T M v G) Q
  refine lm_G_sg 5 (pc' := 47) (L' := [some (.int (-20)), some (.int x), some (.int y)]) (S' := [.int (x + y)]) (σ' := lm_T M v G) rfl trivial ?_
  exact lm_G_re rfl trivial (Nat.zero_le _) (Nat.zero_le _) hQ
set_option maxRecDepth 10000 in
theorem m_reckon1 {X : lm_X} {d v : Nat} {M : Nat → Nat → Int32} {G : Nat → Nat → Int64} {Q : lm_O → lm_S → Prop} {x y : Int32} (hQ : Q (.inl (some (.int (doS 1 x y)))) (lm_T M v G)) : lm_Q X d 184 [.int (-21), .int x, .int y] (lm_T M v G) Q := by
  show lm_G X d 184 106 0 0 0 [some (.int (-21)), some (.int x), some (.int y)] [] (lm_T M v G) Q
  refine lm_G_sg 5 (pc' := 51) (L' := [some (.int (-21)), some (.int x), some (.int y)]) (S' := [.int (x - y)]) (σ' := lm_T M v G) rfl trivial ?_
  exact lm_G_re rfl trivial (Nat.zero_le _) (Nat.zero_le _) hQ
set_option maxRecDepth 10000 in
theorem m_reckon2 {X : lm_X} {d v : Nat} {M : Nat → Nat → Int32} {G : Nat → Nat → Int64} {Q : lm_O → lm_S → Prop} {x y : Int32} (hQ : Q (.inl (some (.int (doS 2 x y)))) (lm_T M v G)) : lm_Q X d 184 [.int (-22), .int x, .int y] (lm_T M v G) Q := by
  show lm_G X d 184 106 0 0 0 [some (.int (-22)), some (.int x), some (.int y)] [] (lm_T M v G) Q
  refine lm_G_sg 5 (pc' := 55) (L' := [some (.int (-22)), some (.int x), some (.int y)]) (S' := [.int (x * y)]) (σ' := lm_T M v G) rfl trivial ?_
  exact lm_G_re rfl trivial (Nat.zero_le _) (Nat.zero_le _) hQ
set_option maxRecDepth 10000 in
theorem m_reckon3 {X : lm_X} {d v : Nat} {M : Nat → Nat → Int32} {G : Nat → Nat → Int64} {Q : lm_O → lm_S → Prop} {x y : Int32} (hQ : Q (.inl (some (.int (doS 3 x y)))) (lm_T M v G)) : lm_Q X d 184 [.int (-23), .int x, .int y] (lm_T M v G) Q := by
  show lm_G X d 184 106 0 0 0 [some (.int (-23)), some (.int x), some (.int y)] [] (lm_T M v G) Q
  refine lm_G_sg 3 (pc' := 57) (L' := [some (.int (-23)), some (.int x), some (.int y)]) (S' := [.int y]) (σ' := lm_T M v G) rfl trivial ?_
  refine lm_G_br (b := ¬ y = 0) (t := 64) (S' := []) rfl (fun hc => ?_) (fun hc => ?_)
  ·
    refine lm_G_sg 3 (pc' := 67) (L' := [some (.int (-23)), some (.int x), some (.int y)]) (S' := [.int (x / y)]) (σ' := lm_T M v G) rfl ⟨hc, trivial, trivial⟩ ?_
    rw [show doS 3 x y = x / y from if_neg hc] at hQ
    exact lm_G_re rfl trivial (Nat.zero_le _) (Nat.zero_le _) hQ
  ·
    refine lm_G_sg 2 (pc' := 67) (L' := [some (.int (-23)), some (.int x), some (.int y)]) (S' := [.int 0]) (σ' := lm_T M v G) rfl trivial ?_
    rw [show doS 3 x y = 0 from if_pos (Classical.not_not.mp hc)] at hQ
    exact lm_G_re rfl trivial (Nat.zero_le _) (Nat.zero_le _) hQ
set_option maxRecDepth 10000 in
theorem m_reckon4 {X : lm_X} {d v : Nat} {M : Nat → Nat → Int32} {G : Nat → Nat → Int64} {Q : lm_O → lm_S → Prop} {x y : Int32} (hQ : Q (.inl (some (.int (doS 4 x y)))) (lm_T M v G)) : lm_Q X d 184 [.int (-24), .int x, .int y] (lm_T M v G) Q := by
  show lm_G X d 184 106 0 0 0 [some (.int (-24)), some (.int x), some (.int y)] [] (lm_T M v G) Q
  refine lm_G_sg 4 (pc' := 70) (L' := [some (.int (-24)), some (.int x), some (.int y)]) (S' := [.int y, .int x]) (σ' := lm_T M v G) rfl trivial ?_
  refine lm_G_br (b := y ≤ x) (t := 77) (S' := []) rfl (fun hc => ?_) (fun hc => ?_)
  ·
    refine lm_G_sg 1 (pc' := 78) (L' := [some (.int (-24)), some (.int x), some (.int y)]) (S' := [.int 0]) (σ' := lm_T M v G) rfl trivial ?_
    rw [show doS 4 x y = 0 from if_neg (Int32.not_lt.mpr hc)] at hQ
    exact lm_G_re rfl trivial (Nat.zero_le _) (Nat.zero_le _) hQ
  ·
    refine lm_G_sg 2 (pc' := 78) (L' := [some (.int (-24)), some (.int x), some (.int y)]) (S' := [.int 1]) (σ' := lm_T M v G) rfl trivial ?_
    rw [show doS 4 x y = 1 from if_pos (Int32.not_le.mp hc)] at hQ
    exact lm_G_re rfl trivial (Nat.zero_le _) (Nat.zero_le _) hQ
set_option maxRecDepth 10000 in
theorem m_reckon5 {X : lm_X} {d v : Nat} {M : Nat → Nat → Int32} {G : Nat → Nat → Int64} {Q : lm_O → lm_S → Prop} {x y : Int32} (hQ : Q (.inl (some (.int (doS 5 x y)))) (lm_T M v G)) : lm_Q X d 184 [.int (-25), .int x, .int y] (lm_T M v G) Q := by
  show lm_G X d 184 106 0 0 0 [some (.int (-25)), some (.int x), some (.int y)] [] (lm_T M v G) Q
  refine lm_G_sg 4 (pc' := 81) (L' := [some (.int (-25)), some (.int x), some (.int y)]) (S' := [.int y, .int x]) (σ' := lm_T M v G) rfl trivial ?_
  refine lm_G_br (b := ¬ x = y) (t := 88) (S' := []) rfl (fun hc => ?_) (fun hc => ?_)
  ·
    refine lm_G_sg 1 (pc' := 89) (L' := [some (.int (-25)), some (.int x), some (.int y)]) (S' := [.int 0]) (σ' := lm_T M v G) rfl trivial ?_
    rw [show doS 5 x y = 0 from if_neg hc] at hQ
    exact lm_G_re rfl trivial (Nat.zero_le _) (Nat.zero_le _) hQ
  ·
    refine lm_G_sg 2 (pc' := 89) (L' := [some (.int (-25)), some (.int x), some (.int y)]) (S' := [.int 1]) (σ' := lm_T M v G) rfl trivial ?_
    rw [show doS 5 x y = 1 from if_pos (Classical.not_not.mp hc)] at hQ
    exact lm_G_re rfl trivial (Nat.zero_le _) (Nat.zero_le _) hQ
set_option maxRecDepth 10000 in
theorem m_reckon7 {X : lm_X} {d v : Nat} {M : Nat → Nat → Int32} {G : Nat → Nat → Int64} {Q : lm_O → lm_S → Prop} {x y : Int32} (hQ : Q (.inl (some (.int (doS 7 x y)))) (lm_T M v G)) : lm_Q X d 184 [.int (-26), .int x, .int y] (lm_T M v G) Q := by
  show lm_G X d 184 106 0 0 0 [some (.int (-26)), some (.int x), some (.int y)] [] (lm_T M v G) Q
  refine lm_G_sg 3 (pc' := 91) (L' := [some (.int (-26)), some (.int x), some (.int y)]) (S' := [.int x]) (σ' := lm_T M v G) rfl trivial ?_
  refine lm_G_br (b := x = 0) (t := 102) (S' := []) rfl (fun hc => ?_) (fun hc => ?_)
  ·
    refine lm_G_sg 1 (pc' := 103) (L' := [some (.int (-26)), some (.int x), some (.int y)]) (S' := [.int 0]) (σ' := lm_T M v G) rfl trivial ?_
    rw [show doS 7 x y = 0 from if_neg (fun w => w.1 hc)] at hQ
    exact lm_G_re rfl trivial (Nat.zero_le _) (Nat.zero_le _) hQ
  ·
    refine lm_G_sg 1 (pc' := 95) (L' := [some (.int (-26)), some (.int x), some (.int y)]) (S' := [.int y]) (σ' := lm_T M v G) rfl trivial ?_
    refine lm_G_br (b := y = 0) (t := 102) (S' := []) rfl (fun h2 => ?_) (fun h2 => ?_)
    ·
      refine lm_G_sg 1 (pc' := 103) (L' := [some (.int (-26)), some (.int x), some (.int y)]) (S' := [.int 0]) (σ' := lm_T M v G) rfl trivial ?_
      rw [show doS 7 x y = 0 from if_neg (fun w => w.2 h2)] at hQ
      exact lm_G_re rfl trivial (Nat.zero_le _) (Nat.zero_le _) hQ
    ·
      refine lm_G_sg 2 (pc' := 103) (L' := [some (.int (-26)), some (.int x), some (.int y)]) (S' := [.int 1]) (σ' := lm_T M v G) rfl trivial ?_
      rw [show doS 7 x y = 1 from if_pos ⟨hc, h2⟩] at hQ
      exact lm_G_re rfl trivial (Nat.zero_le _) (Nat.zero_le _) hQ
set_option maxRecDepth 10000 in
theorem m_reckon8 {X : lm_X} {d v : Nat} {M : Nat → Nat → Int32} {G : Nat → Nat → Int64} {Q : lm_O → lm_S → Prop} {x y : Int32} (hQ : Q (.inl (some (.int (doS 8 x y)))) (lm_T M v G)) : lm_Q X d 184 [.int (-27), .int x, .int y] (lm_T M v G) Q := by
  show lm_G X d 184 106 0 0 0 [some (.int (-27)), some (.int x), some (.int y)] [] (lm_T M v G) Q
  refine lm_G_sg 3 (pc' := 105) (L' := [some (.int (-27)), some (.int x), some (.int y)]) (S' := [.int x]) (σ' := lm_T M v G) rfl trivial ?_
  refine lm_G_br (b := ¬ x = 0) (t := 112) (S' := []) rfl (fun hc => ?_) (fun hc => ?_)
  ·
    refine lm_G_sg 2 (pc' := 117) (L' := [some (.int (-27)), some (.int x), some (.int y)]) (S' := [.int 1]) (σ' := lm_T M v G) rfl trivial ?_
    rw [show doS 8 x y = 1 from if_pos (Or.inl hc)] at hQ
    exact lm_G_re rfl trivial (Nat.zero_le _) (Nat.zero_le _) hQ
  ·
    refine lm_G_sg 1 (pc' := 109) (L' := [some (.int (-27)), some (.int x), some (.int y)]) (S' := [.int y]) (σ' := lm_T M v G) rfl trivial ?_
    refine lm_G_br (b := y = 0) (t := 116) (S' := []) rfl (fun h2 => ?_) (fun h2 => ?_)
    ·
      refine lm_G_sg 1 (pc' := 117) (L' := [some (.int (-27)), some (.int x), some (.int y)]) (S' := [.int 0]) (σ' := lm_T M v G) rfl trivial ?_
      rw [show doS 8 x y = 0 from if_neg (fun w => w.elim hc (fun q => q h2))] at hQ
      exact lm_G_re rfl trivial (Nat.zero_le _) (Nat.zero_le _) hQ
    ·
      refine lm_G_sg 2 (pc' := 117) (L' := [some (.int (-27)), some (.int x), some (.int y)]) (S' := [.int 1]) (σ' := lm_T M v G) rfl trivial ?_
      rw [show doS 8 x y = 1 from if_pos (Or.inr h2)] at hQ
      exact lm_G_re rfl trivial (Nat.zero_le _) (Nat.zero_le _) hQ
theorem m_reckon {X : lm_X} {d v : Nat} {M : Nat → Nat → Int32} {G : Nat → Nat → Int64} {Q : lm_O → lm_S → Prop} {x y : Int32} {o : Nat} (ho : o < 9) (h6 : o ≠ 6) (hQ : Q (.inl (some (.int (doS o x y)))) (lm_T M v G)) : lm_Q X d 184 [.int (encM (2, o)), .int x, .int y] (lm_T M v G) Q := by
  rcases (by omega : o = 0 ∨ o = 1 ∨ o = 2 ∨ o = 3 ∨ o = 4 ∨ o = 5 ∨ o = 7 ∨ o = 8) with e | e | e | e | e | e | e | e <;> subst e
  · rw [show encM (2, 0) = -20 from by decide]
    exact m_reckon0 hQ
  · rw [show encM (2, 1) = -21 from by decide]
    exact m_reckon1 hQ
  · rw [show encM (2, 2) = -22 from by decide]
    exact m_reckon2 hQ
  · rw [show encM (2, 3) = -23 from by decide]
    exact m_reckon3 hQ
  · rw [show encM (2, 4) = -24 from by decide]
    exact m_reckon4 hQ
  · rw [show encM (2, 5) = -25 from by decide]
    exact m_reckon5 hQ
  · rw [show encM (2, 7) = -26 from by decide]
    exact m_reckon7 hQ
  · rw [show encM (2, 8) = -27 from by decide]
    exact m_reckon8 hQ
theorem enc_num {k : Nat} (hk : k < 10000) : ¬ nI k ≤ -20 ∧ ¬ nI k < 0 := by
  have e := nI_toInt (n := k) (by omega)
  have e2 : (-20 : Int32).toInt = -20 := by decide
  have e3 : (0 : Int32).toInt = 0 := by decide
  exact ⟨fun h => by rw [Int32.le_iff_toInt_le, e, e2] at h; omega, fun h => by rw [Int32.lt_iff_toInt_lt, e, e3] at h; omega⟩
theorem enc_val : ∀ i, i < 6 → ¬ (-1 - nI i : Int32) ≤ -20 ∧ (-1 - nI i : Int32) < 0 ∧ (-1 : Int32) - (-1 - nI i) = nI i := by decide
theorem enc_op : ∀ o, o < 9 → encM (2, o) ≤ -20 ∧ (encM (2, o) = -28 ↔ o = 6) := by decide
theorem drop_at {ts : List (Nat × Nat)} {k : Nat} (hk : k < ts.length) : ts.drop k = ts.getD k (0, 0) :: ts.drop (k + 1) := by
  rw [List.drop_eq_getElem_cons hk]
  simp [List.getD, hk]
theorem Ag_push {n : Nat} {f g : Nat → Int32} (h : Ag n f g) (x : Int32) : Ag (n + 1) (upd f n x) (upd g n x) := by
  intro j hj
  unfold upd
  split
  · rfl
  · exact h j (by omega)
def frK (a : Nat) : Bool := a == 89
set_option maxRecDepth 10000 in
theorem m_valueNow0 {X : lm_X} {d v : Nat} {M : Nat → Nat → Int32} {G : Nat → Nat → Int64} {Q : lm_O → lm_S → Prop} {ts : List (Nat × Nat)} {vs : Fn} (hl : ts.length ≤ 700) (hw : wfS ts 0) (hr : Ag ts.length (M 76) (fun k => encM (ts.getD k (0, 0)))) (ha : Ag 6 (M 88) vs) (hQ : ∀ M1, Fr frK M M1 → Q (.inl (some (.int (reckS vs ts)))) (lm_T M1 v G)) : lm_Q X (d + 1) 185 [.ref 64, .ref 76, .int (nI ts.length)] (lm_T M v G) Q := by
  show lm_G X (d + 1) 185 106 0 0 0 [some (.ref 64), some (.ref 76), some (.int (nI ts.length)), none, none, none] [] (lm_T M v G) Q
  refine lm_G_sg 4 (pc' := 5) (L' := [some (.ref 64), some (.ref 76), some (.int (nI ts.length)), some (.int 0), some (.int 0), none]) (S' := []) (σ' := lm_T M v G) rfl trivial ?_
  refine lm_ind (α := (Nat → Fn) × Nat × Fn) (St := fun (k : Nat) zz => (fun (M1 : Nat → Fn) (n : Nat) (f : Fn) => lm_G X (d + 1) 185 106 0 0 5 [some (.ref 64), some (.ref 76), some (.int (nI ts.length)), some (.int (nI n)), some (.int (nI k)), none] [] (lm_T M1 v G) Q) zz.1 zz.2.1 zz.2.2) (Inv := fun (k : Nat) zz => (fun (M1 : Nat → Fn) (n : Nat) (f : Fn) => n ≤ 32 ∧ rnS vs (ts.drop k) (n, f) = rnS vs ts (0, fun _ => 0) ∧ wfS (ts.drop k) n ∧ Ag n (M1 89) f ∧ Fr frK M M1) zz.1 zz.2.1 zz.2.2) (ts.length) (fun k zz hj hI ih => ?_) (fun zz hI => ?_) (0) (M, 0, fun _ => 0) (by omega) ?_
  ·
    obtain ⟨M1, n, f⟩ := zz
    replace hI : n ≤ 32 ∧ rnS vs (ts.drop k) (n, f) = rnS vs ts (0, fun _ => 0) ∧ wfS (ts.drop k) n ∧ Ag n (M1 89) f ∧ Fr frK M M1 := hI
    replace ih : ∀ (M1 : Nat → Fn) (n : Nat) (f : Fn) (_ : n ≤ 32 ∧ rnS vs (ts.drop (k + 1)) (n, f) = rnS vs ts (0, fun _ => 0) ∧ wfS (ts.drop (k + 1)) n ∧ Ag n (M1 89) f ∧ Fr frK M M1), lm_G X (d + 1) 185 106 0 0 5 [some (.ref 64), some (.ref 76), some (.int (nI ts.length)), some (.int (nI n)), some (.int (nI (k + 1))), none] [] (lm_T M1 v G) Q := fun M1 n f q => ih (M1, n, f) q
    show lm_G X (d + 1) 185 106 0 0 5 [some (.ref 64), some (.ref 76), some (.int (nI ts.length)), some (.int (nI n)), some (.int (nI k)), none] [] (lm_T M1 v G) Q
    obtain ⟨i1, i2, i3, i4, i5⟩ := hI
    refine lm_G_sg 2 (pc' := 8) (L' := [some (.ref 64), some (.ref 76), some (.int (nI ts.length)), some (.int (nI n)), some (.int (nI k)), none]) (S' := [.int (nI ts.length), .int (nI k)]) (σ' := lm_T M1 v G) rfl trivial ?_
    refine lm_G_br (b := (nI ts.length) ≤ (nI k)) (t := 125) (S' := []) rfl (fun hc => absurd hc (nI_ge hj (by omega))) (fun hc => ?_)
    refine lm_G_sg 3 (pc' := 15) (L' := [some (.ref 64), some (.ref 76), some (.int (nI ts.length)), some (.int (nI n)), some (.int (nI k)), none]) (S' := [.int (M1 76 (nI k).toNatClampNeg)]) (σ' := lm_T M1 v G) rfl ⟨(vp_in_nI (by omega) (by omega)), trivial, trivial⟩ ?_
    rw [show (nI k).toNatClampNeg = k from nI_clamp (by omega)]
    rw [show M1 76 k = encM (ts.getD k (0, 0)) from (congrFun (i5 76 rfl) k).trans (hr k hj)]
    refine lm_G_sg 1 (pc' := 17) (L' := [some (.ref 64), some (.ref 76), some (.int (nI ts.length)), some (.int (nI n)), some (.int (nI k)), some (.int (encM (ts.getD k (0, 0))))]) (S' := []) (σ' := lm_T M1 v G) rfl trivial ?_
    rw [drop_at hj] at i2 i3
    generalize ts.getD k (0, 0) = q at i2 i3 ⊢
    obtain ⟨q1, q2⟩ := q
    match q1, i2, i3 with
    | 0, i2, i3 =>
      obtain ⟨j1, j2, j3⟩ := i3
      show lm_G X (d + 1) 185 106 0 0 17 [some (.ref 64), some (.ref 76), some (.int (nI ts.length)), some (.int (nI n)), some (.int (nI k)), some (.int (nI q2))] [] (lm_T M1 v G) Q
      refine lm_G_sg 2 (pc' := 21) (L' := [some (.ref 64), some (.ref 76), some (.int (nI ts.length)), some (.int (nI n)), some (.int (nI k)), some (.int (nI q2))]) (S' := [.int (-20), .int (nI q2)]) (σ' := lm_T M1 v G) rfl trivial ?_
      refine lm_G_br (b := (nI q2) ≤ (-20)) (t := 55) (S' := []) rfl (fun hc => absurd hc (enc_num j1).1) (fun hc => ?_)
      refine lm_G_sg 4 (pc' := 31) (L' := [some (.ref 64), some (.ref 76), some (.int (nI ts.length)), some (.int (nI n)), some (.int (nI k)), some (.int (nI q2))]) (S' := [.int (nI q2), .int (nI n), .ref 89]) (σ' := lm_T M1 v G) rfl trivial ?_
      refine lm_G_br (b := (nI q2) < 0) (t := 39) (S' := [.int (nI n), .ref 89]) rfl (fun hc => absurd hc (enc_num j1).2) (fun hc => ?_)
      refine lm_G_sg 3 (pc' := 49) (L' := [some (.ref 64), some (.ref 76), some (.int (nI ts.length)), some (.int (nI n)), some (.int (nI k)), some (.int (nI q2))]) (S' := []) (σ' := lm_T (lm_wr M1 89 ((nI n).toNatClampNeg) (nI q2)) v G) rfl ⟨(vp_in_nI (by omega) (by omega)), trivial, trivial⟩ ?_
      rw [show (nI n).toNatClampNeg = n from nI_clamp (by omega)]
      refine lm_G_sg 1 (pc' := 52) (L' := [some (.ref 64), some (.ref 76), some (.int (nI ts.length)), some (.int ((nI n) + 1)), some (.int (nI k)), some (.int (nI q2))]) (S' := []) (σ' := lm_T (lm_wr M1 89 n (nI q2)) v G) rfl trivial ?_
      rw [nI_1]
      refine lm_G_sg 2 (pc' := 122) (L' := [some (.ref 64), some (.ref 76), some (.int (nI ts.length)), some (.int (nI (n + 1))), some (.int ((nI k) + 1)), some (.int (nI q2))]) (S' := []) (σ' := lm_T (lm_wr M1 89 n (nI q2)) v G) rfl trivial ?_
      rw [nI_1]
      refine lm_G_sg 1 (pc' := 5) (L' := [some (.ref 64), some (.ref 76), some (.int (nI ts.length)), some (.int (nI (n + 1))), some (.int (nI (k + 1))), some (.int (nI q2))]) (S' := []) (σ' := lm_T (lm_wr M1 89 n (nI q2)) v G) rfl trivial ?_
      refine lm_G_jk (L := [some (.ref 64), some (.ref 76), some (.int (nI ts.length)), some (.int (nI (n + 1))), some (.int (nI (k + 1))), none]) ⟨rfl, rfl, rfl, rfl, rfl, trivial⟩ ?_
      exact ih _ _ _ (⟨by omega, i2, j3, Ag_push i4 _, Fr_wr i5 rfl⟩)
    | 1, i2, i3 =>
      obtain ⟨j1, j2, j3⟩ := i3
      obtain ⟨e1, e2, e3⟩ := enc_val q2 j1
      show lm_G X (d + 1) 185 106 0 0 17 [some (.ref 64), some (.ref 76), some (.int (nI ts.length)), some (.int (nI n)), some (.int (nI k)), some (.int (-1 - nI q2))] [] (lm_T M1 v G) Q
      refine lm_G_sg 2 (pc' := 21) (L' := [some (.ref 64), some (.ref 76), some (.int (nI ts.length)), some (.int (nI n)), some (.int (nI k)), some (.int (-1 - nI q2))]) (S' := [.int (-20), .int (-1 - nI q2)]) (σ' := lm_T M1 v G) rfl trivial ?_
      refine lm_G_br (b := (-1 - nI q2) ≤ (-20)) (t := 55) (S' := []) rfl (fun hc => absurd hc e1) (fun hc => ?_)
      refine lm_G_sg 4 (pc' := 31) (L' := [some (.ref 64), some (.ref 76), some (.int (nI ts.length)), some (.int (nI n)), some (.int (nI k)), some (.int (-1 - nI q2))]) (S' := [.int (-1 - nI q2), .int (nI n), .ref 89]) (σ' := lm_T M1 v G) rfl trivial ?_
      refine lm_G_br (b := (-1 - nI q2) < 0) (t := 39) (S' := [.int (nI n), .ref 89]) rfl (fun hc => ?_) (fun hc => absurd e2 hc)
      refine lm_G_sg 5 (pc' := 47) (L' := [some (.ref 64), some (.ref 76), some (.int (nI ts.length)), some (.int (nI n)), some (.int (nI k)), some (.int (-1 - nI q2))]) (S' := [.int ((-1) - (-1 - nI q2)), .ref 88, .int (nI n), .ref 89]) (σ' := lm_T M1 v G) rfl trivial ?_
      rw [e3]
      refine lm_G_sg 1 (pc' := 48) (L' := [some (.ref 64), some (.ref 76), some (.int (nI ts.length)), some (.int (nI n)), some (.int (nI k)), some (.int (-1 - nI q2))]) (S' := [.int (M1 88 (nI q2).toNatClampNeg), .int (nI n), .ref 89]) (σ' := lm_T M1 v G) rfl ⟨(vp_in_nI (by omega) (by omega)), trivial, trivial⟩ ?_
      rw [show (nI q2).toNatClampNeg = q2 from nI_clamp (by omega)]
      rw [show M1 88 q2 = vs q2 from (congrFun (i5 88 rfl) q2).trans (ha q2 j1)]
      refine lm_G_sg 1 (pc' := 49) (L' := [some (.ref 64), some (.ref 76), some (.int (nI ts.length)), some (.int (nI n)), some (.int (nI k)), some (.int (-1 - nI q2))]) (S' := []) (σ' := lm_T (lm_wr M1 89 ((nI n).toNatClampNeg) (vs q2)) v G) rfl ⟨(vp_in_nI (by omega) (by omega)), trivial, trivial⟩ ?_
      rw [show (nI n).toNatClampNeg = n from nI_clamp (by omega)]
      refine lm_G_sg 1 (pc' := 52) (L' := [some (.ref 64), some (.ref 76), some (.int (nI ts.length)), some (.int ((nI n) + 1)), some (.int (nI k)), some (.int (-1 - nI q2))]) (S' := []) (σ' := lm_T (lm_wr M1 89 n (vs q2)) v G) rfl trivial ?_
      rw [nI_1]
      refine lm_G_sg 2 (pc' := 122) (L' := [some (.ref 64), some (.ref 76), some (.int (nI ts.length)), some (.int (nI (n + 1))), some (.int ((nI k) + 1)), some (.int (-1 - nI q2))]) (S' := []) (σ' := lm_T (lm_wr M1 89 n (vs q2)) v G) rfl trivial ?_
      rw [nI_1]
      refine lm_G_sg 1 (pc' := 5) (L' := [some (.ref 64), some (.ref 76), some (.int (nI ts.length)), some (.int (nI (n + 1))), some (.int (nI (k + 1))), some (.int (-1 - nI q2))]) (S' := []) (σ' := lm_T (lm_wr M1 89 n (vs q2)) v G) rfl trivial ?_
      refine lm_G_jk (L := [some (.ref 64), some (.ref 76), some (.int (nI ts.length)), some (.int (nI (n + 1))), some (.int (nI (k + 1))), none]) ⟨rfl, rfl, rfl, rfl, rfl, trivial⟩ ?_
      exact ih _ _ _ (⟨by omega, i2, j3, Ag_push i4 _, Fr_wr i5 rfl⟩)
    | 2, i2, i3 =>
      obtain ⟨j1, j3⟩ := i3
      obtain ⟨e1, e2⟩ := enc_op q2 j1
      show lm_G X (d + 1) 185 106 0 0 17 [some (.ref 64), some (.ref 76), some (.int (nI ts.length)), some (.int (nI n)), some (.int (nI k)), some (.int (encM (2, q2)))] [] (lm_T M1 v G) Q
      refine lm_G_sg 2 (pc' := 21) (L' := [some (.ref 64), some (.ref 76), some (.int (nI ts.length)), some (.int (nI n)), some (.int (nI k)), some (.int (encM (2, q2)))]) (S' := [.int (-20), .int (encM (2, q2))]) (σ' := lm_T M1 v G) rfl trivial ?_
      refine lm_G_br (b := (encM (2, q2)) ≤ (-20)) (t := 55) (S' := []) rfl (fun hc => ?_) (fun hc => absurd e1 hc)
      refine lm_G_sg 2 (pc' := 59) (L' := [some (.ref 64), some (.ref 76), some (.int (nI ts.length)), some (.int (nI n)), some (.int (nI k)), some (.int (encM (2, q2)))]) (S' := [.int (-28), .int (encM (2, q2))]) (σ' := lm_T M1 v G) rfl trivial ?_
      refine lm_G_br (b := ¬ (encM (2, q2)) = (-28)) (t := 89) (S' := []) rfl (fun hc => ?_) (fun hc => ?_)
      ·
        have e6 : q2 ≠ 6 := fun w => hc (e2.mpr w)
        rw [if_neg e6] at j3
        obtain ⟨n, rfl⟩ : ∃ n0, n = n0 + 2 := ⟨n - 2, by omega⟩
        obtain ⟨j4, j5⟩ := j3
        refine lm_G_sg 1 (pc' := 92) (L' := [some (.ref 64), some (.ref 76), some (.int (nI ts.length)), some (.int ((nI (n + 2)) + (-1))), some (.int (nI k)), some (.int (encM (2, q2)))]) (S' := []) (σ' := lm_T M1 v G) rfl trivial ?_
        rw [show nI (n + 2) + (-1) = nI (n + 1) from pk_m1 (n + 1)]
        refine lm_G_sg 5 (pc' := 99) (L' := [some (.ref 64), some (.ref 76), some (.int (nI ts.length)), some (.int (nI (n + 1))), some (.int (nI k)), some (.int (encM (2, q2)))]) (S' := [.int ((nI (n + 1)) - 1), .ref 89]) (σ' := lm_T M1 v G) rfl trivial ?_
        rw [nI_pred]
        refine lm_G_sg 6 (pc' := 108) (L' := [some (.ref 64), some (.ref 76), some (.int (nI ts.length)), some (.int (nI (n + 1))), some (.int (nI k)), some (.int (encM (2, q2)))]) (S' := [.int ((nI (n + 1)) - 1), .ref 89, .int (encM (2, q2)), .int (nI n), .ref 89]) (σ' := lm_T M1 v G) rfl trivial ?_
        rw [nI_pred]
        refine lm_G_sg 1 (pc' := 109) (L' := [some (.ref 64), some (.ref 76), some (.int (nI ts.length)), some (.int (nI (n + 1))), some (.int (nI k)), some (.int (encM (2, q2)))]) (S' := [.int (M1 89 (nI n).toNatClampNeg), .int (encM (2, q2)), .int (nI n), .ref 89]) (σ' := lm_T M1 v G) rfl ⟨(vp_in_nI (by omega) (by omega)), trivial, trivial⟩ ?_
        rw [show (nI n).toNatClampNeg = n from nI_clamp (by omega)]
        rw [show M1 89 n = f n from i4 n (by omega)]
        refine lm_G_sg 4 (pc' := 115) (L' := [some (.ref 64), some (.ref 76), some (.int (nI ts.length)), some (.int (nI (n + 1))), some (.int (nI k)), some (.int (encM (2, q2)))]) (S' := [.int (M1 89 (nI (n + 1)).toNatClampNeg), .int (f n), .int (encM (2, q2)), .int (nI n), .ref 89]) (σ' := lm_T M1 v G) rfl ⟨(vp_in_nI (by omega) (by omega)), trivial, trivial⟩ ?_
        rw [show (nI (n + 1)).toNatClampNeg = (n + 1) from nI_clamp (by omega)]
        rw [show M1 89 (n + 1) = f (n + 1) from i4 (n + 1) (by omega)]
        refine lm_G_ca (j := 184) (as := [.int (encM (2, q2)), .int (f n), .int (f (n + 1))]) (rest := [.int (nI n), .ref 89]) rfl (Or.inl rfl) (Nat.le_of_ble_eq_true rfl) (Nat.le_of_ble_eq_true rfl) (Nat.le_of_ble_eq_true rfl) (Nat.le_of_ble_eq_true rfl) rfl ?_
        refine m_reckon j1 e6 ?_
        show lm_G X (d + 1) 185 106 0 0 118 [some (.ref 64), some (.ref 76), some (.int (nI ts.length)), some (.int (nI (n + 1))), some (.int (nI k)), some (.int (encM (2, q2)))] [.int (doS q2 (f n) (f (n + 1))), .int (nI n), .ref 89] (lm_T M1 v G) Q
        refine lm_G_sg 1 (pc' := 119) (L' := [some (.ref 64), some (.ref 76), some (.int (nI ts.length)), some (.int (nI (n + 1))), some (.int (nI k)), some (.int (encM (2, q2)))]) (S' := []) (σ' := lm_T (lm_wr M1 89 ((nI n).toNatClampNeg) (doS q2 (f n) (f (n + 1)))) v G) rfl ⟨(vp_in_nI (by omega) (by omega)), trivial, trivial⟩ ?_
        rw [show (nI n).toNatClampNeg = n from nI_clamp (by omega)]
        refine lm_G_sg 1 (pc' := 122) (L' := [some (.ref 64), some (.ref 76), some (.int (nI ts.length)), some (.int (nI (n + 1))), some (.int ((nI k) + 1)), some (.int (encM (2, q2)))]) (S' := []) (σ' := lm_T (lm_wr M1 89 n (doS q2 (f n) (f (n + 1)))) v G) rfl trivial ?_
        rw [nI_1]
        refine lm_G_sg 1 (pc' := 5) (L' := [some (.ref 64), some (.ref 76), some (.int (nI ts.length)), some (.int (nI (n + 1))), some (.int (nI (k + 1))), some (.int (encM (2, q2)))]) (S' := []) (σ' := lm_T (lm_wr M1 89 n (doS q2 (f n) (f (n + 1)))) v G) rfl trivial ?_
        have i2b : rnS vs (List.drop (k + 1) ts) (n + 1, upd f n (doS q2 (f n) (f (n + 1)))) = rnS vs ts (0, fun _ => 0) := by
          rw [← i2]
          simp only [rnS, stS, e6, if_false]
          rfl
        refine lm_G_jk (L := [some (.ref 64), some (.ref 76), some (.int (nI ts.length)), some (.int (nI (n + 1))), some (.int (nI (k + 1))), none]) ⟨rfl, rfl, rfl, rfl, rfl, trivial⟩ ?_
        exact ih _ _ _ (⟨by omega, i2b, j5, fun j hj => Ag_push (Ag_mn i4 (by omega)) _ j hj, Fr_wr i5 rfl⟩)
      ·
        have e6 : q2 = 6 := e2.mp (Classical.not_not.mp hc)
        subst e6
        rw [if_pos rfl] at j3
        obtain ⟨n, rfl⟩ : ∃ n0, n = n0 + 1 := ⟨n - 1, by omega⟩
        obtain ⟨j4, j5⟩ := j3
        refine lm_G_sg 5 (pc' := 69) (L' := [some (.ref 64), some (.ref 76), some (.int (nI ts.length)), some (.int (nI (n + 1))), some (.int (nI k)), some (.int (encM (2, 6)))]) (S' := [.int ((nI (n + 1)) - 1), .ref 89]) (σ' := lm_T M1 v G) rfl trivial ?_
        rw [nI_pred]
        refine lm_G_sg 5 (pc' := 76) (L' := [some (.ref 64), some (.ref 76), some (.int (nI ts.length)), some (.int (nI (n + 1))), some (.int (nI k)), some (.int (encM (2, 6)))]) (S' := [.int ((nI (n + 1)) - 1), .ref 89, .int (nI n), .ref 89]) (σ' := lm_T M1 v G) rfl trivial ?_
        rw [nI_pred]
        refine lm_G_sg 1 (pc' := 77) (L' := [some (.ref 64), some (.ref 76), some (.int (nI ts.length)), some (.int (nI (n + 1))), some (.int (nI k)), some (.int (encM (2, 6)))]) (S' := [.int (M1 89 (nI n).toNatClampNeg), .int (nI n), .ref 89]) (σ' := lm_T M1 v G) rfl ⟨(vp_in_nI (by omega) (by omega)), trivial, trivial⟩ ?_
        rw [show (nI n).toNatClampNeg = n from nI_clamp (by omega)]
        rw [show M1 89 n = f n from i4 n (by omega)]
        refine lm_G_br (b := (f n) = 0) (t := 84) (S' := [.int (nI n), .ref 89]) rfl (fun h2 => ?_) (fun h2 => ?_)
        ·
          refine lm_G_sg 2 (pc' := 86) (L' := [some (.ref 64), some (.ref 76), some (.int (nI ts.length)), some (.int (nI (n + 1))), some (.int (nI k)), some (.int (encM (2, 6)))]) (S' := []) (σ' := lm_T (lm_wr M1 89 ((nI n).toNatClampNeg) 1) v G) rfl ⟨(vp_in_nI (by omega) (by omega)), trivial, trivial⟩ ?_
          rw [show (nI n).toNatClampNeg = n from nI_clamp (by omega)]
          refine lm_G_sg 2 (pc' := 122) (L' := [some (.ref 64), some (.ref 76), some (.int (nI ts.length)), some (.int (nI (n + 1))), some (.int ((nI k) + 1)), some (.int (encM (2, 6)))]) (S' := []) (σ' := lm_T (lm_wr M1 89 n 1) v G) rfl trivial ?_
          rw [nI_1]
          refine lm_G_sg 1 (pc' := 5) (L' := [some (.ref 64), some (.ref 76), some (.int (nI ts.length)), some (.int (nI (n + 1))), some (.int (nI (k + 1))), some (.int (encM (2, 6)))]) (S' := []) (σ' := lm_T (lm_wr M1 89 n 1) v G) rfl trivial ?_
          have i2b : rnS vs (List.drop (k + 1) ts) (n + 1, upd f n 1) = rnS vs ts (0, fun _ => 0) := by
            rw [← i2]
            simp only [rnS, stS, if_true, Nat.add_sub_cancel, if_pos h2]
          refine lm_G_jk (L := [some (.ref 64), some (.ref 76), some (.int (nI ts.length)), some (.int (nI (n + 1))), some (.int (nI (k + 1))), none]) ⟨rfl, rfl, rfl, rfl, rfl, trivial⟩ ?_
          exact ih _ _ _ (⟨by omega, i2b, j5, Ag_upd i4 n _, Fr_wr i5 rfl⟩)
        ·
          refine lm_G_sg 3 (pc' := 86) (L' := [some (.ref 64), some (.ref 76), some (.int (nI ts.length)), some (.int (nI (n + 1))), some (.int (nI k)), some (.int (encM (2, 6)))]) (S' := []) (σ' := lm_T (lm_wr M1 89 ((nI n).toNatClampNeg) 0) v G) rfl ⟨(vp_in_nI (by omega) (by omega)), trivial, trivial⟩ ?_
          rw [show (nI n).toNatClampNeg = n from nI_clamp (by omega)]
          refine lm_G_sg 2 (pc' := 122) (L' := [some (.ref 64), some (.ref 76), some (.int (nI ts.length)), some (.int (nI (n + 1))), some (.int ((nI k) + 1)), some (.int (encM (2, 6)))]) (S' := []) (σ' := lm_T (lm_wr M1 89 n 0) v G) rfl trivial ?_
          rw [nI_1]
          refine lm_G_sg 1 (pc' := 5) (L' := [some (.ref 64), some (.ref 76), some (.int (nI ts.length)), some (.int (nI (n + 1))), some (.int (nI (k + 1))), some (.int (encM (2, 6)))]) (S' := []) (σ' := lm_T (lm_wr M1 89 n 0) v G) rfl trivial ?_
          have i2b : rnS vs (List.drop (k + 1) ts) (n + 1, upd f n 0) = rnS vs ts (0, fun _ => 0) := by
            rw [← i2]
            simp only [rnS, stS, if_true, Nat.add_sub_cancel, if_neg h2]
          refine lm_G_jk (L := [some (.ref 64), some (.ref 76), some (.int (nI ts.length)), some (.int (nI (n + 1))), some (.int (nI (k + 1))), none]) ⟨rfl, rfl, rfl, rfl, rfl, trivial⟩ ?_
          exact ih _ _ _ (⟨by omega, i2b, j5, Ag_upd i4 n _, Fr_wr i5 rfl⟩)
    | q + 3, i2, i3 => exact i3.elim
  ·
    obtain ⟨M1, n, f⟩ := zz
    replace hI : n ≤ 32 ∧ rnS vs (ts.drop (ts.length)) (n, f) = rnS vs ts (0, fun _ => 0) ∧ wfS (ts.drop (ts.length)) n ∧ Ag n (M1 89) f ∧ Fr frK M M1 := hI
    show lm_G X (d + 1) 185 106 0 0 5 [some (.ref 64), some (.ref 76), some (.int (nI ts.length)), some (.int (nI n)), some (.int (nI (ts.length))), none] [] (lm_T M1 v G) Q
    obtain ⟨i1, i2, i3, i4, i5⟩ := hI
    rw [List.drop_length] at i2 i3
    have e1 : n = 1 := i3
    subst e1
    refine lm_G_sg 2 (pc' := 8) (L' := [some (.ref 64), some (.ref 76), some (.int (nI ts.length)), some (.int (nI 1)), some (.int (nI (ts.length))), none]) (S' := [.int (nI ts.length), .int (nI (ts.length))]) (σ' := lm_T M1 v G) rfl trivial ?_
    refine lm_G_br (b := (nI ts.length) ≤ (nI (ts.length))) (t := 125) (S' := []) rfl (fun hc => ?_) (fun hc => absurd (nI_le (Nat.le_refl _) (by omega)) hc)
    refine lm_G_sg 4 (pc' := 131) (L' := [some (.ref 64), some (.ref 76), some (.int (nI ts.length)), some (.int (nI 1)), some (.int (nI (ts.length))), none]) (S' := [.int (M1 89 0)]) (σ' := lm_T M1 v G) rfl ⟨(lm_inb_ok rfl), trivial, trivial⟩ ?_
    rw [show M1 89 0 = reckS vs ts from (i4 0 (by omega)).trans (congrArg (fun x => x.2 0) i2)]
    exact lm_G_re rfl trivial (Nat.zero_le _) (Nat.zero_le _) (hQ _ i5)
  ·
    try dsimp only
    exact ⟨by omega, rfl, hw, fun j hj => by omega, Fr_rf _ _⟩
set_option maxRecDepth 10000 in
theorem m_valueNow1 {X : lm_X} {d v : Nat} {M : Nat → Nat → Int32} {G : Nat → Nat → Int64} {Q : lm_O → lm_S → Prop} {ts : List (Nat × Nat)} {vs : Fn} (hl : ts.length ≤ 700) (hw : wfS ts 0) (hr : Ag ts.length (M 77) (fun k => encM (ts.getD k (0, 0)))) (ha : Ag 6 (M 88) vs) (hQ : ∀ M1, Fr frK M M1 → Q (.inl (some (.int (reckS vs ts)))) (lm_T M1 v G)) : lm_Q X (d + 1) 185 [.ref 64, .ref 77, .int (nI ts.length)] (lm_T M v G) Q := by
  show lm_G X (d + 1) 185 106 0 0 0 [some (.ref 64), some (.ref 77), some (.int (nI ts.length)), none, none, none] [] (lm_T M v G) Q
  refine lm_G_sg 4 (pc' := 5) (L' := [some (.ref 64), some (.ref 77), some (.int (nI ts.length)), some (.int 0), some (.int 0), none]) (S' := []) (σ' := lm_T M v G) rfl trivial ?_
  refine lm_ind (α := (Nat → Fn) × Nat × Fn) (St := fun (k : Nat) zz => (fun (M1 : Nat → Fn) (n : Nat) (f : Fn) => lm_G X (d + 1) 185 106 0 0 5 [some (.ref 64), some (.ref 77), some (.int (nI ts.length)), some (.int (nI n)), some (.int (nI k)), none] [] (lm_T M1 v G) Q) zz.1 zz.2.1 zz.2.2) (Inv := fun (k : Nat) zz => (fun (M1 : Nat → Fn) (n : Nat) (f : Fn) => n ≤ 32 ∧ rnS vs (ts.drop k) (n, f) = rnS vs ts (0, fun _ => 0) ∧ wfS (ts.drop k) n ∧ Ag n (M1 89) f ∧ Fr frK M M1) zz.1 zz.2.1 zz.2.2) (ts.length) (fun k zz hj hI ih => ?_) (fun zz hI => ?_) (0) (M, 0, fun _ => 0) (by omega) ?_
  ·
    obtain ⟨M1, n, f⟩ := zz
    replace hI : n ≤ 32 ∧ rnS vs (ts.drop k) (n, f) = rnS vs ts (0, fun _ => 0) ∧ wfS (ts.drop k) n ∧ Ag n (M1 89) f ∧ Fr frK M M1 := hI
    replace ih : ∀ (M1 : Nat → Fn) (n : Nat) (f : Fn) (_ : n ≤ 32 ∧ rnS vs (ts.drop (k + 1)) (n, f) = rnS vs ts (0, fun _ => 0) ∧ wfS (ts.drop (k + 1)) n ∧ Ag n (M1 89) f ∧ Fr frK M M1), lm_G X (d + 1) 185 106 0 0 5 [some (.ref 64), some (.ref 77), some (.int (nI ts.length)), some (.int (nI n)), some (.int (nI (k + 1))), none] [] (lm_T M1 v G) Q := fun M1 n f q => ih (M1, n, f) q
    show lm_G X (d + 1) 185 106 0 0 5 [some (.ref 64), some (.ref 77), some (.int (nI ts.length)), some (.int (nI n)), some (.int (nI k)), none] [] (lm_T M1 v G) Q
    obtain ⟨i1, i2, i3, i4, i5⟩ := hI
    refine lm_G_sg 2 (pc' := 8) (L' := [some (.ref 64), some (.ref 77), some (.int (nI ts.length)), some (.int (nI n)), some (.int (nI k)), none]) (S' := [.int (nI ts.length), .int (nI k)]) (σ' := lm_T M1 v G) rfl trivial ?_
    refine lm_G_br (b := (nI ts.length) ≤ (nI k)) (t := 125) (S' := []) rfl (fun hc => absurd hc (nI_ge hj (by omega))) (fun hc => ?_)
    refine lm_G_sg 3 (pc' := 15) (L' := [some (.ref 64), some (.ref 77), some (.int (nI ts.length)), some (.int (nI n)), some (.int (nI k)), none]) (S' := [.int (M1 77 (nI k).toNatClampNeg)]) (σ' := lm_T M1 v G) rfl ⟨(vp_in_nI (by omega) (by omega)), trivial, trivial⟩ ?_
    rw [show (nI k).toNatClampNeg = k from nI_clamp (by omega)]
    rw [show M1 77 k = encM (ts.getD k (0, 0)) from (congrFun (i5 77 rfl) k).trans (hr k hj)]
    refine lm_G_sg 1 (pc' := 17) (L' := [some (.ref 64), some (.ref 77), some (.int (nI ts.length)), some (.int (nI n)), some (.int (nI k)), some (.int (encM (ts.getD k (0, 0))))]) (S' := []) (σ' := lm_T M1 v G) rfl trivial ?_
    rw [drop_at hj] at i2 i3
    generalize ts.getD k (0, 0) = q at i2 i3 ⊢
    obtain ⟨q1, q2⟩ := q
    match q1, i2, i3 with
    | 0, i2, i3 =>
      obtain ⟨j1, j2, j3⟩ := i3
      show lm_G X (d + 1) 185 106 0 0 17 [some (.ref 64), some (.ref 77), some (.int (nI ts.length)), some (.int (nI n)), some (.int (nI k)), some (.int (nI q2))] [] (lm_T M1 v G) Q
      refine lm_G_sg 2 (pc' := 21) (L' := [some (.ref 64), some (.ref 77), some (.int (nI ts.length)), some (.int (nI n)), some (.int (nI k)), some (.int (nI q2))]) (S' := [.int (-20), .int (nI q2)]) (σ' := lm_T M1 v G) rfl trivial ?_
      refine lm_G_br (b := (nI q2) ≤ (-20)) (t := 55) (S' := []) rfl (fun hc => absurd hc (enc_num j1).1) (fun hc => ?_)
      refine lm_G_sg 4 (pc' := 31) (L' := [some (.ref 64), some (.ref 77), some (.int (nI ts.length)), some (.int (nI n)), some (.int (nI k)), some (.int (nI q2))]) (S' := [.int (nI q2), .int (nI n), .ref 89]) (σ' := lm_T M1 v G) rfl trivial ?_
      refine lm_G_br (b := (nI q2) < 0) (t := 39) (S' := [.int (nI n), .ref 89]) rfl (fun hc => absurd hc (enc_num j1).2) (fun hc => ?_)
      refine lm_G_sg 3 (pc' := 49) (L' := [some (.ref 64), some (.ref 77), some (.int (nI ts.length)), some (.int (nI n)), some (.int (nI k)), some (.int (nI q2))]) (S' := []) (σ' := lm_T (lm_wr M1 89 ((nI n).toNatClampNeg) (nI q2)) v G) rfl ⟨(vp_in_nI (by omega) (by omega)), trivial, trivial⟩ ?_
      rw [show (nI n).toNatClampNeg = n from nI_clamp (by omega)]
      refine lm_G_sg 1 (pc' := 52) (L' := [some (.ref 64), some (.ref 77), some (.int (nI ts.length)), some (.int ((nI n) + 1)), some (.int (nI k)), some (.int (nI q2))]) (S' := []) (σ' := lm_T (lm_wr M1 89 n (nI q2)) v G) rfl trivial ?_
      rw [nI_1]
      refine lm_G_sg 2 (pc' := 122) (L' := [some (.ref 64), some (.ref 77), some (.int (nI ts.length)), some (.int (nI (n + 1))), some (.int ((nI k) + 1)), some (.int (nI q2))]) (S' := []) (σ' := lm_T (lm_wr M1 89 n (nI q2)) v G) rfl trivial ?_
      rw [nI_1]
      refine lm_G_sg 1 (pc' := 5) (L' := [some (.ref 64), some (.ref 77), some (.int (nI ts.length)), some (.int (nI (n + 1))), some (.int (nI (k + 1))), some (.int (nI q2))]) (S' := []) (σ' := lm_T (lm_wr M1 89 n (nI q2)) v G) rfl trivial ?_
      refine lm_G_jk (L := [some (.ref 64), some (.ref 77), some (.int (nI ts.length)), some (.int (nI (n + 1))), some (.int (nI (k + 1))), none]) ⟨rfl, rfl, rfl, rfl, rfl, trivial⟩ ?_
      exact ih _ _ _ (⟨by omega, i2, j3, Ag_push i4 _, Fr_wr i5 rfl⟩)
    | 1, i2, i3 =>
      obtain ⟨j1, j2, j3⟩ := i3
      obtain ⟨e1, e2, e3⟩ := enc_val q2 j1
      show lm_G X (d + 1) 185 106 0 0 17 [some (.ref 64), some (.ref 77), some (.int (nI ts.length)), some (.int (nI n)), some (.int (nI k)), some (.int (-1 - nI q2))] [] (lm_T M1 v G) Q
      refine lm_G_sg 2 (pc' := 21) (L' := [some (.ref 64), some (.ref 77), some (.int (nI ts.length)), some (.int (nI n)), some (.int (nI k)), some (.int (-1 - nI q2))]) (S' := [.int (-20), .int (-1 - nI q2)]) (σ' := lm_T M1 v G) rfl trivial ?_
      refine lm_G_br (b := (-1 - nI q2) ≤ (-20)) (t := 55) (S' := []) rfl (fun hc => absurd hc e1) (fun hc => ?_)
      refine lm_G_sg 4 (pc' := 31) (L' := [some (.ref 64), some (.ref 77), some (.int (nI ts.length)), some (.int (nI n)), some (.int (nI k)), some (.int (-1 - nI q2))]) (S' := [.int (-1 - nI q2), .int (nI n), .ref 89]) (σ' := lm_T M1 v G) rfl trivial ?_
      refine lm_G_br (b := (-1 - nI q2) < 0) (t := 39) (S' := [.int (nI n), .ref 89]) rfl (fun hc => ?_) (fun hc => absurd e2 hc)
      refine lm_G_sg 5 (pc' := 47) (L' := [some (.ref 64), some (.ref 77), some (.int (nI ts.length)), some (.int (nI n)), some (.int (nI k)), some (.int (-1 - nI q2))]) (S' := [.int ((-1) - (-1 - nI q2)), .ref 88, .int (nI n), .ref 89]) (σ' := lm_T M1 v G) rfl trivial ?_
      rw [e3]
      refine lm_G_sg 1 (pc' := 48) (L' := [some (.ref 64), some (.ref 77), some (.int (nI ts.length)), some (.int (nI n)), some (.int (nI k)), some (.int (-1 - nI q2))]) (S' := [.int (M1 88 (nI q2).toNatClampNeg), .int (nI n), .ref 89]) (σ' := lm_T M1 v G) rfl ⟨(vp_in_nI (by omega) (by omega)), trivial, trivial⟩ ?_
      rw [show (nI q2).toNatClampNeg = q2 from nI_clamp (by omega)]
      rw [show M1 88 q2 = vs q2 from (congrFun (i5 88 rfl) q2).trans (ha q2 j1)]
      refine lm_G_sg 1 (pc' := 49) (L' := [some (.ref 64), some (.ref 77), some (.int (nI ts.length)), some (.int (nI n)), some (.int (nI k)), some (.int (-1 - nI q2))]) (S' := []) (σ' := lm_T (lm_wr M1 89 ((nI n).toNatClampNeg) (vs q2)) v G) rfl ⟨(vp_in_nI (by omega) (by omega)), trivial, trivial⟩ ?_
      rw [show (nI n).toNatClampNeg = n from nI_clamp (by omega)]
      refine lm_G_sg 1 (pc' := 52) (L' := [some (.ref 64), some (.ref 77), some (.int (nI ts.length)), some (.int ((nI n) + 1)), some (.int (nI k)), some (.int (-1 - nI q2))]) (S' := []) (σ' := lm_T (lm_wr M1 89 n (vs q2)) v G) rfl trivial ?_
      rw [nI_1]
      refine lm_G_sg 2 (pc' := 122) (L' := [some (.ref 64), some (.ref 77), some (.int (nI ts.length)), some (.int (nI (n + 1))), some (.int ((nI k) + 1)), some (.int (-1 - nI q2))]) (S' := []) (σ' := lm_T (lm_wr M1 89 n (vs q2)) v G) rfl trivial ?_
      rw [nI_1]
      refine lm_G_sg 1 (pc' := 5) (L' := [some (.ref 64), some (.ref 77), some (.int (nI ts.length)), some (.int (nI (n + 1))), some (.int (nI (k + 1))), some (.int (-1 - nI q2))]) (S' := []) (σ' := lm_T (lm_wr M1 89 n (vs q2)) v G) rfl trivial ?_
      refine lm_G_jk (L := [some (.ref 64), some (.ref 77), some (.int (nI ts.length)), some (.int (nI (n + 1))), some (.int (nI (k + 1))), none]) ⟨rfl, rfl, rfl, rfl, rfl, trivial⟩ ?_
      exact ih _ _ _ (⟨by omega, i2, j3, Ag_push i4 _, Fr_wr i5 rfl⟩)
    | 2, i2, i3 =>
      obtain ⟨j1, j3⟩ := i3
      obtain ⟨e1, e2⟩ := enc_op q2 j1
      show lm_G X (d + 1) 185 106 0 0 17 [some (.ref 64), some (.ref 77), some (.int (nI ts.length)), some (.int (nI n)), some (.int (nI k)), some (.int (encM (2, q2)))] [] (lm_T M1 v G) Q
      refine lm_G_sg 2 (pc' := 21) (L' := [some (.ref 64), some (.ref 77), some (.int (nI ts.length)), some (.int (nI n)), some (.int (nI k)), some (.int (encM (2, q2)))]) (S' := [.int (-20), .int (encM (2, q2))]) (σ' := lm_T M1 v G) rfl trivial ?_
      refine lm_G_br (b := (encM (2, q2)) ≤ (-20)) (t := 55) (S' := []) rfl (fun hc => ?_) (fun hc => absurd e1 hc)
      refine lm_G_sg 2 (pc' := 59) (L' := [some (.ref 64), some (.ref 77), some (.int (nI ts.length)), some (.int (nI n)), some (.int (nI k)), some (.int (encM (2, q2)))]) (S' := [.int (-28), .int (encM (2, q2))]) (σ' := lm_T M1 v G) rfl trivial ?_
      refine lm_G_br (b := ¬ (encM (2, q2)) = (-28)) (t := 89) (S' := []) rfl (fun hc => ?_) (fun hc => ?_)
      ·
        have e6 : q2 ≠ 6 := fun w => hc (e2.mpr w)
        rw [if_neg e6] at j3
        obtain ⟨n, rfl⟩ : ∃ n0, n = n0 + 2 := ⟨n - 2, by omega⟩
        obtain ⟨j4, j5⟩ := j3
        refine lm_G_sg 1 (pc' := 92) (L' := [some (.ref 64), some (.ref 77), some (.int (nI ts.length)), some (.int ((nI (n + 2)) + (-1))), some (.int (nI k)), some (.int (encM (2, q2)))]) (S' := []) (σ' := lm_T M1 v G) rfl trivial ?_
        rw [show nI (n + 2) + (-1) = nI (n + 1) from pk_m1 (n + 1)]
        refine lm_G_sg 5 (pc' := 99) (L' := [some (.ref 64), some (.ref 77), some (.int (nI ts.length)), some (.int (nI (n + 1))), some (.int (nI k)), some (.int (encM (2, q2)))]) (S' := [.int ((nI (n + 1)) - 1), .ref 89]) (σ' := lm_T M1 v G) rfl trivial ?_
        rw [nI_pred]
        refine lm_G_sg 6 (pc' := 108) (L' := [some (.ref 64), some (.ref 77), some (.int (nI ts.length)), some (.int (nI (n + 1))), some (.int (nI k)), some (.int (encM (2, q2)))]) (S' := [.int ((nI (n + 1)) - 1), .ref 89, .int (encM (2, q2)), .int (nI n), .ref 89]) (σ' := lm_T M1 v G) rfl trivial ?_
        rw [nI_pred]
        refine lm_G_sg 1 (pc' := 109) (L' := [some (.ref 64), some (.ref 77), some (.int (nI ts.length)), some (.int (nI (n + 1))), some (.int (nI k)), some (.int (encM (2, q2)))]) (S' := [.int (M1 89 (nI n).toNatClampNeg), .int (encM (2, q2)), .int (nI n), .ref 89]) (σ' := lm_T M1 v G) rfl ⟨(vp_in_nI (by omega) (by omega)), trivial, trivial⟩ ?_
        rw [show (nI n).toNatClampNeg = n from nI_clamp (by omega)]
        rw [show M1 89 n = f n from i4 n (by omega)]
        refine lm_G_sg 4 (pc' := 115) (L' := [some (.ref 64), some (.ref 77), some (.int (nI ts.length)), some (.int (nI (n + 1))), some (.int (nI k)), some (.int (encM (2, q2)))]) (S' := [.int (M1 89 (nI (n + 1)).toNatClampNeg), .int (f n), .int (encM (2, q2)), .int (nI n), .ref 89]) (σ' := lm_T M1 v G) rfl ⟨(vp_in_nI (by omega) (by omega)), trivial, trivial⟩ ?_
        rw [show (nI (n + 1)).toNatClampNeg = (n + 1) from nI_clamp (by omega)]
        rw [show M1 89 (n + 1) = f (n + 1) from i4 (n + 1) (by omega)]
        refine lm_G_ca (j := 184) (as := [.int (encM (2, q2)), .int (f n), .int (f (n + 1))]) (rest := [.int (nI n), .ref 89]) rfl (Or.inl rfl) (Nat.le_of_ble_eq_true rfl) (Nat.le_of_ble_eq_true rfl) (Nat.le_of_ble_eq_true rfl) (Nat.le_of_ble_eq_true rfl) rfl ?_
        refine m_reckon j1 e6 ?_
        show lm_G X (d + 1) 185 106 0 0 118 [some (.ref 64), some (.ref 77), some (.int (nI ts.length)), some (.int (nI (n + 1))), some (.int (nI k)), some (.int (encM (2, q2)))] [.int (doS q2 (f n) (f (n + 1))), .int (nI n), .ref 89] (lm_T M1 v G) Q
        refine lm_G_sg 1 (pc' := 119) (L' := [some (.ref 64), some (.ref 77), some (.int (nI ts.length)), some (.int (nI (n + 1))), some (.int (nI k)), some (.int (encM (2, q2)))]) (S' := []) (σ' := lm_T (lm_wr M1 89 ((nI n).toNatClampNeg) (doS q2 (f n) (f (n + 1)))) v G) rfl ⟨(vp_in_nI (by omega) (by omega)), trivial, trivial⟩ ?_
        rw [show (nI n).toNatClampNeg = n from nI_clamp (by omega)]
        refine lm_G_sg 1 (pc' := 122) (L' := [some (.ref 64), some (.ref 77), some (.int (nI ts.length)), some (.int (nI (n + 1))), some (.int ((nI k) + 1)), some (.int (encM (2, q2)))]) (S' := []) (σ' := lm_T (lm_wr M1 89 n (doS q2 (f n) (f (n + 1)))) v G) rfl trivial ?_
        rw [nI_1]
        refine lm_G_sg 1 (pc' := 5) (L' := [some (.ref 64), some (.ref 77), some (.int (nI ts.length)), some (.int (nI (n + 1))), some (.int (nI (k + 1))), some (.int (encM (2, q2)))]) (S' := []) (σ' := lm_T (lm_wr M1 89 n (doS q2 (f n) (f (n + 1)))) v G) rfl trivial ?_
        have i2b : rnS vs (List.drop (k + 1) ts) (n + 1, upd f n (doS q2 (f n) (f (n + 1)))) = rnS vs ts (0, fun _ => 0) := by
          rw [← i2]
          simp only [rnS, stS, e6, if_false]
          rfl
        refine lm_G_jk (L := [some (.ref 64), some (.ref 77), some (.int (nI ts.length)), some (.int (nI (n + 1))), some (.int (nI (k + 1))), none]) ⟨rfl, rfl, rfl, rfl, rfl, trivial⟩ ?_
        exact ih _ _ _ (⟨by omega, i2b, j5, fun j hj => Ag_push (Ag_mn i4 (by omega)) _ j hj, Fr_wr i5 rfl⟩)
      ·
        have e6 : q2 = 6 := e2.mp (Classical.not_not.mp hc)
        subst e6
        rw [if_pos rfl] at j3
        obtain ⟨n, rfl⟩ : ∃ n0, n = n0 + 1 := ⟨n - 1, by omega⟩
        obtain ⟨j4, j5⟩ := j3
        refine lm_G_sg 5 (pc' := 69) (L' := [some (.ref 64), some (.ref 77), some (.int (nI ts.length)), some (.int (nI (n + 1))), some (.int (nI k)), some (.int (encM (2, 6)))]) (S' := [.int ((nI (n + 1)) - 1), .ref 89]) (σ' := lm_T M1 v G) rfl trivial ?_
        rw [nI_pred]
        refine lm_G_sg 5 (pc' := 76) (L' := [some (.ref 64), some (.ref 77), some (.int (nI ts.length)), some (.int (nI (n + 1))), some (.int (nI k)), some (.int (encM (2, 6)))]) (S' := [.int ((nI (n + 1)) - 1), .ref 89, .int (nI n), .ref 89]) (σ' := lm_T M1 v G) rfl trivial ?_
        rw [nI_pred]
        refine lm_G_sg 1 (pc' := 77) (L' := [some (.ref 64), some (.ref 77), some (.int (nI ts.length)), some (.int (nI (n + 1))), some (.int (nI k)), some (.int (encM (2, 6)))]) (S' := [.int (M1 89 (nI n).toNatClampNeg), .int (nI n), .ref 89]) (σ' := lm_T M1 v G) rfl ⟨(vp_in_nI (by omega) (by omega)), trivial, trivial⟩ ?_
        rw [show (nI n).toNatClampNeg = n from nI_clamp (by omega)]
        rw [show M1 89 n = f n from i4 n (by omega)]
        refine lm_G_br (b := (f n) = 0) (t := 84) (S' := [.int (nI n), .ref 89]) rfl (fun h2 => ?_) (fun h2 => ?_)
        ·
          refine lm_G_sg 2 (pc' := 86) (L' := [some (.ref 64), some (.ref 77), some (.int (nI ts.length)), some (.int (nI (n + 1))), some (.int (nI k)), some (.int (encM (2, 6)))]) (S' := []) (σ' := lm_T (lm_wr M1 89 ((nI n).toNatClampNeg) 1) v G) rfl ⟨(vp_in_nI (by omega) (by omega)), trivial, trivial⟩ ?_
          rw [show (nI n).toNatClampNeg = n from nI_clamp (by omega)]
          refine lm_G_sg 2 (pc' := 122) (L' := [some (.ref 64), some (.ref 77), some (.int (nI ts.length)), some (.int (nI (n + 1))), some (.int ((nI k) + 1)), some (.int (encM (2, 6)))]) (S' := []) (σ' := lm_T (lm_wr M1 89 n 1) v G) rfl trivial ?_
          rw [nI_1]
          refine lm_G_sg 1 (pc' := 5) (L' := [some (.ref 64), some (.ref 77), some (.int (nI ts.length)), some (.int (nI (n + 1))), some (.int (nI (k + 1))), some (.int (encM (2, 6)))]) (S' := []) (σ' := lm_T (lm_wr M1 89 n 1) v G) rfl trivial ?_
          have i2b : rnS vs (List.drop (k + 1) ts) (n + 1, upd f n 1) = rnS vs ts (0, fun _ => 0) := by
            rw [← i2]
            simp only [rnS, stS, if_true, Nat.add_sub_cancel, if_pos h2]
          refine lm_G_jk (L := [some (.ref 64), some (.ref 77), some (.int (nI ts.length)), some (.int (nI (n + 1))), some (.int (nI (k + 1))), none]) ⟨rfl, rfl, rfl, rfl, rfl, trivial⟩ ?_
          exact ih _ _ _ (⟨by omega, i2b, j5, Ag_upd i4 n _, Fr_wr i5 rfl⟩)
        ·
          refine lm_G_sg 3 (pc' := 86) (L' := [some (.ref 64), some (.ref 77), some (.int (nI ts.length)), some (.int (nI (n + 1))), some (.int (nI k)), some (.int (encM (2, 6)))]) (S' := []) (σ' := lm_T (lm_wr M1 89 ((nI n).toNatClampNeg) 0) v G) rfl ⟨(vp_in_nI (by omega) (by omega)), trivial, trivial⟩ ?_
          rw [show (nI n).toNatClampNeg = n from nI_clamp (by omega)]
          refine lm_G_sg 2 (pc' := 122) (L' := [some (.ref 64), some (.ref 77), some (.int (nI ts.length)), some (.int (nI (n + 1))), some (.int ((nI k) + 1)), some (.int (encM (2, 6)))]) (S' := []) (σ' := lm_T (lm_wr M1 89 n 0) v G) rfl trivial ?_
          rw [nI_1]
          refine lm_G_sg 1 (pc' := 5) (L' := [some (.ref 64), some (.ref 77), some (.int (nI ts.length)), some (.int (nI (n + 1))), some (.int (nI (k + 1))), some (.int (encM (2, 6)))]) (S' := []) (σ' := lm_T (lm_wr M1 89 n 0) v G) rfl trivial ?_
          have i2b : rnS vs (List.drop (k + 1) ts) (n + 1, upd f n 0) = rnS vs ts (0, fun _ => 0) := by
            rw [← i2]
            simp only [rnS, stS, if_true, Nat.add_sub_cancel, if_neg h2]
          refine lm_G_jk (L := [some (.ref 64), some (.ref 77), some (.int (nI ts.length)), some (.int (nI (n + 1))), some (.int (nI (k + 1))), none]) ⟨rfl, rfl, rfl, rfl, rfl, trivial⟩ ?_
          exact ih _ _ _ (⟨by omega, i2b, j5, Ag_upd i4 n _, Fr_wr i5 rfl⟩)
    | q + 3, i2, i3 => exact i3.elim
  ·
    obtain ⟨M1, n, f⟩ := zz
    replace hI : n ≤ 32 ∧ rnS vs (ts.drop (ts.length)) (n, f) = rnS vs ts (0, fun _ => 0) ∧ wfS (ts.drop (ts.length)) n ∧ Ag n (M1 89) f ∧ Fr frK M M1 := hI
    show lm_G X (d + 1) 185 106 0 0 5 [some (.ref 64), some (.ref 77), some (.int (nI ts.length)), some (.int (nI n)), some (.int (nI (ts.length))), none] [] (lm_T M1 v G) Q
    obtain ⟨i1, i2, i3, i4, i5⟩ := hI
    rw [List.drop_length] at i2 i3
    have e1 : n = 1 := i3
    subst e1
    refine lm_G_sg 2 (pc' := 8) (L' := [some (.ref 64), some (.ref 77), some (.int (nI ts.length)), some (.int (nI 1)), some (.int (nI (ts.length))), none]) (S' := [.int (nI ts.length), .int (nI (ts.length))]) (σ' := lm_T M1 v G) rfl trivial ?_
    refine lm_G_br (b := (nI ts.length) ≤ (nI (ts.length))) (t := 125) (S' := []) rfl (fun hc => ?_) (fun hc => absurd (nI_le (Nat.le_refl _) (by omega)) hc)
    refine lm_G_sg 4 (pc' := 131) (L' := [some (.ref 64), some (.ref 77), some (.int (nI ts.length)), some (.int (nI 1)), some (.int (nI (ts.length))), none]) (S' := [.int (M1 89 0)]) (σ' := lm_T M1 v G) rfl ⟨(lm_inb_ok rfl), trivial, trivial⟩ ?_
    rw [show M1 89 0 = reckS vs ts from (i4 0 (by omega)).trans (congrArg (fun x => x.2 0) i2)]
    exact lm_G_re rfl trivial (Nat.zero_le _) (Nat.zero_le _) (hQ _ i5)
  ·
    try dsimp only
    exact ⟨by omega, rfl, hw, fun j hj => by omega, Fr_rf _ _⟩
