/-! ===== contracts: acts, both sides ===== -/
theorem RC_cow {M : Nat → Fn} {F : Fa} {S : Sc} (hF : okF F) (h : RC 28 M F S) {p q : Nat} (hp : p < fN F) (hq : q < fN F) : RC 28 (lm_wr (lm_wr M 31 p (sCo S p - 1)) 31 q ((lm_wr M 31 p (sCo S p - 1)) 31 q + 1)) F (coS S p q) := by
  refine ⟨KC_of h.1 rfl rfl rfl rfl rfl rfl rfl, h.hr, h.br, h.pl, ?_, h.hu, h.hd, h.id, h.ow, h.hs, h.he⟩
  have e : (lm_wr M 31 p (sCo S p - 1)) 31 q = upd (sCo S) p (sCo S p - 1) q := (Ag_upd h.co p (sCo S p - 1)) q hq
  rw [e]
  exact Ag_upd (Ag_upd h.co p _) q _
theorem RM_cow {M : Nat → Fn} {F : Fa} {S : Sc} (hF : okF F) (h : RM M F S) {p q : Nat} (hp : p < fN F) (hq : q < fN F) : RM (lm_wr (lm_wr M 86 p (sCo S p - 1)) 86 q ((lm_wr M 86 p (sCo S p - 1)) 86 q + 1)) F (coS S p q) := by
  refine ⟨KM_of h.1 rfl rfl rfl rfl rfl rfl, h.hr, h.br, h.pl, ?_, h.hu, h.hd, h.id, h.ow⟩
  have e : (lm_wr M 86 p (sCo S p - 1)) 86 q = upd (sCo S) p (sCo S p - 1) q := (Ag_upd h.co p (sCo S p - 1)) q hq
  rw [e]
  exact Ag_upd (Ag_upd h.co p _) q _
theorem FG_put {M M1 : Nat → Fn} (h : FrW 28 M M1) : Fr frG M M1 := by
  refine Fr_mn h.1 (fun a ha => ?_)
  unfold frG at ha
  unfold frW
  rw [decide_eq_false_iff_not] at ha
  simp only [Bool.or_eq_false_iff, beq_eq_false_iff_ne, Bool.and_eq_false_imp, decide_eq_true_eq, decide_eq_false_iff_not]
  omega
set_option maxRecDepth 10000 in
theorem m_refuse4 {X : lm_X} {d v : Nat} {M : Nat → Nat → Int32} {G : Nat → Nat → Int64} {Q : lm_O → lm_S → Prop} {F : Fa} {s : Sc} {B : Bk} {j : Nat} (hj : j < 3) (hm0 : MS M F s B) (hQ : ∀ M1, MS M1 F s (rfB B j) → FrH M M1 → M1 64 4 = M 64 4 → Q (.inl (some (.int (-1)))) (lm_T M1 v G)) : lm_Q X d 204 [.ref 64, .int (nI j)] (lm_T M v G) Q := by
  show lm_G X d 204 106 0 0 0 [some (.ref 64), some (.int (nI j))] [] (lm_T M v G) Q
  refine lm_G_sg 5 (pc' := 7) (L' := [some (.ref 64), some (.int (nI j))]) (S' := [.int (M 78 (nI j).toNatClampNeg), .int (nI j), .ref 78]) (σ' := lm_T M v G) rfl ⟨(vp_in_nI (by omega) (by omega)), trivial, trivial⟩ ?_
  rw [show (nI j).toNatClampNeg = j from nI_clamp (by omega)]
  refine lm_G_sg 3 (pc' := 10) (L' := [some (.ref 64), some (.int (nI j))]) (S' := []) (σ' := lm_T (lm_wr M 78 ((nI j).toNatClampNeg) ((M 78 j) + 1)) v G) rfl ⟨(vp_in_nI (by omega) (by omega)), trivial, trivial⟩ ?_
  rw [show (nI j).toNatClampNeg = j from nI_clamp (by omega)]
  refine lm_G_sg 1 (pc' := 11) (L' := [some (.ref 64), some (.int (nI j))]) (S' := [.int (-1)]) (σ' := lm_T (lm_wr M 78 j ((M 78 j) + 1)) v G) rfl trivial ?_
  exact lm_G_re rfl trivial (Nat.zero_le _) (Nat.zero_le _) (hQ _ ⟨RM_wr hm0.1 (by decide), hm0.2.1, MB_rf hm0.2.2 hj⟩ (FrH_wr (FrH_rf _) rfl (by decide)) rfl)
set_option maxRecDepth 10000 in
theorem c_hours {X : lm_X} {d v : Nat} {M : Nat → Nat → Int32} {G : Nat → Nat → Int64} {Q : lm_O → lm_S → Prop} {F : Fa} {s : Sc} {B : Bk} {x : Int32} (hF : okF F) (hc0 : CS M F s B) (hs : okS F s) (hA : bkA B ≤ 40) (hQ : ∀ M1, CS M1 F (actS (dHrs s x) s (hrsS F nl s x.toNatClampNeg)) (actB (true) (dHrs s x) B s) → Fr frG M M1 → Q (cO (actA (true) (dHrs s x) (sHr (hrsS F nl s x.toNatClampNeg)))) (lm_T M1 v G)) : lm_Q X (d + 7) 92 [.ref 0, .int x] (lm_T M v G) Q := by
  have hn := hF.n
  have hm := hF.m
  have h := hc0.1
  show lm_G X (d + 7) 92 106 0 0 0 [some (.ref 0), some (.int x)] [] (lm_T M v G) Q
  refine lm_G_sg 2 (pc' := 2) (L' := [some (.ref 0), some (.int x)]) (S' := [.int 1, .int x]) (σ' := lm_T M v G) rfl trivial ?_
  refine lm_G_br (b := x < 1) (t := 26) (S' := []) rfl (fun h1 => ?_) (fun h1 => ?_)
  ·
    have hd : dHrs s x = false := by
      unfold dHrs inR
      rw [decide_eq_false (fun w => Int32.not_le.mpr h1 w.1)]
      rfl
    refine lm_G_sg 1 (pc' := 27) (L' := [some (.ref 0), some (.int x)]) (S' := [.ref 0]) (σ' := lm_T M v G) rfl trivial ?_
    refine lm_G_ca (j := 98) (as := [.ref 0]) (rest := []) rfl (Or.inl rfl) (Nat.le_of_ble_eq_true rfl) (Nat.le_of_ble_eq_true rfl) (Nat.le_of_ble_eq_true rfl) (Nat.le_of_ble_eq_true rfl) rfl ?_
    refine c_refuseAct hc0 (fun M1 c1 f1 => ?_)
    show lm_G X (d + 7) 92 106 0 0 30 [some (.ref 0), some (.int x)] [.int (-1)] (lm_T M1 v G) Q
    simp +decide only [actS, actB, actA, hd, if_true, if_false, Bool.and_true, Bool.true_and, Bool.and_self, Bool.false_and, Bool.and_false, Bool.false_eq_true] at hQ
    exact lm_G_re rfl trivial (Nat.zero_le _) (Nat.zero_le _) (hQ _ c1 f1)
  ·
    refine lm_G_sg 2 (pc' := 8) (L' := [some (.ref 0), some (.int x)]) (S' := [.int 20, .int x]) (σ' := lm_T M v G) rfl trivial ?_
    refine lm_G_br (b := 20 < x) (t := 26) (S' := []) rfl (fun h2 => ?_) (fun h2 => ?_)
    ·
      have hd : dHrs s x = false := by
        unfold dHrs inR
        rw [decide_eq_false (fun w => Int32.not_lt.mpr w.2 h2)]
        rfl
      refine lm_G_sg 1 (pc' := 27) (L' := [some (.ref 0), some (.int x)]) (S' := [.ref 0]) (σ' := lm_T M v G) rfl trivial ?_
      refine lm_G_ca (j := 98) (as := [.ref 0]) (rest := []) rfl (Or.inl rfl) (Nat.le_of_ble_eq_true rfl) (Nat.le_of_ble_eq_true rfl) (Nat.le_of_ble_eq_true rfl) (Nat.le_of_ble_eq_true rfl) rfl ?_
      refine c_refuseAct hc0 (fun M1 c1 f1 => ?_)
      show lm_G X (d + 7) 92 106 0 0 30 [some (.ref 0), some (.int x)] [.int (-1)] (lm_T M1 v G) Q
      simp +decide only [actS, actB, actA, hd, if_true, if_false, Bool.and_true, Bool.true_and, Bool.and_self, Bool.false_and, Bool.and_false, Bool.false_eq_true] at hQ
      exact lm_G_re rfl trivial (Nat.zero_le _) (Nat.zero_le _) (hQ _ c1 f1)
    ·
      refine lm_G_sg 3 (pc' := 18) (L' := [some (.ref 0), some (.int x)]) (S' := [.int (M 28 2)]) (σ' := lm_T M v G) rfl trivial ?_
      rw [show M 28 2 = sHr s from h.hr]
      refine lm_G_sg 3 (pc' := 23) (L' := [some (.ref 0), some (.int x)]) (S' := [.int 999, .int ((sHr s) + x)]) (σ' := lm_T M v G) rfl trivial ?_
      refine lm_G_br (b := ((sHr s) + x) ≤ 999) (t := 31) (S' := []) rfl (fun h3 => ?_) (fun h3 => ?_)
      rotate_left
      ·
        have hd : dHrs s x = false := by
          unfold dHrs
          rw [decide_eq_false h3, Bool.and_false]
        refine lm_G_sg 1 (pc' := 27) (L' := [some (.ref 0), some (.int x)]) (S' := [.ref 0]) (σ' := lm_T M v G) rfl trivial ?_
        refine lm_G_ca (j := 98) (as := [.ref 0]) (rest := []) rfl (Or.inl rfl) (Nat.le_of_ble_eq_true rfl) (Nat.le_of_ble_eq_true rfl) (Nat.le_of_ble_eq_true rfl) (Nat.le_of_ble_eq_true rfl) rfl ?_
        refine c_refuseAct hc0 (fun M1 c1 f1 => ?_)
        show lm_G X (d + 7) 92 106 0 0 30 [some (.ref 0), some (.int x)] [.int (-1)] (lm_T M1 v G) Q
        simp +decide only [actS, actB, actA, hd, if_true, if_false, Bool.and_true, Bool.true_and, Bool.and_self, Bool.false_and, Bool.and_false, Bool.false_eq_true] at hQ
        exact lm_G_re rfl trivial (Nat.zero_le _) (Nat.zero_le _) (hQ _ c1 f1)
      ·
        have hi : inR x 1 20 = true := decide_eq_true ⟨Int32.not_lt.mp h1, Int32.not_lt.mp h2⟩
        have hd : dHrs s x = true := by
          unfold dHrs
          rw [hi, decide_eq_true h3]
          rfl
        obtain ⟨n, gn, hn20, rfl⟩ := inR_nI1 (n := 20) (by decide) hi
        have cn : (nI n).toNatClampNeg = n := nI_clamp (by omega)
        simp +decide only [actS, actB, actA, hd, cn, if_true, if_false, Bool.and_true, Bool.true_and, Bool.and_self, Bool.false_and, Bool.and_false, Bool.false_eq_true] at hQ
        refine lm_G_sg 4 (pc' := 39) (L' := [some (.ref 0), some (.int (nI n))]) (S' := [.ref 28, .ref 52]) (σ' := lm_T M v G) rfl trivial ?_
        refine lm_G_ca (j := 4) (as := [.ref 52, .ref 28]) (rest := []) rfl (Or.inl rfl) (Nat.le_of_ble_eq_true rfl) (Nat.le_of_ble_eq_true rfl) (Nat.le_of_ble_eq_true rfl) (Nat.le_of_ble_eq_true rfl) rfl ?_
        refine c_keep hF hc0 hA (fun M1 c1 f1 => ?_)
        show lm_G X (d + 7) 92 106 0 0 42 [some (.ref 0), some (.int (nI n))] [] (lm_T M1 v G) Q
        have h1 := c1.1
        refine lm_G_sg 3 (pc' := 47) (L' := [some (.ref 0), some (.int (nI n))]) (S' := [.int (nI n), .ref 28]) (σ' := lm_T M1 v G) rfl trivial ?_
        refine lm_G_ca (j := 73) (as := [.ref 28, .int (nI n)]) (rest := []) rfl (Or.inl rfl) (Nat.le_of_ble_eq_true rfl) (Nat.le_of_ble_eq_true rfl) (Nat.le_of_ble_eq_true rfl) (Nat.le_of_ble_eq_true rfl) rfl ?_
        refine c_passHours28 (lf := nl) hF h1 hs (fun _ hp => nl_C hF.n hp c1.2.1) (by omega) (fun M2 h2c k2 t2 => ?_)
        show lm_G X (d + 7) 92 106 0 0 50 [some (.ref 0), some (.int (nI n))] [] (lm_T M2 v G) Q
        refine lm_G_sg 3 (pc' := 57) (L' := [some (.ref 0), some (.int (nI n))]) (S' := [.int (M2 28 2)]) (σ' := lm_T M2 v G) rfl trivial ?_
        rw [show M2 28 2 = sHr (hrsS F nl s n) from h2c.hr]
        exact lm_G_re rfl trivial (Nat.zero_le _) (Nat.zero_le _) (hQ _ (CS_C c1 k2 h2c) (Fr_tr f1 (FG_W k2)))
theorem m_keep4 {X : lm_X} {d v : Nat} {M : Nat → Nat → Int32} {G : Nat → Nat → Int64} {Q : lm_O → lm_S → Prop} {F : Fa} {s : Sc} {B : Bk} (hF : okF F) (hm0 : MS M F s B) (hA : bkA B ≤ 40) (hQ : ∀ M1, MS M1 F s (kpB B s) → FrH M M1 → M1 64 4 = M 64 4 → Q (.inl none) (lm_T M1 v G)) : lm_Q X (d + 1) 205 [.ref 64] (lm_T M v G) Q := m_keep hF hm0 hA hQ
set_option maxRecDepth 10000 in
theorem m_hours {X : lm_X} {d v : Nat} {M : Nat → Nat → Int32} {G : Nat → Nat → Int64} {Q : lm_O → lm_S → Prop} {F : Fa} {s : Sc} {B : Bk} {x : Int32} (hF : okF F) (hm0 : MS M F s B) (hs : okS F s) (hA : bkA B ≤ 40) (hQ : ∀ M1, MS M1 F (actS (dHrs s x) s (hrsS F nl s x.toNatClampNeg)) (actB (true) (dHrs s x) B s) → FrH M M1 → M1 64 4 = cd (actA (true) (dHrs s x) (sHr (hrsS F nl s x.toNatClampNeg))) → Q (.inl (some (.int (vl (actA (true) (dHrs s x) (sHr (hrsS F nl s x.toNatClampNeg))))))) (lm_T M1 v G)) : lm_Q X (d + 6) 206 [.ref 64, .int x] (lm_T M v G) Q := by
  have hn := hF.n
  have hm := hF.m
  show lm_G X (d + 6) 206 106 0 0 0 [some (.ref 64), some (.int x)] [] (lm_T M v G) Q
  refine lm_G_sg 3 (pc' := 5) (L' := [some (.ref 64), some (.int x)]) (S' := []) (σ' := lm_T (lm_wr M 64 4 0) v G) rfl ⟨trivial, trivial, trivial⟩ ?_
  have m0 : MS (lm_wr M 64 4 0) F s B := MS_4 hm0 0
  have f0 : FrH M (lm_wr M 64 4 0) := FrH_w64 (FrH_rf _) (Or.inl rfl)
  have c0 : (lm_wr M 64 4 0) 64 4 = 0 := wr_same
  revert m0 f0 c0
  generalize lm_wr M 64 4 0 = M0
  intro m0 f0 c0
  have h0 := m0.1
  refine lm_G_sg 4 (pc' := 11) (L' := [some (.ref 64), some (.int x)]) (S' := [.long 20, .long 1, .long x.toInt64]) (σ' := lm_T M0 v G) rfl trivial ?_
  refine lm_G_ca (j := 142) (as := [.long x.toInt64, .long 1, .long 20]) (rest := []) rfl (Or.inl rfl) (Nat.le_of_ble_eq_true rfl) (Nat.le_of_ble_eq_true rfl) (Nat.le_of_ble_eq_true rfl) (Nat.le_of_ble_eq_true rfl) rfl ?_
  refine c_isIn ?_
  show lm_G X (d + 6) 206 106 0 0 14 [some (.ref 64), some (.int x)] [.int (b2i (inL (x.toInt64) 1 20))] (lm_T M0 v G) Q
  rw [show inL (x.toInt64) 1 20 = inR x 1 20 from (inL_R x 1 20)]
  refine lm_G_br (b := (b2i (inR x 1 20)) = 0) (t := 29) (S' := []) rfl (fun h1 => ?_) (fun h1 => ?_)
  ·
    have hd : dHrs s x = false := by
      unfold dHrs
      rw [b2i_0 h1]
      rfl
    refine lm_G_sg 2 (pc' := 31) (L' := [some (.ref 64), some (.int x)]) (S' := [.int 1, .ref 64]) (σ' := lm_T M0 v G) rfl trivial ?_
    refine lm_G_ca (j := 204) (as := [.ref 64, .int 1]) (rest := []) rfl (Or.inl rfl) (Nat.le_of_ble_eq_true rfl) (Nat.le_of_ble_eq_true rfl) (Nat.le_of_ble_eq_true rfl) (Nat.le_of_ble_eq_true rfl) rfl ?_
    refine m_refuse4 (j := 1) (by omega) m0 (fun M1 m1 k1 e1 => ?_)
    show lm_G X (d + 6) 206 106 0 0 34 [some (.ref 64), some (.int x)] [.int (-1)] (lm_T M1 v G) Q
    simp +decide only [actS, actB, actA, hd, if_true, if_false, Bool.and_true, Bool.true_and, Bool.and_self, Bool.false_and, Bool.and_false, Bool.false_eq_true] at hQ
    exact lm_G_re rfl trivial (Nat.zero_le _) (Nat.zero_le _) (hQ _ m1 (FrH_tr f0 k1) (e1.trans c0))
  ·
    refine lm_G_sg 2 (pc' := 21) (L' := [some (.ref 64), some (.int x)]) (S' := [.int (M0 64 36)]) (σ' := lm_T M0 v G) rfl trivial ?_
    rw [show M0 64 36 = sHr s from h0.hr]
    refine lm_G_sg 3 (pc' := 26) (L' := [some (.ref 64), some (.int x)]) (S' := [.int 999, .int ((sHr s) + x)]) (σ' := lm_T M0 v G) rfl trivial ?_
    refine lm_G_br (b := ((sHr s) + x) ≤ 999) (t := 35) (S' := []) rfl (fun h3 => ?_) (fun h3 => ?_)
    rotate_left
    ·
      have hd : dHrs s x = false := by
        unfold dHrs
        rw [decide_eq_false h3, Bool.and_false]
      refine lm_G_sg 2 (pc' := 31) (L' := [some (.ref 64), some (.int x)]) (S' := [.int 1, .ref 64]) (σ' := lm_T M0 v G) rfl trivial ?_
      refine lm_G_ca (j := 204) (as := [.ref 64, .int 1]) (rest := []) rfl (Or.inl rfl) (Nat.le_of_ble_eq_true rfl) (Nat.le_of_ble_eq_true rfl) (Nat.le_of_ble_eq_true rfl) (Nat.le_of_ble_eq_true rfl) rfl ?_
      refine m_refuse4 (j := 1) (by omega) m0 (fun M1 m1 k1 e1 => ?_)
      show lm_G X (d + 6) 206 106 0 0 34 [some (.ref 64), some (.int x)] [.int (-1)] (lm_T M1 v G) Q
      simp +decide only [actS, actB, actA, hd, if_true, if_false, Bool.and_true, Bool.true_and, Bool.and_self, Bool.false_and, Bool.and_false, Bool.false_eq_true] at hQ
      exact lm_G_re rfl trivial (Nat.zero_le _) (Nat.zero_le _) (hQ _ m1 (FrH_tr f0 k1) (e1.trans c0))
    ·
      have hi : inR x 1 20 = true := b2i_1 h1
      have hd : dHrs s x = true := by
        unfold dHrs
        rw [hi, decide_eq_true h3]
        rfl
      obtain ⟨n, gn, hn20, rfl⟩ := inR_nI1 (n := 20) (by decide) hi
      have cn : (nI n).toNatClampNeg = n := nI_clamp (by omega)
      simp +decide only [actS, actB, actA, hd, cn, if_true, if_false, Bool.and_true, Bool.true_and, Bool.and_self, Bool.false_and, Bool.and_false, Bool.false_eq_true] at hQ
      refine lm_G_sg 1 (pc' := 36) (L' := [some (.ref 64), some (.int (nI n))]) (S' := [.ref 64]) (σ' := lm_T M0 v G) rfl trivial ?_
      refine lm_G_ca (j := 205) (as := [.ref 64]) (rest := []) rfl (Or.inl rfl) (Nat.le_of_ble_eq_true rfl) (Nat.le_of_ble_eq_true rfl) (Nat.le_of_ble_eq_true rfl) (Nat.le_of_ble_eq_true rfl) rfl ?_
      refine m_keep4 hF m0 hA (fun M1 m1 k1 e1 => ?_)
      show lm_G X (d + 6) 206 106 0 0 39 [some (.ref 64), some (.int (nI n))] [] (lm_T M1 v G) Q
      have h1 := m1.1
      have f1 := FrH_tr f0 k1
      have c1 := e1.trans c0
      refine lm_G_sg 2 (pc' := 41) (L' := [some (.ref 64), some (.int (nI n))]) (S' := [.int (nI n), .ref 64]) (σ' := lm_T M1 v G) rfl trivial ?_
      refine lm_G_ca (j := 194) (as := [.ref 64, .int (nI n)]) (rest := []) rfl (Or.inl rfl) (Nat.le_of_ble_eq_true rfl) (Nat.le_of_ble_eq_true rfl) (Nat.le_of_ble_eq_true rfl) (Nat.le_of_ble_eq_true rfl) rfl ?_
      refine m_goOn (lf := nl) hF m1.1 hs (fun _ hp => nl_M hF.n hp m1.2.1) (by omega) (fun M2 h2c k2 t2 => ?_)
      show lm_G X (d + 6) 206 106 0 0 44 [some (.ref 64), some (.int (nI n))] [] (lm_T M2 v G) Q
      refine lm_G_sg 2 (pc' := 48) (L' := [some (.ref 64), some (.int (nI n))]) (S' := [.int (M2 64 36)]) (σ' := lm_T M2 v G) rfl trivial ?_
      rw [show M2 64 36 = sHr (hrsS F nl s n) from h2c.hr]
      exact lm_G_re rfl trivial (Nat.zero_le _) (Nat.zero_le _) (hQ _ (MS_M m1 k2 h2c) (FrH_tr f1 (FrH_M k2)) ((k2.2 4 (by decide) (by decide)).trans c1))
set_option maxRecDepth 10000 in
theorem c_hush {X : lm_X} {d v : Nat} {M : Nat → Nat → Int32} {G : Nat → Nat → Int64} {Q : lm_O → lm_S → Prop} {F : Fa} {s : Sc} {B : Bk} {x : Int32} (hF : okF F) (hc0 : CS M F s B) (hs : okS F s) (hA : bkA B ≤ 40) (hQ : ∀ M1, CS M1 F (actS (isP (fN F) x && decide (sHu s x.toNatClampNeg ≠ -1)) s (husS F s x.toNatClampNeg)) (actB (isP (fN F) x) (isP (fN F) x && decide (sHu s x.toNatClampNeg ≠ -1)) B s) → Fr frG M M1 → Q (cO (actA (isP (fN F) x) (isP (fN F) x && decide (sHu s x.toNatClampNeg ≠ -1)) (sHu s x.toNatClampNeg))) (lm_T M1 v G)) : lm_Q X (d + 3) 93 [.ref 0, .int x] (lm_T M v G) Q := by
  have hn := hF.n
  have hm := hF.m
  have h := hc0.1
  show lm_G X (d + 3) 93 106 0 0 0 [some (.ref 0), some (.int x), none] [] (lm_T M v G) Q
  refine lm_G_sg 2 (pc' := 2) (L' := [some (.ref 0), some (.int x), none]) (S' := [.int x, .ref 0]) (σ' := lm_T M v G) rfl trivial ?_
  refine lm_G_ca (j := 133) (as := [.ref 0, .int x]) (rest := []) rfl (Or.inl rfl) (Nat.le_of_ble_eq_true rfl) (Nat.le_of_ble_eq_true rfl) (Nat.le_of_ble_eq_true rfl) (Nat.le_of_ble_eq_true rfl) rfl ?_
  refine c_isPerson hF h ?_
  show lm_G X (d + 3) 93 106 0 0 5 [some (.ref 0), some (.int x), none] [.int (b2i (isP (fN F) x))] (lm_T M v G) Q
  rcases Bool.eq_false_or_eq_true (isP (fN F) x) with hx | hx
  rotate_left
  ·
    rw [hx]
    show lm_G X (d + 3) 93 106 0 0 5 [some (.ref 0), some (.int x), none] [.int 0] (lm_T M v G) Q
    simp +decide only [actB, actA, hx, if_true, if_false, Bool.and_true, Bool.true_and, Bool.and_self, Bool.false_and, Bool.and_false, Bool.false_eq_true] at hQ
    refine lm_G_ca (j := 137) (as := [.int 0]) (rest := []) rfl (Or.inl rfl) (Nat.le_of_ble_eq_true rfl) (Nat.le_of_ble_eq_true rfl) (Nat.le_of_ble_eq_true rfl) (Nat.le_of_ble_eq_true rfl) rfl ?_
    exact c_mustExistF ⟨by decide, rfl, hQ M (by simp only [actS, hx, Bool.false_and, Bool.false_eq_true, if_false]; exact hc0) (Fr_rf _ _)⟩
  ·
    rw [hx]
    show lm_G X (d + 3) 93 106 0 0 5 [some (.ref 0), some (.int x), none] [.int 1] (lm_T M v G) Q
    refine lm_G_ca (j := 137) (as := [.int 1]) (rest := []) rfl (Or.inl rfl) (Nat.le_of_ble_eq_true rfl) (Nat.le_of_ble_eq_true rfl) (Nat.le_of_ble_eq_true rfl) (Nat.le_of_ble_eq_true rfl) rfl ?_
    refine c_mustExistT ?_
    show lm_G X (d + 3) 93 106 1 6 8 [some (.ref 0), some (.int x), none] [] (lm_T M v G) Q
    obtain ⟨p, hp, rfl⟩ := isP_nI hx (by omega)
    have cp : (nI p).toNatClampNeg = p := nI_clamp (by omega)
    refine lm_G_sg 5 (pc' := 17) (L' := [some (.ref 0), some (.int (nI p)), none]) (S' := [.int (M 32 (nI p).toNatClampNeg)]) (σ' := lm_T M v G) rfl ⟨(vp_in_nI (by omega) (by omega)), trivial, trivial⟩ ?_
    rw [show (nI p).toNatClampNeg = p from nI_clamp (by omega)]
    rw [show M 32 p = sHu s p from h.hu p (by omega)]
    refine lm_G_sg 3 (pc' := 20) (L' := [some (.ref 0), some (.int (nI p)), some (.int (sHu s p))]) (S' := [.int (-1), .int (sHu s p)]) (σ' := lm_T M v G) rfl trivial ?_
    refine lm_G_br (b := ¬ (sHu s p) = (-1)) (t := 28) (S' := []) rfl (fun h1 => ?_) (fun h1 => ?_)
    rotate_left
    ·
      have hd : decide (sHu s p ≠ -1) = false := decide_eq_false h1
      refine lm_G_sg 1 (pc' := 24) (L' := [some (.ref 0), some (.int (nI p)), some (.int (sHu s p))]) (S' := [.ref 0]) (σ' := lm_T M v G) rfl trivial ?_
      refine lm_G_ca (j := 98) (as := [.ref 0]) (rest := []) rfl (Or.inl rfl) (Nat.le_of_ble_eq_true rfl) (Nat.le_of_ble_eq_true rfl) (Nat.le_of_ble_eq_true rfl) (Nat.le_of_ble_eq_true rfl) rfl ?_
      refine c_refuseAct hc0 (fun M1 c1 f1 => ?_)
      show lm_G X (d + 3) 93 106 1 6 27 [some (.ref 0), some (.int (nI p)), some (.int (sHu s p))] [.int (-1)] (lm_T M1 v G) Q
      simp +decide only [actS, actB, actA, hx, cp, hd, if_true, if_false, Bool.and_true, Bool.true_and, Bool.and_self, Bool.false_and, Bool.and_false, Bool.false_eq_true] at hQ
      exact lm_G_re rfl trivial (Nat.le_of_ble_eq_true rfl) (Nat.le_of_ble_eq_true rfl) (hQ _ c1 f1)
    ·
      have hd : decide (sHu s p ≠ -1) = true := decide_eq_true h1
      simp +decide only [actS, actB, actA, hx, cp, hd, if_true, if_false, Bool.and_true, Bool.true_and, Bool.and_self, Bool.false_and, Bool.and_false, Bool.false_eq_true] at hQ
      refine lm_G_sg 4 (pc' := 36) (L' := [some (.ref 0), some (.int (nI p)), some (.int (sHu s p))]) (S' := [.ref 28, .ref 52]) (σ' := lm_T M v G) rfl trivial ?_
      refine lm_G_ca (j := 4) (as := [.ref 52, .ref 28]) (rest := []) rfl (Or.inl rfl) (Nat.le_of_ble_eq_true rfl) (Nat.le_of_ble_eq_true rfl) (Nat.le_of_ble_eq_true rfl) (Nat.le_of_ble_eq_true rfl) rfl ?_
      refine c_keep hF hc0 hA (fun M1 c1 f1 => ?_)
      show lm_G X (d + 3) 93 106 1 6 39 [some (.ref 0), some (.int (nI p)), some (.int (sHu s p))] [] (lm_T M1 v G) Q
      have h1 := c1.1
      refine lm_G_sg 3 (pc' := 44) (L' := [some (.ref 0), some (.int (nI p)), some (.int (sHu s p))]) (S' := [.int (nI p), .ref 28]) (σ' := lm_T M1 v G) rfl trivial ?_
      refine lm_G_ca (j := 68) (as := [.ref 28, .int (nI p)]) (rest := []) rfl (Or.inl rfl) (Nat.le_of_ble_eq_true rfl) (Nat.le_of_ble_eq_true rfl) (Nat.le_of_ble_eq_true rfl) (Nat.le_of_ble_eq_true rfl) rfl ?_
      refine c_quiet28 hF h1 hs hp (fun M2 h2c k2 t2 => ?_)
      show lm_G X (d + 3) 93 106 1 6 47 [some (.ref 0), some (.int (nI p)), some (.int (sHu s p))] [] (lm_T M2 v G) Q
      refine lm_G_sg 1 (pc' := 48) (L' := [some (.ref 0), some (.int (nI p)), some (.int (sHu s p))]) (S' := [.int (sHu s p)]) (σ' := lm_T M2 v G) rfl trivial ?_
      exact lm_G_re rfl trivial (Nat.le_of_ble_eq_true rfl) (Nat.le_of_ble_eq_true rfl) (hQ _ (CS_C c1 k2 h2c) (Fr_tr f1 (FG_W k2)))
set_option maxRecDepth 10000 in
theorem m_hush {X : lm_X} {d v : Nat} {M : Nat → Nat → Int32} {G : Nat → Nat → Int64} {Q : lm_O → lm_S → Prop} {F : Fa} {s : Sc} {B : Bk} {x : Int32} (hF : okF F) (hm0 : MS M F s B) (hs : okS F s) (hA : bkA B ≤ 40) (hQ : ∀ M1, MS M1 F (actS (isP (fN F) x && decide (sHu s x.toNatClampNeg ≠ -1)) s (husS F s x.toNatClampNeg)) (actB (isP (fN F) x) (isP (fN F) x && decide (sHu s x.toNatClampNeg ≠ -1)) B s) → FrH M M1 → M1 64 4 = cd (actA (isP (fN F) x) (isP (fN F) x && decide (sHu s x.toNatClampNeg ≠ -1)) (sHu s x.toNatClampNeg)) → Q (.inl (some (.int (vl (actA (isP (fN F) x) (isP (fN F) x && decide (sHu s x.toNatClampNeg ≠ -1)) (sHu s x.toNatClampNeg)))))) (lm_T M1 v G)) : lm_Q X (d + 2) 207 [.ref 64, .int x] (lm_T M v G) Q := by
  have hn := hF.n
  have hm := hF.m
  show lm_G X (d + 2) 207 106 0 0 0 [some (.ref 64), some (.int x), none] [] (lm_T M v G) Q
  refine lm_G_sg 3 (pc' := 5) (L' := [some (.ref 64), some (.int x), none]) (S' := []) (σ' := lm_T (lm_wr M 64 4 0) v G) rfl ⟨trivial, trivial, trivial⟩ ?_
  have m0 : MS (lm_wr M 64 4 0) F s B := MS_4 hm0 0
  have f0 : FrH M (lm_wr M 64 4 0) := FrH_w64 (FrH_rf _) (Or.inl rfl)
  have c0 : (lm_wr M 64 4 0) 64 4 = 0 := wr_same
  revert m0 f0 c0
  generalize lm_wr M 64 4 0 = M0
  intro m0 f0 c0
  have h0 := m0.1
  refine lm_G_sg 2 (pc' := 7) (L' := [some (.ref 64), some (.int x), none]) (S' := [.int x, .ref 64]) (σ' := lm_T M0 v G) rfl trivial ?_
  refine lm_G_ca (j := 145) (as := [.ref 64, .int x]) (rest := []) rfl (Or.inl rfl) (Nat.le_of_ble_eq_true rfl) (Nat.le_of_ble_eq_true rfl) (Nat.le_of_ble_eq_true rfl) (Nat.le_of_ble_eq_true rfl) rfl ?_
  refine m_isPerson hF h0 ?_
  show lm_G X (d + 2) 207 106 0 0 10 [some (.ref 64), some (.int x), none] [.int (b2i (isP (fN F) x))] (lm_T M0 v G) Q
  refine lm_G_br (b := ¬ (b2i (isP (fN F) x)) = 0) (t := 19) (S' := []) rfl (fun hx => ?_) (fun hx => ?_)
  rotate_left
  ·
    replace hx := b2i_0 (Classical.not_not.mp hx)
    refine lm_G_sg 2 (pc' := 15) (L' := [some (.ref 64), some (.int x), none]) (S' := [.int 1, .ref 64]) (σ' := lm_T M0 v G) rfl trivial ?_
    refine lm_G_ca (j := 141) (as := [.ref 64, .int 1]) (rest := []) rfl (Or.inl rfl) (Nat.le_of_ble_eq_true rfl) (Nat.le_of_ble_eq_true rfl) (Nat.le_of_ble_eq_true rfl) (Nat.le_of_ble_eq_true rfl) rfl ?_
    refine m_fail ?_
    show lm_G X (d + 2) 207 106 0 0 18 [some (.ref 64), some (.int x), none] [.int 0] (lm_T (lm_wr M0 64 4 1) v G) Q
    simp +decide only [actS, actB, actA, hx, if_true, if_false, Bool.and_true, Bool.true_and, Bool.and_self, Bool.false_and, Bool.and_false, Bool.false_eq_true] at hQ
    exact lm_G_re rfl trivial (Nat.zero_le _) (Nat.zero_le _) (hQ _ (MS_4 m0 1) (FrH_w64 f0 (Or.inl rfl)) wr_same)
  ·
    replace hx := b2i_1 hx
    obtain ⟨p, hp, rfl⟩ := isP_nI hx (by omega)
    have cp : (nI p).toNatClampNeg = p := nI_clamp (by omega)
    refine lm_G_sg 4 (pc' := 25) (L' := [some (.ref 64), some (.int (nI p)), none]) (S' := [.int (M0 82 (nI p).toNatClampNeg)]) (σ' := lm_T M0 v G) rfl ⟨(vp_in_nI (by omega) (by omega)), trivial, trivial⟩ ?_
    rw [show (nI p).toNatClampNeg = p from nI_clamp (by omega)]
    rw [show M0 82 p = sHu s p from h0.hu p (by omega)]
    refine lm_G_sg 3 (pc' := 28) (L' := [some (.ref 64), some (.int (nI p)), some (.int (sHu s p))]) (S' := [.int (-1), .int (sHu s p)]) (σ' := lm_T M0 v G) rfl trivial ?_
    refine lm_G_br (b := ¬ (sHu s p) = (-1)) (t := 37) (S' := []) rfl (fun h1 => ?_) (fun h1 => ?_)
    rotate_left
    ·
      have hd : decide (sHu s p ≠ -1) = false := decide_eq_false h1
      refine lm_G_sg 2 (pc' := 33) (L' := [some (.ref 64), some (.int (nI p)), some (.int (sHu s p))]) (S' := [.int 1, .ref 64]) (σ' := lm_T M0 v G) rfl trivial ?_
      refine lm_G_ca (j := 204) (as := [.ref 64, .int 1]) (rest := []) rfl (Or.inl rfl) (Nat.le_of_ble_eq_true rfl) (Nat.le_of_ble_eq_true rfl) (Nat.le_of_ble_eq_true rfl) (Nat.le_of_ble_eq_true rfl) rfl ?_
      refine m_refuse4 (j := 1) (by omega) m0 (fun M1 m1 k1 e1 => ?_)
      show lm_G X (d + 2) 207 106 0 0 36 [some (.ref 64), some (.int (nI p)), some (.int (sHu s p))] [.int (-1)] (lm_T M1 v G) Q
      simp +decide only [actS, actB, actA, hx, cp, hd, if_true, if_false, Bool.and_true, Bool.true_and, Bool.and_self, Bool.false_and, Bool.and_false, Bool.false_eq_true] at hQ
      exact lm_G_re rfl trivial (Nat.zero_le _) (Nat.zero_le _) (hQ _ m1 (FrH_tr f0 k1) (e1.trans c0))
    ·
      have hd : decide (sHu s p ≠ -1) = true := decide_eq_true h1
      simp +decide only [actS, actB, actA, hx, cp, hd, if_true, if_false, Bool.and_true, Bool.true_and, Bool.and_self, Bool.false_and, Bool.and_false, Bool.false_eq_true] at hQ
      refine lm_G_sg 1 (pc' := 38) (L' := [some (.ref 64), some (.int (nI p)), some (.int (sHu s p))]) (S' := [.ref 64]) (σ' := lm_T M0 v G) rfl trivial ?_
      refine lm_G_ca (j := 205) (as := [.ref 64]) (rest := []) rfl (Or.inl rfl) (Nat.le_of_ble_eq_true rfl) (Nat.le_of_ble_eq_true rfl) (Nat.le_of_ble_eq_true rfl) (Nat.le_of_ble_eq_true rfl) rfl ?_
      refine m_keep4 hF m0 hA (fun M1 m1 k1 e1 => ?_)
      show lm_G X (d + 2) 207 106 0 0 41 [some (.ref 64), some (.int (nI p)), some (.int (sHu s p))] [] (lm_T M1 v G) Q
      have h1 := m1.1
      have f1 := FrH_tr f0 k1
      have c1 := e1.trans c0
      refine lm_G_sg 4 (pc' := 45) (L' := [some (.ref 64), some (.int (nI p)), some (.int (sHu s p))]) (S' := [.int ((1 : Int32) <<< ((nI p) &&& 31)), .ref 64]) (σ' := lm_T M1 v G) rfl trivial ?_
      refine lm_G_ca (j := 191) (as := [.ref 64, .int ((1 : Int32) <<< ((nI p) &&& 31))]) (rest := []) rfl (Or.inl rfl) (Nat.le_of_ble_eq_true rfl) (Nat.le_of_ble_eq_true rfl) (Nat.le_of_ble_eq_true rfl) (Nat.le_of_ble_eq_true rfl) rfl ?_
      refine m_allStop hF m1.1 (fun M2 h2c t2 k2 => ?_)
      show lm_G X (d + 2) 207 106 0 0 48 [some (.ref 64), some (.int (nI p)), some (.int (sHu s p))] [] (lm_T M2 v G) Q
      refine lm_G_sg 1 (pc' := 49) (L' := [some (.ref 64), some (.int (nI p)), some (.int (sHu s p))]) (S' := [.int (sHu s p)]) (σ' := lm_T M2 v G) rfl trivial ?_
      exact lm_G_re rfl trivial (Nat.zero_le _) (Nat.zero_le _) (hQ _ (MS_M m1 k2 h2c) (FrH_tr f1 (FrH_M k2)) ((k2.2 4 (by decide) (by decide)).trans c1))
set_option maxRecDepth 10000 in
theorem c_cough {X : lm_X} {d v : Nat} {M : Nat → Nat → Int32} {G : Nat → Nat → Int64} {Q : lm_O → lm_S → Prop} {F : Fa} {s : Sc} {B : Bk} {x : Int32} (hF : okF F) (hc0 : CS M F s B) (hs : okS F s) (hA : bkA B ≤ 40) (hQ : ∀ M1, CS M1 F (actS (isP (fM F) x && decide (humS F (sHu s) x ≠ 0)) s (allS F (bitW (humS F (sHu s) x)) s (fM F))) (actB (isP (fM F) x) (isP (fM F) x && decide (humS F (sHu s) x ≠ 0)) B s) → Fr frG M M1 → Q (cO (actA (isP (fM F) x) (isP (fM F) x && decide (humS F (sHu s) x ≠ 0)) (humS F (sHu s) x))) (lm_T M1 v G)) : lm_Q X (d + 3) 94 [.ref 0, .int x] (lm_T M v G) Q := by
  have hn := hF.n
  have hm := hF.m
  have h := hc0.1
  show lm_G X (d + 3) 94 106 0 0 0 [some (.ref 0), some (.int x), none] [] (lm_T M v G) Q
  refine lm_G_sg 2 (pc' := 2) (L' := [some (.ref 0), some (.int x), none]) (S' := [.int x, .ref 0]) (σ' := lm_T M v G) rfl trivial ?_
  refine lm_G_ca (j := 134) (as := [.ref 0, .int x]) (rest := []) rfl (Or.inl rfl) (Nat.le_of_ble_eq_true rfl) (Nat.le_of_ble_eq_true rfl) (Nat.le_of_ble_eq_true rfl) (Nat.le_of_ble_eq_true rfl) rfl ?_
  refine c_isTune hF h ?_
  show lm_G X (d + 3) 94 106 0 0 5 [some (.ref 0), some (.int x), none] [.int (b2i (isP (fM F) x))] (lm_T M v G) Q
  rcases Bool.eq_false_or_eq_true (isP (fM F) x) with hx | hx
  rotate_left
  ·
    rw [hx]
    show lm_G X (d + 3) 94 106 0 0 5 [some (.ref 0), some (.int x), none] [.int 0] (lm_T M v G) Q
    simp +decide only [actB, actA, hx, if_true, if_false, Bool.and_true, Bool.true_and, Bool.and_self, Bool.false_and, Bool.and_false, Bool.false_eq_true] at hQ
    refine lm_G_ca (j := 137) (as := [.int 0]) (rest := []) rfl (Or.inl rfl) (Nat.le_of_ble_eq_true rfl) (Nat.le_of_ble_eq_true rfl) (Nat.le_of_ble_eq_true rfl) (Nat.le_of_ble_eq_true rfl) rfl ?_
    exact c_mustExistF ⟨by decide, rfl, hQ M (by simp only [actS, hx, Bool.false_and, Bool.false_eq_true, if_false]; exact hc0) (Fr_rf _ _)⟩
  ·
    rw [hx]
    show lm_G X (d + 3) 94 106 0 0 5 [some (.ref 0), some (.int x), none] [.int 1] (lm_T M v G) Q
    refine lm_G_ca (j := 137) (as := [.int 1]) (rest := []) rfl (Or.inl rfl) (Nat.le_of_ble_eq_true rfl) (Nat.le_of_ble_eq_true rfl) (Nat.le_of_ble_eq_true rfl) (Nat.le_of_ble_eq_true rfl) rfl ?_
    refine c_mustExistT ?_
    show lm_G X (d + 3) 94 106 1 6 8 [some (.ref 0), some (.int x), none] [] (lm_T M v G) Q
    obtain ⟨t, ht, rfl⟩ := isP_nI hx (by omega)
    have ct : (nI t).toNatClampNeg = t := nI_clamp (by omega)
    refine lm_G_sg 5 (pc' := 17) (L' := [some (.ref 0), some (.int (nI t)), none]) (S' := [.int (M 36 (nI t).toNatClampNeg)]) (σ' := lm_T M v G) rfl ⟨(vp_in_nI (by omega) (by omega)), trivial, trivial⟩ ?_
    rw [show (nI t).toNatClampNeg = t from nI_clamp (by omega)]
    rw [show M 36 t = humS F (sHu s) (nI t) from h.hs t (by omega)]
    refine lm_G_sg 2 (pc' := 19) (L' := [some (.ref 0), some (.int (nI t)), some (.int (humS F (sHu s) (nI t)))]) (S' := [.int (humS F (sHu s) (nI t))]) (σ' := lm_T M v G) rfl trivial ?_
    refine lm_G_br (b := ¬ (humS F (sHu s) (nI t)) = 0) (t := 27) (S' := []) rfl (fun h1 => ?_) (fun h1 => ?_)
    rotate_left
    ·
      have hd : decide (humS F (sHu s) (nI t) ≠ 0) = false := decide_eq_false h1
      refine lm_G_sg 1 (pc' := 23) (L' := [some (.ref 0), some (.int (nI t)), some (.int (humS F (sHu s) (nI t)))]) (S' := [.ref 0]) (σ' := lm_T M v G) rfl trivial ?_
      refine lm_G_ca (j := 98) (as := [.ref 0]) (rest := []) rfl (Or.inl rfl) (Nat.le_of_ble_eq_true rfl) (Nat.le_of_ble_eq_true rfl) (Nat.le_of_ble_eq_true rfl) (Nat.le_of_ble_eq_true rfl) rfl ?_
      refine c_refuseAct hc0 (fun M1 c1 f1 => ?_)
      show lm_G X (d + 3) 94 106 1 6 26 [some (.ref 0), some (.int (nI t)), some (.int (humS F (sHu s) (nI t)))] [.int (-1)] (lm_T M1 v G) Q
      simp +decide only [actS, actB, actA, hx, hd, if_true, if_false, Bool.and_true, Bool.true_and, Bool.and_self, Bool.false_and, Bool.and_false, Bool.false_eq_true] at hQ
      exact lm_G_re rfl trivial (Nat.le_of_ble_eq_true rfl) (Nat.le_of_ble_eq_true rfl) (hQ _ c1 f1)
    ·
      have hd : decide (humS F (sHu s) (nI t) ≠ 0) = true := decide_eq_true h1
      simp +decide only [actS, actB, actA, hx, hd, if_true, if_false, Bool.and_true, Bool.true_and, Bool.and_self, Bool.false_and, Bool.and_false, Bool.false_eq_true] at hQ
      refine lm_G_sg 4 (pc' := 35) (L' := [some (.ref 0), some (.int (nI t)), some (.int (humS F (sHu s) (nI t)))]) (S' := [.ref 28, .ref 52]) (σ' := lm_T M v G) rfl trivial ?_
      refine lm_G_ca (j := 4) (as := [.ref 52, .ref 28]) (rest := []) rfl (Or.inl rfl) (Nat.le_of_ble_eq_true rfl) (Nat.le_of_ble_eq_true rfl) (Nat.le_of_ble_eq_true rfl) (Nat.le_of_ble_eq_true rfl) rfl ?_
      refine c_keep hF hc0 hA (fun M1 c1 f1 => ?_)
      show lm_G X (d + 3) 94 106 1 6 38 [some (.ref 0), some (.int (nI t)), some (.int (humS F (sHu s) (nI t)))] [] (lm_T M1 v G) Q
      have h1 := c1.1
      refine lm_G_sg 3 (pc' := 43) (L' := [some (.ref 0), some (.int (nI t)), some (.int (humS F (sHu s) (nI t)))]) (S' := [.int (nI t), .ref 28]) (σ' := lm_T M1 v G) rfl trivial ?_
      refine lm_G_ca (j := 69) (as := [.ref 28, .int (nI t)]) (rest := []) rfl (Or.inl rfl) (Nat.le_of_ble_eq_true rfl) (Nat.le_of_ble_eq_true rfl) (Nat.le_of_ble_eq_true rfl) (Nat.le_of_ble_eq_true rfl) rfl ?_
      refine c_quietT28 hF h1 ht (fun M2 h2c k2 t2 => ?_)
      show lm_G X (d + 3) 94 106 1 6 46 [some (.ref 0), some (.int (nI t)), some (.int (humS F (sHu s) (nI t)))] [] (lm_T M2 v G) Q
      rw [← (hum_one hF ht).1] at h2c
      refine lm_G_sg 1 (pc' := 47) (L' := [some (.ref 0), some (.int (nI t)), some (.int (humS F (sHu s) (nI t)))]) (S' := [.int (humS F (sHu s) (nI t))]) (σ' := lm_T M2 v G) rfl trivial ?_
      exact lm_G_re rfl trivial (Nat.le_of_ble_eq_true rfl) (Nat.le_of_ble_eq_true rfl) (hQ _ (CS_C c1 k2 h2c) (Fr_tr f1 (FG_W k2)))
set_option maxRecDepth 10000 in
theorem m_cough {X : lm_X} {d v : Nat} {M : Nat → Nat → Int32} {G : Nat → Nat → Int64} {Q : lm_O → lm_S → Prop} {F : Fa} {s : Sc} {B : Bk} {x : Int32} (hF : okF F) (hm0 : MS M F s B) (hs : okS F s) (hA : bkA B ≤ 40) (hQ : ∀ M1, MS M1 F (actS (isP (fM F) x && decide (humS F (sHu s) x ≠ 0)) s (allS F (bitW (humS F (sHu s) x)) s (fM F))) (actB (isP (fM F) x) (isP (fM F) x && decide (humS F (sHu s) x ≠ 0)) B s) → FrH M M1 → M1 64 4 = cd (actA (isP (fM F) x) (isP (fM F) x && decide (humS F (sHu s) x ≠ 0)) (humS F (sHu s) x)) → Q (.inl (some (.int (vl (actA (isP (fM F) x) (isP (fM F) x && decide (humS F (sHu s) x ≠ 0)) (humS F (sHu s) x)))))) (lm_T M1 v G)) : lm_Q X (d + 2) 208 [.ref 64, .int x] (lm_T M v G) Q := by
  have hn := hF.n
  have hm := hF.m
  show lm_G X (d + 2) 208 106 0 0 0 [some (.ref 64), some (.int x), none] [] (lm_T M v G) Q
  refine lm_G_sg 3 (pc' := 5) (L' := [some (.ref 64), some (.int x), none]) (S' := []) (σ' := lm_T (lm_wr M 64 4 0) v G) rfl ⟨trivial, trivial, trivial⟩ ?_
  have m0 : MS (lm_wr M 64 4 0) F s B := MS_4 hm0 0
  have f0 : FrH M (lm_wr M 64 4 0) := FrH_w64 (FrH_rf _) (Or.inl rfl)
  have c0 : (lm_wr M 64 4 0) 64 4 = 0 := wr_same
  revert m0 f0 c0
  generalize lm_wr M 64 4 0 = M0
  intro m0 f0 c0
  have h0 := m0.1
  refine lm_G_sg 2 (pc' := 7) (L' := [some (.ref 64), some (.int x), none]) (S' := [.int x, .ref 64]) (σ' := lm_T M0 v G) rfl trivial ?_
  refine lm_G_ca (j := 146) (as := [.ref 64, .int x]) (rest := []) rfl (Or.inl rfl) (Nat.le_of_ble_eq_true rfl) (Nat.le_of_ble_eq_true rfl) (Nat.le_of_ble_eq_true rfl) (Nat.le_of_ble_eq_true rfl) rfl ?_
  refine m_isTune hF h0 ?_
  show lm_G X (d + 2) 208 106 0 0 10 [some (.ref 64), some (.int x), none] [.int (b2i (isP (fM F) x))] (lm_T M0 v G) Q
  refine lm_G_br (b := ¬ (b2i (isP (fM F) x)) = 0) (t := 19) (S' := []) rfl (fun hx => ?_) (fun hx => ?_)
  rotate_left
  ·
    replace hx := b2i_0 (Classical.not_not.mp hx)
    refine lm_G_sg 2 (pc' := 15) (L' := [some (.ref 64), some (.int x), none]) (S' := [.int 1, .ref 64]) (σ' := lm_T M0 v G) rfl trivial ?_
    refine lm_G_ca (j := 141) (as := [.ref 64, .int 1]) (rest := []) rfl (Or.inl rfl) (Nat.le_of_ble_eq_true rfl) (Nat.le_of_ble_eq_true rfl) (Nat.le_of_ble_eq_true rfl) (Nat.le_of_ble_eq_true rfl) rfl ?_
    refine m_fail ?_
    show lm_G X (d + 2) 208 106 0 0 18 [some (.ref 64), some (.int x), none] [.int 0] (lm_T (lm_wr M0 64 4 1) v G) Q
    simp +decide only [actS, actB, actA, hx, if_true, if_false, Bool.and_true, Bool.true_and, Bool.and_self, Bool.false_and, Bool.and_false, Bool.false_eq_true] at hQ
    exact lm_G_re rfl trivial (Nat.zero_le _) (Nat.zero_le _) (hQ _ (MS_4 m0 1) (FrH_w64 f0 (Or.inl rfl)) wr_same)
  ·
    replace hx := b2i_1 hx
    obtain ⟨t, ht, rfl⟩ := isP_nI hx (by omega)
    have ct : (nI t).toNatClampNeg = t := nI_clamp (by omega)
    refine lm_G_sg 2 (pc' := 21) (L' := [some (.ref 64), some (.int (nI t)), none]) (S' := [.int (nI t), .ref 64]) (σ' := lm_T M0 v G) rfl trivial ?_
    refine lm_G_ca (j := 181) (as := [.ref 64, .int (nI t)]) (rest := []) rfl (Or.inl rfl) (Nat.le_of_ble_eq_true rfl) (Nat.le_of_ble_eq_true rfl) (Nat.le_of_ble_eq_true rfl) (Nat.le_of_ble_eq_true rfl) rfl ?_
    refine m_whoHums hF h0 ?_
    show lm_G X (d + 2) 208 106 0 0 24 [some (.ref 64), some (.int (nI t)), none] [.int (humS F (sHu s) (nI t))] (lm_T M0 v G) Q
    refine lm_G_sg 2 (pc' := 26) (L' := [some (.ref 64), some (.int (nI t)), some (.int (humS F (sHu s) (nI t)))]) (S' := [.int (humS F (sHu s) (nI t))]) (σ' := lm_T M0 v G) rfl trivial ?_
    refine lm_G_br (b := ¬ (humS F (sHu s) (nI t)) = 0) (t := 35) (S' := []) rfl (fun h1 => ?_) (fun h1 => ?_)
    rotate_left
    ·
      have hd : decide (humS F (sHu s) (nI t) ≠ 0) = false := decide_eq_false h1
      refine lm_G_sg 2 (pc' := 31) (L' := [some (.ref 64), some (.int (nI t)), some (.int (humS F (sHu s) (nI t)))]) (S' := [.int 1, .ref 64]) (σ' := lm_T M0 v G) rfl trivial ?_
      refine lm_G_ca (j := 204) (as := [.ref 64, .int 1]) (rest := []) rfl (Or.inl rfl) (Nat.le_of_ble_eq_true rfl) (Nat.le_of_ble_eq_true rfl) (Nat.le_of_ble_eq_true rfl) (Nat.le_of_ble_eq_true rfl) rfl ?_
      refine m_refuse4 (j := 1) (by omega) m0 (fun M1 m1 k1 e1 => ?_)
      show lm_G X (d + 2) 208 106 0 0 34 [some (.ref 64), some (.int (nI t)), some (.int (humS F (sHu s) (nI t)))] [.int (-1)] (lm_T M1 v G) Q
      simp +decide only [actS, actB, actA, hx, hd, if_true, if_false, Bool.and_true, Bool.true_and, Bool.and_self, Bool.false_and, Bool.and_false, Bool.false_eq_true] at hQ
      exact lm_G_re rfl trivial (Nat.zero_le _) (Nat.zero_le _) (hQ _ m1 (FrH_tr f0 k1) (e1.trans c0))
    ·
      have hd : decide (humS F (sHu s) (nI t) ≠ 0) = true := decide_eq_true h1
      simp +decide only [actS, actB, actA, hx, hd, if_true, if_false, Bool.and_true, Bool.true_and, Bool.and_self, Bool.false_and, Bool.and_false, Bool.false_eq_true] at hQ
      refine lm_G_sg 1 (pc' := 36) (L' := [some (.ref 64), some (.int (nI t)), some (.int (humS F (sHu s) (nI t)))]) (S' := [.ref 64]) (σ' := lm_T M0 v G) rfl trivial ?_
      refine lm_G_ca (j := 205) (as := [.ref 64]) (rest := []) rfl (Or.inl rfl) (Nat.le_of_ble_eq_true rfl) (Nat.le_of_ble_eq_true rfl) (Nat.le_of_ble_eq_true rfl) (Nat.le_of_ble_eq_true rfl) rfl ?_
      refine m_keep4 hF m0 hA (fun M1 m1 k1 e1 => ?_)
      show lm_G X (d + 2) 208 106 0 0 39 [some (.ref 64), some (.int (nI t)), some (.int (humS F (sHu s) (nI t)))] [] (lm_T M1 v G) Q
      have h1 := m1.1
      have f1 := FrH_tr f0 k1
      have c1 := e1.trans c0
      refine lm_G_sg 2 (pc' := 41) (L' := [some (.ref 64), some (.int (nI t)), some (.int (humS F (sHu s) (nI t)))]) (S' := [.int (humS F (sHu s) (nI t)), .ref 64]) (σ' := lm_T M1 v G) rfl trivial ?_
      refine lm_G_ca (j := 191) (as := [.ref 64, .int (humS F (sHu s) (nI t))]) (rest := []) rfl (Or.inl rfl) (Nat.le_of_ble_eq_true rfl) (Nat.le_of_ble_eq_true rfl) (Nat.le_of_ble_eq_true rfl) (Nat.le_of_ble_eq_true rfl) rfl ?_
      refine m_allStop hF m1.1 (fun M2 h2c t2 k2 => ?_)
      show lm_G X (d + 2) 208 106 0 0 44 [some (.ref 64), some (.int (nI t)), some (.int (humS F (sHu s) (nI t)))] [] (lm_T M2 v G) Q
      refine lm_G_sg 1 (pc' := 45) (L' := [some (.ref 64), some (.int (nI t)), some (.int (humS F (sHu s) (nI t)))]) (S' := [.int (humS F (sHu s) (nI t))]) (σ' := lm_T M2 v G) rfl trivial ?_
      exact lm_G_re rfl trivial (Nat.zero_le _) (Nat.zero_le _) (hQ _ (MS_M m1 k2 h2c) (FrH_tr f1 (FrH_M k2)) ((k2.2 4 (by decide) (by decide)).trans c1))
set_option maxRecDepth 10000 in
theorem c_go {X : lm_X} {d v : Nat} {M : Nat → Nat → Int32} {G : Nat → Nat → Int64} {Q : lm_O → lm_S → Prop} {F : Fa} {s : Sc} {B : Bk} {x y : Int32} (hF : okF F) (hc0 : CS M F s B) (hs : okS F s) (hA : bkA B ≤ 40) (hQ : ∀ M1, CS M1 F (actS (isP (fN F) x && dGo s x.toNatClampNeg y) s (plS s x.toNatClampNeg y)) (actB (isP (fN F) x) (isP (fN F) x && dGo s x.toNatClampNeg y) B s) → Fr frG M M1 → Q (cO (actA (isP (fN F) x) (isP (fN F) x && dGo s x.toNatClampNeg y) (sPl s x.toNatClampNeg))) (lm_T M1 v G)) : lm_Q X (d + 2) 96 [.ref 0, .int x, .int y] (lm_T M v G) Q := by
  have hn := hF.n
  have hm := hF.m
  have h := hc0.1
  show lm_G X (d + 2) 96 106 0 0 0 [some (.ref 0), some (.int x), some (.int y), none] [] (lm_T M v G) Q
  refine lm_G_sg 2 (pc' := 2) (L' := [some (.ref 0), some (.int x), some (.int y), none]) (S' := [.int x, .ref 0]) (σ' := lm_T M v G) rfl trivial ?_
  refine lm_G_ca (j := 133) (as := [.ref 0, .int x]) (rest := []) rfl (Or.inl rfl) (Nat.le_of_ble_eq_true rfl) (Nat.le_of_ble_eq_true rfl) (Nat.le_of_ble_eq_true rfl) (Nat.le_of_ble_eq_true rfl) rfl ?_
  refine c_isPerson hF h ?_
  show lm_G X (d + 2) 96 106 0 0 5 [some (.ref 0), some (.int x), some (.int y), none] [.int (b2i (isP (fN F) x))] (lm_T M v G) Q
  rcases Bool.eq_false_or_eq_true (isP (fN F) x) with hx | hx
  rotate_left
  ·
    rw [hx]
    show lm_G X (d + 2) 96 106 0 0 5 [some (.ref 0), some (.int x), some (.int y), none] [.int 0] (lm_T M v G) Q
    simp +decide only [actB, actA, hx, if_true, if_false, Bool.and_true, Bool.true_and, Bool.and_self, Bool.false_and, Bool.and_false, Bool.false_eq_true] at hQ
    refine lm_G_ca (j := 137) (as := [.int 0]) (rest := []) rfl (Or.inl rfl) (Nat.le_of_ble_eq_true rfl) (Nat.le_of_ble_eq_true rfl) (Nat.le_of_ble_eq_true rfl) (Nat.le_of_ble_eq_true rfl) rfl ?_
    exact c_mustExistF ⟨by decide, rfl, hQ M (by simp only [actS, hx, Bool.false_and, Bool.false_eq_true, if_false]; exact hc0) (Fr_rf _ _)⟩
  ·
    rw [hx]
    show lm_G X (d + 2) 96 106 0 0 5 [some (.ref 0), some (.int x), some (.int y), none] [.int 1] (lm_T M v G) Q
    refine lm_G_ca (j := 137) (as := [.int 1]) (rest := []) rfl (Or.inl rfl) (Nat.le_of_ble_eq_true rfl) (Nat.le_of_ble_eq_true rfl) (Nat.le_of_ble_eq_true rfl) (Nat.le_of_ble_eq_true rfl) rfl ?_
    refine c_mustExistT ?_
    show lm_G X (d + 2) 96 106 1 6 8 [some (.ref 0), some (.int x), some (.int y), none] [] (lm_T M v G) Q
    obtain ⟨p, hp, rfl⟩ := isP_nI hx (by omega)
    have cp : (nI p).toNatClampNeg = p := nI_clamp (by omega)
    refine lm_G_sg 5 (pc' := 17) (L' := [some (.ref 0), some (.int (nI p)), some (.int y), none]) (S' := [.int (M 30 (nI p).toNatClampNeg)]) (σ' := lm_T M v G) rfl ⟨(vp_in_nI (by omega) (by omega)), trivial, trivial⟩ ?_
    rw [show (nI p).toNatClampNeg = p from nI_clamp (by omega)]
    rw [show M 30 p = sPl s p from h.pl p (by omega)]
    refine lm_G_sg 2 (pc' := 19) (L' := [some (.ref 0), some (.int (nI p)), some (.int y), some (.int (sPl s p))]) (S' := [.int y]) (σ' := lm_T M v G) rfl trivial ?_
    refine lm_G_br (b := y < 0) (t := 33) (S' := []) rfl (fun h1 => ?_) (fun h1 => ?_)
    ·
      have hd : dGo s p y = false := by
        unfold dGo inR
        rw [decide_eq_false (fun w => Int32.not_le.mpr h1 w.1)]
        rfl
      refine lm_G_sg 1 (pc' := 34) (L' := [some (.ref 0), some (.int (nI p)), some (.int y), some (.int (sPl s p))]) (S' := [.ref 0]) (σ' := lm_T M v G) rfl trivial ?_
      refine lm_G_ca (j := 98) (as := [.ref 0]) (rest := []) rfl (Or.inl rfl) (Nat.le_of_ble_eq_true rfl) (Nat.le_of_ble_eq_true rfl) (Nat.le_of_ble_eq_true rfl) (Nat.le_of_ble_eq_true rfl) rfl ?_
      refine c_refuseAct hc0 (fun M1 c1 f1 => ?_)
      show lm_G X (d + 2) 96 106 1 6 37 [some (.ref 0), some (.int (nI p)), some (.int y), some (.int (sPl s p))] [.int (-1)] (lm_T M1 v G) Q
      simp +decide only [actS, actB, actA, hx, cp, hd, if_true, if_false, Bool.and_true, Bool.true_and, Bool.and_self, Bool.false_and, Bool.and_false, Bool.false_eq_true] at hQ
      exact lm_G_re rfl trivial (Nat.le_of_ble_eq_true rfl) (Nat.le_of_ble_eq_true rfl) (hQ _ c1 f1)
    ·
      refine lm_G_sg 2 (pc' := 25) (L' := [some (.ref 0), some (.int (nI p)), some (.int y), some (.int (sPl s p))]) (S' := [.int 30, .int y]) (σ' := lm_T M v G) rfl trivial ?_
      refine lm_G_br (b := 30 < y) (t := 33) (S' := []) rfl (fun h2 => ?_) (fun h2 => ?_)
      ·
        have hd : dGo s p y = false := by
          unfold dGo inR
          rw [decide_eq_false (fun w => Int32.not_lt.mpr w.2 h2)]
          rfl
        refine lm_G_sg 1 (pc' := 34) (L' := [some (.ref 0), some (.int (nI p)), some (.int y), some (.int (sPl s p))]) (S' := [.ref 0]) (σ' := lm_T M v G) rfl trivial ?_
        refine lm_G_ca (j := 98) (as := [.ref 0]) (rest := []) rfl (Or.inl rfl) (Nat.le_of_ble_eq_true rfl) (Nat.le_of_ble_eq_true rfl) (Nat.le_of_ble_eq_true rfl) (Nat.le_of_ble_eq_true rfl) rfl ?_
        refine c_refuseAct hc0 (fun M1 c1 f1 => ?_)
        show lm_G X (d + 2) 96 106 1 6 37 [some (.ref 0), some (.int (nI p)), some (.int y), some (.int (sPl s p))] [.int (-1)] (lm_T M1 v G) Q
        simp +decide only [actS, actB, actA, hx, cp, hd, if_true, if_false, Bool.and_true, Bool.true_and, Bool.and_self, Bool.false_and, Bool.and_false, Bool.false_eq_true] at hQ
        exact lm_G_re rfl trivial (Nat.le_of_ble_eq_true rfl) (Nat.le_of_ble_eq_true rfl) (hQ _ c1 f1)
      ·
        refine lm_G_sg 2 (pc' := 30) (L' := [some (.ref 0), some (.int (nI p)), some (.int y), some (.int (sPl s p))]) (S' := [.int (sPl s p), .int y]) (σ' := lm_T M v G) rfl trivial ?_
        refine lm_G_br (b := ¬ y = (sPl s p)) (t := 38) (S' := []) rfl (fun h3 => ?_) (fun h3 => ?_)
        rotate_left
        ·
          have hd : dGo s p y = false := by
            unfold dGo
            rw [decide_eq_false h3, Bool.and_false]
          refine lm_G_sg 1 (pc' := 34) (L' := [some (.ref 0), some (.int (nI p)), some (.int y), some (.int (sPl s p))]) (S' := [.ref 0]) (σ' := lm_T M v G) rfl trivial ?_
          refine lm_G_ca (j := 98) (as := [.ref 0]) (rest := []) rfl (Or.inl rfl) (Nat.le_of_ble_eq_true rfl) (Nat.le_of_ble_eq_true rfl) (Nat.le_of_ble_eq_true rfl) (Nat.le_of_ble_eq_true rfl) rfl ?_
          refine c_refuseAct hc0 (fun M1 c1 f1 => ?_)
          show lm_G X (d + 2) 96 106 1 6 37 [some (.ref 0), some (.int (nI p)), some (.int y), some (.int (sPl s p))] [.int (-1)] (lm_T M1 v G) Q
          simp +decide only [actS, actB, actA, hx, cp, hd, if_true, if_false, Bool.and_true, Bool.true_and, Bool.and_self, Bool.false_and, Bool.and_false, Bool.false_eq_true] at hQ
          exact lm_G_re rfl trivial (Nat.le_of_ble_eq_true rfl) (Nat.le_of_ble_eq_true rfl) (hQ _ c1 f1)
        ·
          have hi : inR y 0 30 = true := decide_eq_true ⟨Int32.not_lt.mp h1, Int32.not_lt.mp h2⟩
          have hd : dGo s p y = true := by
            unfold dGo
            rw [hi, decide_eq_true h3]
            rfl
          simp +decide only [actS, actB, actA, hx, cp, hd, if_true, if_false, Bool.and_true, Bool.true_and, Bool.and_self, Bool.false_and, Bool.and_false, Bool.false_eq_true] at hQ
          refine lm_G_sg 4 (pc' := 46) (L' := [some (.ref 0), some (.int (nI p)), some (.int y), some (.int (sPl s p))]) (S' := [.ref 28, .ref 52]) (σ' := lm_T M v G) rfl trivial ?_
          refine lm_G_ca (j := 4) (as := [.ref 52, .ref 28]) (rest := []) rfl (Or.inl rfl) (Nat.le_of_ble_eq_true rfl) (Nat.le_of_ble_eq_true rfl) (Nat.le_of_ble_eq_true rfl) (Nat.le_of_ble_eq_true rfl) rfl ?_
          refine c_keep hF hc0 hA (fun M1 c1 f1 => ?_)
          show lm_G X (d + 2) 96 106 1 6 49 [some (.ref 0), some (.int (nI p)), some (.int y), some (.int (sPl s p))] [] (lm_T M1 v G) Q
          have h1 := c1.1
          refine lm_G_sg 4 (pc' := 55) (L' := [some (.ref 0), some (.int (nI p)), some (.int y), some (.int (sPl s p))]) (S' := [.int y, .int (nI p), .ref 28]) (σ' := lm_T M1 v G) rfl trivial ?_
          refine lm_G_ca (j := 64) (as := [.ref 28, .int (nI p), .int y]) (rest := []) rfl (Or.inl rfl) (Nat.le_of_ble_eq_true rfl) (Nat.le_of_ble_eq_true rfl) (Nat.le_of_ble_eq_true rfl) (Nat.le_of_ble_eq_true rfl) rfl ?_
          refine c_putAt28 hF h1 hp (fun M2 h2c k2 t2 => ?_)
          show lm_G X (d + 2) 96 106 1 6 58 [some (.ref 0), some (.int (nI p)), some (.int y), some (.int (sPl s p))] [] (lm_T M2 v G) Q
          refine lm_G_sg 1 (pc' := 59) (L' := [some (.ref 0), some (.int (nI p)), some (.int y), some (.int (sPl s p))]) (S' := [.int (sPl s p)]) (σ' := lm_T M2 v G) rfl trivial ?_
          exact lm_G_re rfl trivial (Nat.le_of_ble_eq_true rfl) (Nat.le_of_ble_eq_true rfl) (hQ _ ⟨h2c, (k2.2 12 (by decide) (by decide)).trans c1.2.1, CB_fr c1.2.2 (k2.1 52 rfl) (k2.1 54 rfl) (k2.1 55 rfl) (k2.1 56 rfl)⟩ (Fr_tr f1 (FG_put k2)))
set_option maxRecDepth 10000 in
theorem m_go {X : lm_X} {d v : Nat} {M : Nat → Nat → Int32} {G : Nat → Nat → Int64} {Q : lm_O → lm_S → Prop} {F : Fa} {s : Sc} {B : Bk} {x y : Int32} (hF : okF F) (hm0 : MS M F s B) (hs : okS F s) (hA : bkA B ≤ 40) (hQ : ∀ M1, MS M1 F (actS (isP (fN F) x && dGo s x.toNatClampNeg y) s (plS s x.toNatClampNeg y)) (actB (isP (fN F) x) (isP (fN F) x && dGo s x.toNatClampNeg y) B s) → FrH M M1 → M1 64 4 = cd (actA (isP (fN F) x) (isP (fN F) x && dGo s x.toNatClampNeg y) (sPl s x.toNatClampNeg)) → Q (.inl (some (.int (vl (actA (isP (fN F) x) (isP (fN F) x && dGo s x.toNatClampNeg y) (sPl s x.toNatClampNeg)))))) (lm_T M1 v G)) : lm_Q X (d + 2) 210 [.ref 64, .int x, .int y] (lm_T M v G) Q := by
  have hn := hF.n
  have hm := hF.m
  show lm_G X (d + 2) 210 106 0 0 0 [some (.ref 64), some (.int x), some (.int y), none] [] (lm_T M v G) Q
  refine lm_G_sg 3 (pc' := 5) (L' := [some (.ref 64), some (.int x), some (.int y), none]) (S' := []) (σ' := lm_T (lm_wr M 64 4 0) v G) rfl ⟨trivial, trivial, trivial⟩ ?_
  have m0 : MS (lm_wr M 64 4 0) F s B := MS_4 hm0 0
  have f0 : FrH M (lm_wr M 64 4 0) := FrH_w64 (FrH_rf _) (Or.inl rfl)
  have c0 : (lm_wr M 64 4 0) 64 4 = 0 := wr_same
  revert m0 f0 c0
  generalize lm_wr M 64 4 0 = M0
  intro m0 f0 c0
  have h0 := m0.1
  refine lm_G_sg 2 (pc' := 7) (L' := [some (.ref 64), some (.int x), some (.int y), none]) (S' := [.int x, .ref 64]) (σ' := lm_T M0 v G) rfl trivial ?_
  refine lm_G_ca (j := 145) (as := [.ref 64, .int x]) (rest := []) rfl (Or.inl rfl) (Nat.le_of_ble_eq_true rfl) (Nat.le_of_ble_eq_true rfl) (Nat.le_of_ble_eq_true rfl) (Nat.le_of_ble_eq_true rfl) rfl ?_
  refine m_isPerson hF h0 ?_
  show lm_G X (d + 2) 210 106 0 0 10 [some (.ref 64), some (.int x), some (.int y), none] [.int (b2i (isP (fN F) x))] (lm_T M0 v G) Q
  refine lm_G_br (b := ¬ (b2i (isP (fN F) x)) = 0) (t := 19) (S' := []) rfl (fun hx => ?_) (fun hx => ?_)
  rotate_left
  ·
    replace hx := b2i_0 (Classical.not_not.mp hx)
    refine lm_G_sg 2 (pc' := 15) (L' := [some (.ref 64), some (.int x), some (.int y), none]) (S' := [.int 1, .ref 64]) (σ' := lm_T M0 v G) rfl trivial ?_
    refine lm_G_ca (j := 141) (as := [.ref 64, .int 1]) (rest := []) rfl (Or.inl rfl) (Nat.le_of_ble_eq_true rfl) (Nat.le_of_ble_eq_true rfl) (Nat.le_of_ble_eq_true rfl) (Nat.le_of_ble_eq_true rfl) rfl ?_
    refine m_fail ?_
    show lm_G X (d + 2) 210 106 0 0 18 [some (.ref 64), some (.int x), some (.int y), none] [.int 0] (lm_T (lm_wr M0 64 4 1) v G) Q
    simp +decide only [actS, actB, actA, hx, if_true, if_false, Bool.and_true, Bool.true_and, Bool.and_self, Bool.false_and, Bool.and_false, Bool.false_eq_true] at hQ
    exact lm_G_re rfl trivial (Nat.zero_le _) (Nat.zero_le _) (hQ _ (MS_4 m0 1) (FrH_w64 f0 (Or.inl rfl)) wr_same)
  ·
    replace hx := b2i_1 hx
    obtain ⟨p, hp, rfl⟩ := isP_nI hx (by omega)
    have cp : (nI p).toNatClampNeg = p := nI_clamp (by omega)
    refine lm_G_sg 4 (pc' := 25) (L' := [some (.ref 64), some (.int (nI p)), some (.int y), none]) (S' := [.int (M0 85 (nI p).toNatClampNeg)]) (σ' := lm_T M0 v G) rfl ⟨(vp_in_nI (by omega) (by omega)), trivial, trivial⟩ ?_
    rw [show (nI p).toNatClampNeg = p from nI_clamp (by omega)]
    rw [show M0 85 p = sPl s p from h0.pl p (by omega)]
    refine lm_G_sg 5 (pc' := 32) (L' := [some (.ref 64), some (.int (nI p)), some (.int y), some (.int (sPl s p))]) (S' := [.long 30, .long 0, .long y.toInt64]) (σ' := lm_T M0 v G) rfl trivial ?_
    refine lm_G_ca (j := 142) (as := [.long y.toInt64, .long 0, .long 30]) (rest := []) rfl (Or.inl rfl) (Nat.le_of_ble_eq_true rfl) (Nat.le_of_ble_eq_true rfl) (Nat.le_of_ble_eq_true rfl) (Nat.le_of_ble_eq_true rfl) rfl ?_
    refine c_isIn ?_
    show lm_G X (d + 2) 210 106 0 0 35 [some (.ref 64), some (.int (nI p)), some (.int y), some (.int (sPl s p))] [.int (b2i (inL (y.toInt64) 0 30))] (lm_T M0 v G) Q
    rw [show inL (y.toInt64) 0 30 = inR y 0 30 from (inL_R y 0 30)]
    refine lm_G_br (b := (b2i (inR y 0 30)) = 0) (t := 43) (S' := []) rfl (fun h1 => ?_) (fun h1 => ?_)
    ·
      have hd : dGo s p y = false := by
        unfold dGo
        rw [b2i_0 h1]
        rfl
      refine lm_G_sg 2 (pc' := 45) (L' := [some (.ref 64), some (.int (nI p)), some (.int y), some (.int (sPl s p))]) (S' := [.int 1, .ref 64]) (σ' := lm_T M0 v G) rfl trivial ?_
      refine lm_G_ca (j := 204) (as := [.ref 64, .int 1]) (rest := []) rfl (Or.inl rfl) (Nat.le_of_ble_eq_true rfl) (Nat.le_of_ble_eq_true rfl) (Nat.le_of_ble_eq_true rfl) (Nat.le_of_ble_eq_true rfl) rfl ?_
      refine m_refuse4 (j := 1) (by omega) m0 (fun M1 m1 k1 e1 => ?_)
      show lm_G X (d + 2) 210 106 0 0 48 [some (.ref 64), some (.int (nI p)), some (.int y), some (.int (sPl s p))] [.int (-1)] (lm_T M1 v G) Q
      simp +decide only [actS, actB, actA, hx, cp, hd, if_true, if_false, Bool.and_true, Bool.true_and, Bool.and_self, Bool.false_and, Bool.and_false, Bool.false_eq_true] at hQ
      exact lm_G_re rfl trivial (Nat.zero_le _) (Nat.zero_le _) (hQ _ m1 (FrH_tr f0 k1) (e1.trans c0))
    ·
      refine lm_G_sg 2 (pc' := 40) (L' := [some (.ref 64), some (.int (nI p)), some (.int y), some (.int (sPl s p))]) (S' := [.int (sPl s p), .int y]) (σ' := lm_T M0 v G) rfl trivial ?_
      refine lm_G_br (b := ¬ y = (sPl s p)) (t := 49) (S' := []) rfl (fun h3 => ?_) (fun h3 => ?_)
      rotate_left
      ·
        have hd : dGo s p y = false := by
          unfold dGo
          rw [decide_eq_false h3, Bool.and_false]
        refine lm_G_sg 2 (pc' := 45) (L' := [some (.ref 64), some (.int (nI p)), some (.int y), some (.int (sPl s p))]) (S' := [.int 1, .ref 64]) (σ' := lm_T M0 v G) rfl trivial ?_
        refine lm_G_ca (j := 204) (as := [.ref 64, .int 1]) (rest := []) rfl (Or.inl rfl) (Nat.le_of_ble_eq_true rfl) (Nat.le_of_ble_eq_true rfl) (Nat.le_of_ble_eq_true rfl) (Nat.le_of_ble_eq_true rfl) rfl ?_
        refine m_refuse4 (j := 1) (by omega) m0 (fun M1 m1 k1 e1 => ?_)
        show lm_G X (d + 2) 210 106 0 0 48 [some (.ref 64), some (.int (nI p)), some (.int y), some (.int (sPl s p))] [.int (-1)] (lm_T M1 v G) Q
        simp +decide only [actS, actB, actA, hx, cp, hd, if_true, if_false, Bool.and_true, Bool.true_and, Bool.and_self, Bool.false_and, Bool.and_false, Bool.false_eq_true] at hQ
        exact lm_G_re rfl trivial (Nat.zero_le _) (Nat.zero_le _) (hQ _ m1 (FrH_tr f0 k1) (e1.trans c0))
      ·
        have hd : dGo s p y = true := by
          unfold dGo
          rw [b2i_1 h1, decide_eq_true h3]
          rfl
        simp +decide only [actS, actB, actA, hx, cp, hd, if_true, if_false, Bool.and_true, Bool.true_and, Bool.and_self, Bool.false_and, Bool.and_false, Bool.false_eq_true] at hQ
        refine lm_G_sg 1 (pc' := 50) (L' := [some (.ref 64), some (.int (nI p)), some (.int y), some (.int (sPl s p))]) (S' := [.ref 64]) (σ' := lm_T M0 v G) rfl trivial ?_
        refine lm_G_ca (j := 205) (as := [.ref 64]) (rest := []) rfl (Or.inl rfl) (Nat.le_of_ble_eq_true rfl) (Nat.le_of_ble_eq_true rfl) (Nat.le_of_ble_eq_true rfl) (Nat.le_of_ble_eq_true rfl) rfl ?_
        refine m_keep4 hF m0 hA (fun M1 m1 k1 e1 => ?_)
        show lm_G X (d + 2) 210 106 0 0 53 [some (.ref 64), some (.int (nI p)), some (.int y), some (.int (sPl s p))] [] (lm_T M1 v G) Q
        have h1 := m1.1
        have f1 := FrH_tr f0 k1
        have c1 := e1.trans c0
        refine lm_G_sg 5 (pc' := 60) (L' := [some (.ref 64), some (.int (nI p)), some (.int y), some (.int (sPl s p))]) (S' := []) (σ' := lm_T (lm_wr M1 85 ((nI p).toNatClampNeg) y) v G) rfl ⟨(vp_in_nI (by omega) (by omega)), trivial, trivial⟩ ?_
        rw [show (nI p).toNatClampNeg = p from nI_clamp (by omega)]
        refine lm_G_sg 1 (pc' := 61) (L' := [some (.ref 64), some (.int (nI p)), some (.int y), some (.int (sPl s p))]) (S' := [.int (sPl s p)]) (σ' := lm_T (lm_wr M1 85 p y) v G) rfl trivial ?_
        exact lm_G_re rfl trivial (Nat.zero_le _) (Nat.zero_le _) (hQ _ ⟨RM_pl m1.1 p y, m1.2.1, MB_fr m1.2.2 rfl rfl rfl rfl rfl rfl rfl⟩ (FrH_wr f1 rfl (by decide)) c1)
set_option maxRecDepth 10000 in
theorem c_sell {X : lm_X} {d v : Nat} {M : Nat → Nat → Int32} {G : Nat → Nat → Int64} {Q : lm_O → lm_S → Prop} {F : Fa} {s : Sc} {B : Bk} {x y : Int32} (hF : okF F) (hc0 : CS M F s B) (hs : okS F s) (hA : bkA B ≤ 40) (hQ : ∀ M1, CS M1 F (actS ((isP (fM F) x && isP (fN F) y) && dSell F s x.toNatClampNeg y.toNatClampNeg) s (coS (ownT s x.toNatClampNeg y) y.toNatClampNeg (sOw s x.toNatClampNeg).toNatClampNeg)) (actB (isP (fM F) x && isP (fN F) y) ((isP (fM F) x && isP (fN F) y) && dSell F s x.toNatClampNeg y.toNatClampNeg) B s) → Fr frG M M1 → Q (cO (actA (isP (fM F) x && isP (fN F) y) ((isP (fM F) x && isP (fN F) y) && dSell F s x.toNatClampNeg y.toNatClampNeg) (sOw s x.toNatClampNeg))) (lm_T M1 v G)) : lm_Q X (d + 2) 95 [.ref 0, .int x, .int y] (lm_T M v G) Q := by
  have hn := hF.n
  have hm := hF.m
  have h := hc0.1
  show lm_G X (d + 2) 95 106 0 0 0 [some (.ref 0), some (.int x), some (.int y), none] [] (lm_T M v G) Q
  refine lm_G_sg 2 (pc' := 2) (L' := [some (.ref 0), some (.int x), some (.int y), none]) (S' := [.int x, .ref 0]) (σ' := lm_T M v G) rfl trivial ?_
  refine lm_G_ca (j := 134) (as := [.ref 0, .int x]) (rest := []) rfl (Or.inl rfl) (Nat.le_of_ble_eq_true rfl) (Nat.le_of_ble_eq_true rfl) (Nat.le_of_ble_eq_true rfl) (Nat.le_of_ble_eq_true rfl) rfl ?_
  refine c_isTune hF h ?_
  show lm_G X (d + 2) 95 106 0 0 5 [some (.ref 0), some (.int x), some (.int y), none] [.int (b2i (isP (fM F) x))] (lm_T M v G) Q
  refine lm_G_br (b := (b2i (isP (fM F) x)) = 0) (t := 20) (S' := []) rfl (fun hx => ?_) (fun hx => ?_)
  ·
    replace hx := b2i_0 hx
    refine lm_G_sg 1 (pc' := 21) (L' := [some (.ref 0), some (.int x), some (.int y), none]) (S' := [.int 0]) (σ' := lm_T M v G) rfl trivial ?_
    simp +decide only [actS, actB, actA, hx, if_true, if_false, Bool.and_true, Bool.true_and, Bool.and_self, Bool.false_and, Bool.and_false, Bool.false_eq_true] at hQ
    refine lm_G_ca (j := 137) (as := [.int 0]) (rest := []) rfl (Or.inl rfl) (Nat.le_of_ble_eq_true rfl) (Nat.le_of_ble_eq_true rfl) (Nat.le_of_ble_eq_true rfl) (Nat.le_of_ble_eq_true rfl) rfl ?_
    exact c_mustExistF ⟨by decide, rfl, hQ M hc0 (Fr_rf _ _)⟩
  ·
    replace hx := b2i_1 hx
    refine lm_G_sg 2 (pc' := 10) (L' := [some (.ref 0), some (.int x), some (.int y), none]) (S' := [.int y, .ref 0]) (σ' := lm_T M v G) rfl trivial ?_
    refine lm_G_ca (j := 133) (as := [.ref 0, .int y]) (rest := []) rfl (Or.inl rfl) (Nat.le_of_ble_eq_true rfl) (Nat.le_of_ble_eq_true rfl) (Nat.le_of_ble_eq_true rfl) (Nat.le_of_ble_eq_true rfl) rfl ?_
    refine c_isPerson hF h ?_
    show lm_G X (d + 2) 95 106 0 0 13 [some (.ref 0), some (.int x), some (.int y), none] [.int (b2i (isP (fN F) y))] (lm_T M v G) Q
    refine lm_G_br (b := (b2i (isP (fN F) y)) = 0) (t := 20) (S' := []) rfl (fun hy => ?_) (fun hy => ?_)
    ·
      replace hy := b2i_0 hy
      refine lm_G_sg 1 (pc' := 21) (L' := [some (.ref 0), some (.int x), some (.int y), none]) (S' := [.int 0]) (σ' := lm_T M v G) rfl trivial ?_
      simp +decide only [actS, actB, actA, hy, hx, if_true, if_false, Bool.and_true, Bool.true_and, Bool.and_self, Bool.false_and, Bool.and_false, Bool.false_eq_true] at hQ
      refine lm_G_ca (j := 137) (as := [.int 0]) (rest := []) rfl (Or.inl rfl) (Nat.le_of_ble_eq_true rfl) (Nat.le_of_ble_eq_true rfl) (Nat.le_of_ble_eq_true rfl) (Nat.le_of_ble_eq_true rfl) rfl ?_
      exact c_mustExistF ⟨by decide, rfl, hQ M hc0 (Fr_rf _ _)⟩
    ·
      replace hy := b2i_1 hy
      refine lm_G_sg 2 (pc' := 21) (L' := [some (.ref 0), some (.int x), some (.int y), none]) (S' := [.int 1]) (σ' := lm_T M v G) rfl trivial ?_
      refine lm_G_ca (j := 137) (as := [.int 1]) (rest := []) rfl (Or.inl rfl) (Nat.le_of_ble_eq_true rfl) (Nat.le_of_ble_eq_true rfl) (Nat.le_of_ble_eq_true rfl) (Nat.le_of_ble_eq_true rfl) rfl ?_
      refine c_mustExistT ?_
      show lm_G X (d + 2) 95 106 1 6 24 [some (.ref 0), some (.int x), some (.int y), none] [] (lm_T M v G) Q
      obtain ⟨t, ht, rfl⟩ := isP_nI hx (by omega)
      have ct : (nI t).toNatClampNeg = t := nI_clamp (by omega)
      obtain ⟨p, hp, rfl⟩ := isP_nI hy (by omega)
      have cp : (nI p).toNatClampNeg = p := nI_clamp (by omega)
      refine lm_G_sg 5 (pc' := 33) (L' := [some (.ref 0), some (.int (nI t)), some (.int (nI p)), none]) (S' := [.int (M 35 (nI t).toNatClampNeg)]) (σ' := lm_T M v G) rfl ⟨(vp_in_nI (by omega) (by omega)), trivial, trivial⟩ ?_
      rw [show (nI t).toNatClampNeg = t from nI_clamp (by omega)]
      rw [show M 35 t = sOw s t from h.ow t (by omega)]
      refine lm_G_sg 3 (pc' := 36) (L' := [some (.ref 0), some (.int (nI t)), some (.int (nI p)), some (.int (sOw s t))]) (S' := [.int (-1), .int (sOw s t)]) (σ' := lm_T M v G) rfl trivial ?_
      refine lm_G_br (b := (sOw s t) = (-1)) (t := 68) (S' := []) rfl (fun h1 => ?_) (fun h1 => ?_)
      ·
        have hd : dSell F s t p = false := by
          unfold dSell
          rw [decide_eq_false (fun w => w h1)]
          rfl
        refine lm_G_sg 1 (pc' := 69) (L' := [some (.ref 0), some (.int (nI t)), some (.int (nI p)), some (.int (sOw s t))]) (S' := [.ref 0]) (σ' := lm_T M v G) rfl trivial ?_
        refine lm_G_ca (j := 98) (as := [.ref 0]) (rest := []) rfl (Or.inl rfl) (Nat.le_of_ble_eq_true rfl) (Nat.le_of_ble_eq_true rfl) (Nat.le_of_ble_eq_true rfl) (Nat.le_of_ble_eq_true rfl) rfl ?_
        refine c_refuseAct hc0 (fun M1 c1 f1 => ?_)
        show lm_G X (d + 2) 95 106 1 6 72 [some (.ref 0), some (.int (nI t)), some (.int (nI p)), some (.int (sOw s t))] [.int (-1)] (lm_T M1 v G) Q
        simp +decide only [actS, actB, actA, hx, hy, ct, cp, hd, if_true, if_false, Bool.and_true, Bool.true_and, Bool.and_self, Bool.false_and, Bool.and_false, Bool.false_eq_true] at hQ
        exact lm_G_re rfl trivial (Nat.le_of_ble_eq_true rfl) (Nat.le_of_ble_eq_true rfl) (hQ _ c1 f1)
      ·
        refine lm_G_sg 5 (pc' := 48) (L' := [some (.ref 0), some (.int (nI t)), some (.int (nI p)), some (.int (sOw s t))]) (S' := [.int (M 36 (nI t).toNatClampNeg)]) (σ' := lm_T M v G) rfl ⟨(vp_in_nI (by omega) (by omega)), trivial, trivial⟩ ?_
        rw [show (nI t).toNatClampNeg = t from nI_clamp (by omega)]
        rw [show M 36 t = humS F (sHu s) (nI t) from h.hs t (by omega)]
        refine lm_G_br (b := ¬ (humS F (sHu s) (nI t)) = 0) (t := 68) (S' := []) rfl (fun h2 => ?_) (fun h2 => ?_)
        ·
          have hd : dSell F s t p = false := by
            unfold dSell
            rw [decide_eq_false h2, Bool.false_and, Bool.and_false]
          refine lm_G_sg 1 (pc' := 69) (L' := [some (.ref 0), some (.int (nI t)), some (.int (nI p)), some (.int (sOw s t))]) (S' := [.ref 0]) (σ' := lm_T M v G) rfl trivial ?_
          refine lm_G_ca (j := 98) (as := [.ref 0]) (rest := []) rfl (Or.inl rfl) (Nat.le_of_ble_eq_true rfl) (Nat.le_of_ble_eq_true rfl) (Nat.le_of_ble_eq_true rfl) (Nat.le_of_ble_eq_true rfl) rfl ?_
          refine c_refuseAct hc0 (fun M1 c1 f1 => ?_)
          show lm_G X (d + 2) 95 106 1 6 72 [some (.ref 0), some (.int (nI t)), some (.int (nI p)), some (.int (sOw s t))] [.int (-1)] (lm_T M1 v G) Q
          simp +decide only [actS, actB, actA, hx, hy, ct, cp, hd, if_true, if_false, Bool.and_true, Bool.true_and, Bool.and_self, Bool.false_and, Bool.and_false, Bool.false_eq_true] at hQ
          exact lm_G_re rfl trivial (Nat.le_of_ble_eq_true rfl) (Nat.le_of_ble_eq_true rfl) (hQ _ c1 f1)
        ·
          refine lm_G_sg 2 (pc' := 53) (L' := [some (.ref 0), some (.int (nI t)), some (.int (nI p)), some (.int (sOw s t))]) (S' := [.int (nI p), .int (sOw s t)]) (σ' := lm_T M v G) rfl trivial ?_
          refine lm_G_br (b := (sOw s t) = (nI p)) (t := 68) (S' := []) rfl (fun h3 => ?_) (fun h3 => ?_)
          ·
            have hd : dSell F s t p = false := by
              unfold dSell
              rw [decide_eq_false (p := sOw s t ≠ nI p) (fun w => w h3), Bool.false_and, Bool.and_false, Bool.and_false]
            refine lm_G_sg 1 (pc' := 69) (L' := [some (.ref 0), some (.int (nI t)), some (.int (nI p)), some (.int (sOw s t))]) (S' := [.ref 0]) (σ' := lm_T M v G) rfl trivial ?_
            refine lm_G_ca (j := 98) (as := [.ref 0]) (rest := []) rfl (Or.inl rfl) (Nat.le_of_ble_eq_true rfl) (Nat.le_of_ble_eq_true rfl) (Nat.le_of_ble_eq_true rfl) (Nat.le_of_ble_eq_true rfl) rfl ?_
            refine c_refuseAct hc0 (fun M1 c1 f1 => ?_)
            show lm_G X (d + 2) 95 106 1 6 72 [some (.ref 0), some (.int (nI t)), some (.int (nI p)), some (.int (sOw s t))] [.int (-1)] (lm_T M1 v G) Q
            simp +decide only [actS, actB, actA, hx, hy, ct, cp, hd, if_true, if_false, Bool.and_true, Bool.true_and, Bool.and_self, Bool.false_and, Bool.and_false, Bool.false_eq_true] at hQ
            exact lm_G_re rfl trivial (Nat.le_of_ble_eq_true rfl) (Nat.le_of_ble_eq_true rfl) (hQ _ c1 f1)
          ·
            refine lm_G_sg 5 (pc' := 65) (L' := [some (.ref 0), some (.int (nI t)), some (.int (nI p)), some (.int (sOw s t))]) (S' := [.int (M 31 (nI p).toNatClampNeg)]) (σ' := lm_T M v G) rfl ⟨(vp_in_nI (by omega) (by omega)), trivial, trivial⟩ ?_
            rw [show (nI p).toNatClampNeg = p from nI_clamp (by omega)]
            rw [show M 31 p = sCo s p from h.co p (by omega)]
            refine lm_G_br (b := ¬ (sCo s p) = 0) (t := 73) (S' := []) rfl (fun h4 => ?_) (fun h4 => ?_)
            rotate_left
            ·
              have hd : dSell F s t p = false := by
                unfold dSell
                rw [decide_eq_false (p := sCo s p ≠ 0) h4, Bool.and_false, Bool.and_false, Bool.and_false]
              refine lm_G_sg 1 (pc' := 69) (L' := [some (.ref 0), some (.int (nI t)), some (.int (nI p)), some (.int (sOw s t))]) (S' := [.ref 0]) (σ' := lm_T M v G) rfl trivial ?_
              refine lm_G_ca (j := 98) (as := [.ref 0]) (rest := []) rfl (Or.inl rfl) (Nat.le_of_ble_eq_true rfl) (Nat.le_of_ble_eq_true rfl) (Nat.le_of_ble_eq_true rfl) (Nat.le_of_ble_eq_true rfl) rfl ?_
              refine c_refuseAct hc0 (fun M1 c1 f1 => ?_)
              show lm_G X (d + 2) 95 106 1 6 72 [some (.ref 0), some (.int (nI t)), some (.int (nI p)), some (.int (sOw s t))] [.int (-1)] (lm_T M1 v G) Q
              simp +decide only [actS, actB, actA, hx, hy, ct, cp, hd, if_true, if_false, Bool.and_true, Bool.true_and, Bool.and_self, Bool.false_and, Bool.and_false, Bool.false_eq_true] at hQ
              exact lm_G_re rfl trivial (Nat.le_of_ble_eq_true rfl) (Nat.le_of_ble_eq_true rfl) (hQ _ c1 f1)
            ·
              have hd : dSell F s t p = true := by
                unfold dSell
                rw [decide_eq_true h1, decide_eq_true (Classical.not_not.mp h2), decide_eq_true h3, decide_eq_true h4]
                rfl
              obtain ⟨q, hq, eq⟩ := (hs.2.1 t ht).resolve_left h1
              have cq : (sOw s t).toNatClampNeg = q := by rw [eq]; exact nI_clamp (by omega)
              simp +decide only [actS, actB, actA, hx, hy, ct, cp, hd, cq, if_true, if_false, Bool.and_true, Bool.true_and, Bool.and_self, Bool.false_and, Bool.and_false, Bool.false_eq_true] at hQ
              refine lm_G_sg 4 (pc' := 81) (L' := [some (.ref 0), some (.int (nI t)), some (.int (nI p)), some (.int (sOw s t))]) (S' := [.ref 28, .ref 52]) (σ' := lm_T M v G) rfl trivial ?_
              refine lm_G_ca (j := 4) (as := [.ref 52, .ref 28]) (rest := []) rfl (Or.inl rfl) (Nat.le_of_ble_eq_true rfl) (Nat.le_of_ble_eq_true rfl) (Nat.le_of_ble_eq_true rfl) (Nat.le_of_ble_eq_true rfl) rfl ?_
              refine c_keep hF hc0 hA (fun M1 c1 f1 => ?_)
              show lm_G X (d + 2) 95 106 1 6 84 [some (.ref 0), some (.int (nI t)), some (.int (nI p)), some (.int (sOw s t))] [] (lm_T M1 v G) Q
              have h1 := c1.1
              refine lm_G_sg 4 (pc' := 90) (L' := [some (.ref 0), some (.int (nI t)), some (.int (nI p)), some (.int (sOw s t))]) (S' := [.int (nI p), .int (nI t), .ref 28]) (σ' := lm_T M1 v G) rfl trivial ?_
              refine lm_G_ca (j := 65) (as := [.ref 28, .int (nI t), .int (nI p)]) (rest := []) rfl (Or.inl rfl) (Nat.le_of_ble_eq_true rfl) (Nat.le_of_ble_eq_true rfl) (Nat.le_of_ble_eq_true rfl) (Nat.le_of_ble_eq_true rfl) rfl ?_
              refine c_giveTo28 hF c1.1 ht (fun M2 h2c k2 t2 => ?_)
              show lm_G X (d + 2) 95 106 1 6 93 [some (.ref 0), some (.int (nI t)), some (.int (nI p)), some (.int (sOw s t))] [] (lm_T M2 v G) Q
              rw [eq]
              refine lm_G_sg 6 (pc' := 103) (L' := [some (.ref 0), some (.int (nI t)), some (.int (nI p)), some (.int (nI q))]) (S' := [.int (M2 31 (nI p).toNatClampNeg), .int (nI p), .ref 31]) (σ' := lm_T M2 v G) rfl ⟨(vp_in_nI (by omega) (by omega)), trivial, trivial⟩ ?_
              rw [show (nI p).toNatClampNeg = p from nI_clamp (by omega)]
              rw [show M2 31 p = sCo (ownT s t (nI p)) p from h2c.co p (by omega)]
              refine lm_G_sg 3 (pc' := 106) (L' := [some (.ref 0), some (.int (nI t)), some (.int (nI p)), some (.int (nI q))]) (S' := []) (σ' := lm_T (lm_wr M2 31 ((nI p).toNatClampNeg) ((sCo (ownT s t (nI p)) p) - 1)) v G) rfl ⟨(vp_in_nI (by omega) (by omega)), trivial, trivial⟩ ?_
              rw [show (nI p).toNatClampNeg = p from nI_clamp (by omega)]
              refine lm_G_sg 6 (pc' := 116) (L' := [some (.ref 0), some (.int (nI t)), some (.int (nI p)), some (.int (nI q))]) (S' := [.int ((lm_wr M2 31 p ((sCo (ownT s t (nI p)) p) - 1)) 31 (nI q).toNatClampNeg), .int (nI q), .ref 31]) (σ' := lm_T (lm_wr M2 31 p ((sCo (ownT s t (nI p)) p) - 1)) v G) rfl ⟨(vp_in_nI (by omega) (by omega)), trivial, trivial⟩ ?_
              rw [show (nI q).toNatClampNeg = q from nI_clamp (by omega)]
              show lm_G X (d + 2) 95 106 1 6 116 [some (.ref 0), some (.int (nI t)), some (.int (nI p)), some (.int (nI q))] [.int ((lm_wr M2 31 p ((sCo (ownT s t (nI p)) p) - 1)) 31 q), .int (nI q), .ref 31] (lm_T (lm_wr M2 31 p ((sCo (ownT s t (nI p)) p) - 1)) v G) Q
              refine lm_G_sg 3 (pc' := 119) (L' := [some (.ref 0), some (.int (nI t)), some (.int (nI p)), some (.int (nI q))]) (S' := []) (σ' := lm_T (lm_wr (lm_wr M2 31 p ((sCo (ownT s t (nI p)) p) - 1)) 31 ((nI q).toNatClampNeg) (((lm_wr M2 31 p ((sCo (ownT s t (nI p)) p) - 1)) 31 q) + 1)) v G) rfl ⟨(vp_in_nI (by omega) (by omega)), trivial, trivial⟩ ?_
              rw [show (nI q).toNatClampNeg = q from nI_clamp (by omega)]
              refine lm_G_sg 1 (pc' := 120) (L' := [some (.ref 0), some (.int (nI t)), some (.int (nI p)), some (.int (nI q))]) (S' := [.int (nI q)]) (σ' := lm_T (lm_wr (lm_wr M2 31 p ((sCo (ownT s t (nI p)) p) - 1)) 31 q (((lm_wr M2 31 p ((sCo (ownT s t (nI p)) p) - 1)) 31 q) + 1)) v G) rfl trivial ?_
              have h3c := RC_cow hF h2c hp hq
              skip
              exact lm_G_re rfl trivial (Nat.le_of_ble_eq_true rfl) (Nat.le_of_ble_eq_true rfl) (by rw [eq] at hQ; exact hQ _ ⟨h3c, (k2.2 12 (by decide) (by decide)).trans c1.2.1, CB_fr (CB_C c1.2.2 k2) rfl rfl rfl rfl⟩ (Fr_wr (Fr_wr (Fr_tr f1 (FG_W k2)) rfl) rfl))
set_option maxRecDepth 10000 in
theorem m_sell {X : lm_X} {d v : Nat} {M : Nat → Nat → Int32} {G : Nat → Nat → Int64} {Q : lm_O → lm_S → Prop} {F : Fa} {s : Sc} {B : Bk} {x y : Int32} (hF : okF F) (hm0 : MS M F s B) (hs : okS F s) (hA : bkA B ≤ 40) (hQ : ∀ M1, MS M1 F (actS ((isP (fM F) x && isP (fN F) y) && dSell F s x.toNatClampNeg y.toNatClampNeg) s (coS (ownT s x.toNatClampNeg y) y.toNatClampNeg (sOw s x.toNatClampNeg).toNatClampNeg)) (actB (isP (fM F) x && isP (fN F) y) ((isP (fM F) x && isP (fN F) y) && dSell F s x.toNatClampNeg y.toNatClampNeg) B s) → FrH M M1 → M1 64 4 = cd (actA (isP (fM F) x && isP (fN F) y) ((isP (fM F) x && isP (fN F) y) && dSell F s x.toNatClampNeg y.toNatClampNeg) (sOw s x.toNatClampNeg)) → Q (.inl (some (.int (vl (actA (isP (fM F) x && isP (fN F) y) ((isP (fM F) x && isP (fN F) y) && dSell F s x.toNatClampNeg y.toNatClampNeg) (sOw s x.toNatClampNeg)))))) (lm_T M1 v G)) : lm_Q X (d + 2) 209 [.ref 64, .int x, .int y] (lm_T M v G) Q := by
  have hn := hF.n
  have hm := hF.m
  show lm_G X (d + 2) 209 106 0 0 0 [some (.ref 64), some (.int x), some (.int y), none] [] (lm_T M v G) Q
  refine lm_G_sg 3 (pc' := 5) (L' := [some (.ref 64), some (.int x), some (.int y), none]) (S' := []) (σ' := lm_T (lm_wr M 64 4 0) v G) rfl ⟨trivial, trivial, trivial⟩ ?_
  have m0 : MS (lm_wr M 64 4 0) F s B := MS_4 hm0 0
  have f0 : FrH M (lm_wr M 64 4 0) := FrH_w64 (FrH_rf _) (Or.inl rfl)
  have c0 : (lm_wr M 64 4 0) 64 4 = 0 := wr_same
  revert m0 f0 c0
  generalize lm_wr M 64 4 0 = M0
  intro m0 f0 c0
  have h0 := m0.1
  refine lm_G_sg 2 (pc' := 7) (L' := [some (.ref 64), some (.int x), some (.int y), none]) (S' := [.int x, .ref 64]) (σ' := lm_T M0 v G) rfl trivial ?_
  refine lm_G_ca (j := 146) (as := [.ref 64, .int x]) (rest := []) rfl (Or.inl rfl) (Nat.le_of_ble_eq_true rfl) (Nat.le_of_ble_eq_true rfl) (Nat.le_of_ble_eq_true rfl) (Nat.le_of_ble_eq_true rfl) rfl ?_
  refine m_isTune hF h0 ?_
  show lm_G X (d + 2) 209 106 0 0 10 [some (.ref 64), some (.int x), some (.int y), none] [.int (b2i (isP (fM F) x))] (lm_T M0 v G) Q
  refine lm_G_br (b := (b2i (isP (fM F) x)) = 0) (t := 21) (S' := []) rfl (fun hx => ?_) (fun hx => ?_)
  ·
    replace hx := b2i_0 hx
    refine lm_G_sg 2 (pc' := 23) (L' := [some (.ref 64), some (.int x), some (.int y), none]) (S' := [.int 1, .ref 64]) (σ' := lm_T M0 v G) rfl trivial ?_
    refine lm_G_ca (j := 141) (as := [.ref 64, .int 1]) (rest := []) rfl (Or.inl rfl) (Nat.le_of_ble_eq_true rfl) (Nat.le_of_ble_eq_true rfl) (Nat.le_of_ble_eq_true rfl) (Nat.le_of_ble_eq_true rfl) rfl ?_
    refine m_fail ?_
    show lm_G X (d + 2) 209 106 0 0 26 [some (.ref 64), some (.int x), some (.int y), none] [.int 0] (lm_T (lm_wr M0 64 4 1) v G) Q
    simp +decide only [actS, actB, actA, hx, if_true, if_false, Bool.and_true, Bool.true_and, Bool.and_self, Bool.false_and, Bool.and_false, Bool.false_eq_true] at hQ
    exact lm_G_re rfl trivial (Nat.zero_le _) (Nat.zero_le _) (hQ _ (MS_4 m0 1) (FrH_w64 f0 (Or.inl rfl)) wr_same)
  ·
    replace hx := b2i_1 hx
    refine lm_G_sg 2 (pc' := 15) (L' := [some (.ref 64), some (.int x), some (.int y), none]) (S' := [.int y, .ref 64]) (σ' := lm_T M0 v G) rfl trivial ?_
    refine lm_G_ca (j := 145) (as := [.ref 64, .int y]) (rest := []) rfl (Or.inl rfl) (Nat.le_of_ble_eq_true rfl) (Nat.le_of_ble_eq_true rfl) (Nat.le_of_ble_eq_true rfl) (Nat.le_of_ble_eq_true rfl) rfl ?_
    refine m_isPerson hF h0 ?_
    show lm_G X (d + 2) 209 106 0 0 18 [some (.ref 64), some (.int x), some (.int y), none] [.int (b2i (isP (fN F) y))] (lm_T M0 v G) Q
    refine lm_G_br (b := ¬ (b2i (isP (fN F) y)) = 0) (t := 27) (S' := []) rfl (fun hy => ?_) (fun hy => ?_)
    rotate_left
    ·
      replace hy := b2i_0 (Classical.not_not.mp hy)
      refine lm_G_sg 2 (pc' := 23) (L' := [some (.ref 64), some (.int x), some (.int y), none]) (S' := [.int 1, .ref 64]) (σ' := lm_T M0 v G) rfl trivial ?_
      refine lm_G_ca (j := 141) (as := [.ref 64, .int 1]) (rest := []) rfl (Or.inl rfl) (Nat.le_of_ble_eq_true rfl) (Nat.le_of_ble_eq_true rfl) (Nat.le_of_ble_eq_true rfl) (Nat.le_of_ble_eq_true rfl) rfl ?_
      refine m_fail ?_
      show lm_G X (d + 2) 209 106 0 0 26 [some (.ref 64), some (.int x), some (.int y), none] [.int 0] (lm_T (lm_wr M0 64 4 1) v G) Q
      simp +decide only [actS, actB, actA, hy, hx, if_true, if_false, Bool.and_true, Bool.true_and, Bool.and_self, Bool.false_and, Bool.and_false, Bool.false_eq_true] at hQ
      exact lm_G_re rfl trivial (Nat.zero_le _) (Nat.zero_le _) (hQ _ (MS_4 m0 1) (FrH_w64 f0 (Or.inl rfl)) wr_same)
    ·
      replace hy := b2i_1 hy
      obtain ⟨t, ht, rfl⟩ := isP_nI hx (by omega)
      have ct : (nI t).toNatClampNeg = t := nI_clamp (by omega)
      obtain ⟨p, hp, rfl⟩ := isP_nI hy (by omega)
      have cp : (nI p).toNatClampNeg = p := nI_clamp (by omega)
      refine lm_G_sg 4 (pc' := 33) (L' := [some (.ref 64), some (.int (nI t)), some (.int (nI p)), none]) (S' := [.int (M0 81 (nI t).toNatClampNeg)]) (σ' := lm_T M0 v G) rfl ⟨(vp_in_nI (by omega) (by omega)), trivial, trivial⟩ ?_
      rw [show (nI t).toNatClampNeg = t from nI_clamp (by omega)]
      rw [show M0 81 t = sOw s t from h0.ow t (by omega)]
      refine lm_G_sg 3 (pc' := 36) (L' := [some (.ref 64), some (.int (nI t)), some (.int (nI p)), some (.int (sOw s t))]) (S' := [.int (-1), .int (sOw s t)]) (σ' := lm_T M0 v G) rfl trivial ?_
      refine lm_G_br (b := (sOw s t) = (-1)) (t := 61) (S' := []) rfl (fun h1 => ?_) (fun h1 => ?_)
      ·
        have hd : dSell F s t p = false := by
          unfold dSell
          rw [decide_eq_false (fun w => w h1)]
          rfl
        refine lm_G_sg 2 (pc' := 63) (L' := [some (.ref 64), some (.int (nI t)), some (.int (nI p)), some (.int (sOw s t))]) (S' := [.int 1, .ref 64]) (σ' := lm_T M0 v G) rfl trivial ?_
        refine lm_G_ca (j := 204) (as := [.ref 64, .int 1]) (rest := []) rfl (Or.inl rfl) (Nat.le_of_ble_eq_true rfl) (Nat.le_of_ble_eq_true rfl) (Nat.le_of_ble_eq_true rfl) (Nat.le_of_ble_eq_true rfl) rfl ?_
        refine m_refuse4 (j := 1) (by omega) m0 (fun M1 m1 k1 e1 => ?_)
        show lm_G X (d + 2) 209 106 0 0 66 [some (.ref 64), some (.int (nI t)), some (.int (nI p)), some (.int (sOw s t))] [.int (-1)] (lm_T M1 v G) Q
        simp +decide only [actS, actB, actA, hx, hy, ct, cp, hd, if_true, if_false, Bool.and_true, Bool.true_and, Bool.and_self, Bool.false_and, Bool.and_false, Bool.false_eq_true] at hQ
        exact lm_G_re rfl trivial (Nat.zero_le _) (Nat.zero_le _) (hQ _ m1 (FrH_tr f0 k1) (e1.trans c0))
      ·
        refine lm_G_sg 2 (pc' := 41) (L' := [some (.ref 64), some (.int (nI t)), some (.int (nI p)), some (.int (sOw s t))]) (S' := [.int (nI t), .ref 64]) (σ' := lm_T M0 v G) rfl trivial ?_
        refine lm_G_ca (j := 181) (as := [.ref 64, .int (nI t)]) (rest := []) rfl (Or.inl rfl) (Nat.le_of_ble_eq_true rfl) (Nat.le_of_ble_eq_true rfl) (Nat.le_of_ble_eq_true rfl) (Nat.le_of_ble_eq_true rfl) rfl ?_
        refine m_whoHums hF h0 ?_
        show lm_G X (d + 2) 209 106 0 0 44 [some (.ref 64), some (.int (nI t)), some (.int (nI p)), some (.int (sOw s t))] [.int (humS F (sHu s) (nI t))] (lm_T M0 v G) Q
        refine lm_G_br (b := ¬ (humS F (sHu s) (nI t)) = 0) (t := 61) (S' := []) rfl (fun h2 => ?_) (fun h2 => ?_)
        ·
          have hd : dSell F s t p = false := by
            unfold dSell
            rw [decide_eq_false h2, Bool.false_and, Bool.and_false]
          refine lm_G_sg 2 (pc' := 63) (L' := [some (.ref 64), some (.int (nI t)), some (.int (nI p)), some (.int (sOw s t))]) (S' := [.int 1, .ref 64]) (σ' := lm_T M0 v G) rfl trivial ?_
          refine lm_G_ca (j := 204) (as := [.ref 64, .int 1]) (rest := []) rfl (Or.inl rfl) (Nat.le_of_ble_eq_true rfl) (Nat.le_of_ble_eq_true rfl) (Nat.le_of_ble_eq_true rfl) (Nat.le_of_ble_eq_true rfl) rfl ?_
          refine m_refuse4 (j := 1) (by omega) m0 (fun M1 m1 k1 e1 => ?_)
          show lm_G X (d + 2) 209 106 0 0 66 [some (.ref 64), some (.int (nI t)), some (.int (nI p)), some (.int (sOw s t))] [.int (-1)] (lm_T M1 v G) Q
          simp +decide only [actS, actB, actA, hx, hy, ct, cp, hd, if_true, if_false, Bool.and_true, Bool.true_and, Bool.and_self, Bool.false_and, Bool.and_false, Bool.false_eq_true] at hQ
          exact lm_G_re rfl trivial (Nat.zero_le _) (Nat.zero_le _) (hQ _ m1 (FrH_tr f0 k1) (e1.trans c0))
        ·
          refine lm_G_sg 2 (pc' := 49) (L' := [some (.ref 64), some (.int (nI t)), some (.int (nI p)), some (.int (sOw s t))]) (S' := [.int (nI p), .int (sOw s t)]) (σ' := lm_T M0 v G) rfl trivial ?_
          refine lm_G_br (b := (sOw s t) = (nI p)) (t := 61) (S' := []) rfl (fun h3 => ?_) (fun h3 => ?_)
          ·
            have hd : dSell F s t p = false := by
              unfold dSell
              rw [decide_eq_false (p := sOw s t ≠ nI p) (fun w => w h3), Bool.false_and, Bool.and_false, Bool.and_false]
            refine lm_G_sg 2 (pc' := 63) (L' := [some (.ref 64), some (.int (nI t)), some (.int (nI p)), some (.int (sOw s t))]) (S' := [.int 1, .ref 64]) (σ' := lm_T M0 v G) rfl trivial ?_
            refine lm_G_ca (j := 204) (as := [.ref 64, .int 1]) (rest := []) rfl (Or.inl rfl) (Nat.le_of_ble_eq_true rfl) (Nat.le_of_ble_eq_true rfl) (Nat.le_of_ble_eq_true rfl) (Nat.le_of_ble_eq_true rfl) rfl ?_
            refine m_refuse4 (j := 1) (by omega) m0 (fun M1 m1 k1 e1 => ?_)
            show lm_G X (d + 2) 209 106 0 0 66 [some (.ref 64), some (.int (nI t)), some (.int (nI p)), some (.int (sOw s t))] [.int (-1)] (lm_T M1 v G) Q
            simp +decide only [actS, actB, actA, hx, hy, ct, cp, hd, if_true, if_false, Bool.and_true, Bool.true_and, Bool.and_self, Bool.false_and, Bool.and_false, Bool.false_eq_true] at hQ
            exact lm_G_re rfl trivial (Nat.zero_le _) (Nat.zero_le _) (hQ _ m1 (FrH_tr f0 k1) (e1.trans c0))
          ·
            refine lm_G_sg 4 (pc' := 58) (L' := [some (.ref 64), some (.int (nI t)), some (.int (nI p)), some (.int (sOw s t))]) (S' := [.int (M0 86 (nI p).toNatClampNeg)]) (σ' := lm_T M0 v G) rfl ⟨(vp_in_nI (by omega) (by omega)), trivial, trivial⟩ ?_
            rw [show (nI p).toNatClampNeg = p from nI_clamp (by omega)]
            rw [show M0 86 p = sCo s p from h0.co p (by omega)]
            refine lm_G_br (b := ¬ (sCo s p) = 0) (t := 67) (S' := []) rfl (fun h4 => ?_) (fun h4 => ?_)
            rotate_left
            ·
              have hd : dSell F s t p = false := by
                unfold dSell
                rw [decide_eq_false (p := sCo s p ≠ 0) h4, Bool.and_false, Bool.and_false, Bool.and_false]
              refine lm_G_sg 2 (pc' := 63) (L' := [some (.ref 64), some (.int (nI t)), some (.int (nI p)), some (.int (sOw s t))]) (S' := [.int 1, .ref 64]) (σ' := lm_T M0 v G) rfl trivial ?_
              refine lm_G_ca (j := 204) (as := [.ref 64, .int 1]) (rest := []) rfl (Or.inl rfl) (Nat.le_of_ble_eq_true rfl) (Nat.le_of_ble_eq_true rfl) (Nat.le_of_ble_eq_true rfl) (Nat.le_of_ble_eq_true rfl) rfl ?_
              refine m_refuse4 (j := 1) (by omega) m0 (fun M1 m1 k1 e1 => ?_)
              show lm_G X (d + 2) 209 106 0 0 66 [some (.ref 64), some (.int (nI t)), some (.int (nI p)), some (.int (sOw s t))] [.int (-1)] (lm_T M1 v G) Q
              simp +decide only [actS, actB, actA, hx, hy, ct, cp, hd, if_true, if_false, Bool.and_true, Bool.true_and, Bool.and_self, Bool.false_and, Bool.and_false, Bool.false_eq_true] at hQ
              exact lm_G_re rfl trivial (Nat.zero_le _) (Nat.zero_le _) (hQ _ m1 (FrH_tr f0 k1) (e1.trans c0))
            ·
              have hd : dSell F s t p = true := by
                unfold dSell
                rw [decide_eq_true h1, decide_eq_true (Classical.not_not.mp h2), decide_eq_true h3, decide_eq_true h4]
                rfl
              obtain ⟨q, hq, eq⟩ := (hs.2.1 t ht).resolve_left h1
              have cq : (sOw s t).toNatClampNeg = q := by rw [eq]; exact nI_clamp (by omega)
              simp +decide only [actS, actB, actA, hx, hy, ct, cp, hd, cq, if_true, if_false, Bool.and_true, Bool.true_and, Bool.and_self, Bool.false_and, Bool.and_false, Bool.false_eq_true] at hQ
              refine lm_G_sg 1 (pc' := 68) (L' := [some (.ref 64), some (.int (nI t)), some (.int (nI p)), some (.int (sOw s t))]) (S' := [.ref 64]) (σ' := lm_T M0 v G) rfl trivial ?_
              refine lm_G_ca (j := 205) (as := [.ref 64]) (rest := []) rfl (Or.inl rfl) (Nat.le_of_ble_eq_true rfl) (Nat.le_of_ble_eq_true rfl) (Nat.le_of_ble_eq_true rfl) (Nat.le_of_ble_eq_true rfl) rfl ?_
              refine m_keep4 hF m0 hA (fun M1 m1 k1 e1 => ?_)
              show lm_G X (d + 2) 209 106 0 0 71 [some (.ref 64), some (.int (nI t)), some (.int (nI p)), some (.int (sOw s t))] [] (lm_T M1 v G) Q
              have h1 := m1.1
              have f1 := FrH_tr f0 k1
              have c1 := e1.trans c0
              refine lm_G_sg 3 (pc' := 74) (L' := [some (.ref 64), some (.int (nI t)), some (.int (nI p)), some (.int (sOw s t))]) (S' := [.int (nI p), .int (nI t), .ref 64]) (σ' := lm_T M1 v G) rfl trivial ?_
              refine lm_G_ca (j := 189) (as := [.ref 64, .int (nI t), .int (nI p)]) (rest := []) rfl (Or.inl rfl) (Nat.le_of_ble_eq_true rfl) (Nat.le_of_ble_eq_true rfl) (Nat.le_of_ble_eq_true rfl) (Nat.le_of_ble_eq_true rfl) rfl ?_
              refine m_giveTo hF m1.1 ht ?_
              show lm_G X (d + 2) 209 106 0 0 77 [some (.ref 64), some (.int (nI t)), some (.int (nI p)), some (.int (sOw s t))] [] (lm_T (lm_wr (lm_wr M1 64 41 (M1 64 41 + (if sOw s t = nI p then 0 else 1))) 81 t (nI p)) v G) Q
              have h2c : RM (lm_wr (lm_wr M1 64 41 (M1 64 41 + (if sOw s t = nI p then 0 else 1))) 81 t (nI p)) F (ownT s t (nI p)) := RM_own m1.1 t (nI p) _
              have m2 : MB1 (lm_wr (lm_wr M1 64 41 (M1 64 41 + (if sOw s t = nI p then 0 else 1))) 81 t (nI p)) F (kpB B s) := MB_fr m1.2.2 rfl rfl rfl rfl rfl rfl rfl
              have f2 : FrH M (lm_wr (lm_wr M1 64 41 (M1 64 41 + (if sOw s t = nI p then 0 else 1))) 81 t (nI p)) := FrH_wr (FrH_w64 f1 (by decide)) rfl (by decide)
              have c2 : (lm_wr (lm_wr M1 64 41 (M1 64 41 + (if sOw s t = nI p then 0 else 1))) 81 t (nI p)) 64 4 = 0 := c1
              have l2 : (lm_wr (lm_wr M1 64 41 (M1 64 41 + (if sOw s t = nI p then 0 else 1))) 81 t (nI p)) 64 42 = 0 := m1.2.1
              revert h2c m2 f2 c2 l2
              generalize lm_wr (lm_wr M1 64 41 (M1 64 41 + (if sOw s t = nI p then 0 else 1))) 81 t (nI p) = M2
              intro h2c m2 f2 c2 l2
              rw [eq]
              refine lm_G_sg 5 (pc' := 84) (L' := [some (.ref 64), some (.int (nI t)), some (.int (nI p)), some (.int (nI q))]) (S' := [.int (M2 86 (nI p).toNatClampNeg), .int (nI p), .ref 86]) (σ' := lm_T M2 v G) rfl ⟨(vp_in_nI (by omega) (by omega)), trivial, trivial⟩ ?_
              rw [show (nI p).toNatClampNeg = p from nI_clamp (by omega)]
              rw [show M2 86 p = sCo (ownT s t (nI p)) p from h2c.co p (by omega)]
              refine lm_G_sg 3 (pc' := 87) (L' := [some (.ref 64), some (.int (nI t)), some (.int (nI p)), some (.int (nI q))]) (S' := []) (σ' := lm_T (lm_wr M2 86 ((nI p).toNatClampNeg) ((sCo (ownT s t (nI p)) p) - 1)) v G) rfl ⟨(vp_in_nI (by omega) (by omega)), trivial, trivial⟩ ?_
              rw [show (nI p).toNatClampNeg = p from nI_clamp (by omega)]
              refine lm_G_sg 5 (pc' := 94) (L' := [some (.ref 64), some (.int (nI t)), some (.int (nI p)), some (.int (nI q))]) (S' := [.int ((lm_wr M2 86 p ((sCo (ownT s t (nI p)) p) - 1)) 86 (nI q).toNatClampNeg), .int (nI q), .ref 86]) (σ' := lm_T (lm_wr M2 86 p ((sCo (ownT s t (nI p)) p) - 1)) v G) rfl ⟨(vp_in_nI (by omega) (by omega)), trivial, trivial⟩ ?_
              rw [show (nI q).toNatClampNeg = q from nI_clamp (by omega)]
              show lm_G X (d + 2) 209 106 0 0 94 [some (.ref 64), some (.int (nI t)), some (.int (nI p)), some (.int (nI q))] [.int ((lm_wr M2 86 p ((sCo (ownT s t (nI p)) p) - 1)) 86 q), .int (nI q), .ref 86] (lm_T (lm_wr M2 86 p ((sCo (ownT s t (nI p)) p) - 1)) v G) Q
              refine lm_G_sg 3 (pc' := 97) (L' := [some (.ref 64), some (.int (nI t)), some (.int (nI p)), some (.int (nI q))]) (S' := []) (σ' := lm_T (lm_wr (lm_wr M2 86 p ((sCo (ownT s t (nI p)) p) - 1)) 86 ((nI q).toNatClampNeg) (((lm_wr M2 86 p ((sCo (ownT s t (nI p)) p) - 1)) 86 q) + 1)) v G) rfl ⟨(vp_in_nI (by omega) (by omega)), trivial, trivial⟩ ?_
              rw [show (nI q).toNatClampNeg = q from nI_clamp (by omega)]
              refine lm_G_sg 1 (pc' := 98) (L' := [some (.ref 64), some (.int (nI t)), some (.int (nI p)), some (.int (nI q))]) (S' := [.int (nI q)]) (σ' := lm_T (lm_wr (lm_wr M2 86 p ((sCo (ownT s t (nI p)) p) - 1)) 86 q (((lm_wr M2 86 p ((sCo (ownT s t (nI p)) p) - 1)) 86 q) + 1)) v G) rfl trivial ?_
              have h3c := RM_cow hF h2c hp hq
              exact lm_G_re rfl trivial (Nat.zero_le _) (Nat.zero_le _) (by rw [eq] at hQ; exact hQ _ ⟨h3c, l2, MB_fr m2 rfl rfl rfl rfl rfl rfl rfl⟩ (FrH_wr (FrH_wr f2 rfl (by decide)) rfl (by decide)) c2)
