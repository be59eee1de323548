/-! ===== contracts: years, the answers ===== -/
set_option maxRecDepth 10000 in
theorem c_years {X : lm_X} {d v : Nat} {M : Nat → Nat → Int32} {G : Nat → Nat → Int64} {Q : lm_O → lm_S → Prop} {F : Fa} {s : Sc} {x y w : Int32} (hF : okF F) (h : RC 28 M F s) (hs : okS F s) (hl : M 28 12 = -1) (hQ : ∀ M1, Fr frQ M M1 → Q (cO (aYea F s x y w)) (lm_T M1 v G)) : lm_Q X (d + 6) 126 [.ref 0, .int x, .int y, .int w] (lm_T M v G) Q := by
  have hn := hF.n
  have hm := hF.m
  show lm_G X (d + 6) 126 106 0 0 0 [some (.ref 0), some (.int x), some (.int y), some (.int w), none, none] [] (lm_T M v G) Q
  refine lm_G_sg 2 (pc' := 2) (L' := [some (.ref 0), some (.int x), some (.int y), some (.int w), none, none]) (S' := [.int 3, .int w]) (σ' := lm_T M v G) rfl trivial ?_
  refine lm_G_ca (j := 135) (as := [.int w, .int 3]) (rest := []) rfl (Or.inl rfl) (Nat.le_of_ble_eq_true rfl) (Nat.le_of_ble_eq_true rfl) (Nat.le_of_ble_eq_true rfl) (Nat.le_of_ble_eq_true rfl) rfl ?_
  refine c_isWhat (n := 3) (by omega) ?_
  show lm_G X (d + 6) 126 106 0 0 5 [some (.ref 0), some (.int x), some (.int y), some (.int w), none, none] [.int (b2i (isP 3 w))] (lm_T M v G) Q
  rcases Bool.eq_false_or_eq_true (isP 3 w) with hw | hw
  rotate_left
  ·
    rw [hw]
    show lm_G X (d + 6) 126 106 0 0 5 [some (.ref 0), some (.int x), some (.int y), some (.int w), none, none] [.int 0] (lm_T M v G) Q
    rw [show aYea F s x y w = .inr false from by simp +decide only [aYea, hw, if_true, if_false, Bool.and_true, Bool.true_and, Bool.and_self, Bool.false_and, Bool.and_false, Bool.false_eq_true]] at hQ
    refine lm_G_ca (j := 137) (as := [.int 0]) (rest := []) rfl (Or.inl rfl) (Nat.le_of_ble_eq_true rfl) (Nat.le_of_ble_eq_true rfl) (Nat.le_of_ble_eq_true rfl) (Nat.le_of_ble_eq_true rfl) rfl ?_
    exact c_mustExistF ⟨by decide, rfl, hQ M (Fr_rf _ _)⟩
  ·
    rw [hw]
    show lm_G X (d + 6) 126 106 0 0 5 [some (.ref 0), some (.int x), some (.int y), some (.int w), none, none] [.int 1] (lm_T M v G) Q
    refine lm_G_ca (j := 137) (as := [.int 1]) (rest := []) rfl (Or.inl rfl) (Nat.le_of_ble_eq_true rfl) (Nat.le_of_ble_eq_true rfl) (Nat.le_of_ble_eq_true rfl) (Nat.le_of_ble_eq_true rfl) rfl ?_
    refine c_mustExistT ?_
    show lm_G X (d + 6) 126 106 1 6 8 [some (.ref 0), some (.int x), some (.int y), some (.int w), none, none] [] (lm_T M v G) Q
    refine lm_G_sg 3 (pc' := 12) (L' := [some (.ref 0), some (.int x), some (.int y), some (.int w), none, none]) (S' := [.int 60, .int 0, .int y]) (σ' := lm_T M v G) rfl trivial ?_
    refine lm_G_ca (j := 136) (as := [.int y, .int 0, .int 60]) (rest := []) rfl (Or.inl rfl) (Nat.le_of_ble_eq_true rfl) (Nat.le_of_ble_eq_true rfl) (Nat.le_of_ble_eq_true rfl) (Nat.le_of_ble_eq_true rfl) rfl ?_
    refine c_isWithin ?_
    show lm_G X (d + 6) 126 106 1 6 15 [some (.ref 0), some (.int x), some (.int y), some (.int w), none, none] [.int (b2i (inR y 0 60))] (lm_T M v G) Q
    rcases Bool.eq_false_or_eq_true (inR y 0 60) with hy | hy
    rotate_left
    ·
      rw [hy]
      show lm_G X (d + 6) 126 106 1 6 15 [some (.ref 0), some (.int x), some (.int y), some (.int w), none, none] [.int 0] (lm_T M v G) Q
      rw [show aYea F s x y w = .inr true from by simp +decide only [aYea, hy, hw, if_true, if_false, Bool.and_true, Bool.true_and, Bool.and_self, Bool.false_and, Bool.and_false, Bool.false_eq_true]] at hQ
      refine lm_G_ca (j := 138) (as := [.int 0]) (rest := []) rfl (Or.inl rfl) (Nat.le_of_ble_eq_true rfl) (Nat.le_of_ble_eq_true rfl) (Nat.le_of_ble_eq_true rfl) (Nat.le_of_ble_eq_true rfl) rfl ?_
      exact c_mustFitF ⟨by decide, rfl, hQ M (Fr_rf _ _)⟩
    ·
      rw [hy]
      show lm_G X (d + 6) 126 106 1 6 15 [some (.ref 0), some (.int x), some (.int y), some (.int w), none, none] [.int 1] (lm_T M v G) Q
      refine lm_G_ca (j := 138) (as := [.int 1]) (rest := []) rfl (Or.inl rfl) (Nat.le_of_ble_eq_true rfl) (Nat.le_of_ble_eq_true rfl) (Nat.le_of_ble_eq_true rfl) (Nat.le_of_ble_eq_true rfl) rfl ?_
      refine c_mustFitT ?_
      show lm_G X (d + 6) 126 106 2 12 18 [some (.ref 0), some (.int x), some (.int y), some (.int w), none, none] [] (lm_T M v G) Q
      obtain ⟨n, hn, rfl⟩ := inR_nI (n := 60) (by decide) hy
      have cn : (nI n).toNatClampNeg = n := nI_clamp (by omega)
      refine lm_G_sg 1 (pc' := 19) (L' := [some (.ref 0), some (.int x), some (.int (nI n)), some (.int w), none, none]) (S' := [.ref 0]) (σ' := lm_T M v G) rfl trivial ?_
      refine lm_G_ca (j := 132) (as := [.ref 0]) (rest := []) rfl (Or.inl rfl) (Nat.le_of_ble_eq_true rfl) (Nat.le_of_ble_eq_true rfl) (Nat.le_of_ble_eq_true rfl) (Nat.le_of_ble_eq_true rfl) rfl ?_
      refine u_start hF h (Fr_rf _ _) hl (fun M1 t1 e1 => ?_)
      show lm_G X (d + 6) 126 106 2 12 22 [some (.ref 0), some (.int x), some (.int (nI n)), some (.int w), none, none] [] (lm_T M1 v G) Q
      refine lm_G_sg 4 (pc' := 28) (L' := [some (.ref 0), some (.int x), some (.int (nI n)), some (.int w), some (.int x), some (.int 0)]) (S' := []) (σ' := lm_T M1 v G) rfl trivial ?_
      refine lm_ind (α := (Nat → Fn)) (St := fun (j : Nat) zz => (fun (M2 : Nat → Fn) => lm_G X (d + 6) 126 106 2 12 28 [some (.ref 0), some (.int x), some (.int (nI n)), some (.int w), some (.int (yrX F x j)), some (.int (nI j))] [] (lm_T M2 v G) Q) zz) (Inv := fun (j : Nat) zz => (fun (M2 : Nat → Fn) => TC M F M2 (yrB F x s j) ∧ M2 38 13 = (yrD F x s j)) zz) (n) (fun j zz hj hI ih => ?_) (fun zz hI => ?_) (0) M1 (by omega) ?_
      ·
        revert ih hI
        revert zz
        intro M2 hI ih
        replace hI : TC M F M2 (yrB F x s j) ∧ M2 38 13 = (yrD F x s j) := hI
        replace ih : ∀ (M2 : Nat → Fn) (_ : TC M F M2 (yrB F x s (j + 1)) ∧ M2 38 13 = (yrD F x s (j + 1))), lm_G X (d + 6) 126 106 2 12 28 [some (.ref 0), some (.int x), some (.int (nI n)), some (.int w), some (.int (yrX F x (j + 1))), some (.int (nI (j + 1)))] [] (lm_T M2 v G) Q := fun M2 q => ih M2 q
        show lm_G X (d + 6) 126 106 2 12 28 [some (.ref 0), some (.int x), some (.int (nI n)), some (.int w), some (.int (yrX F x j)), some (.int (nI j))] [] (lm_T M2 v G) Q
        obtain ⟨t2, i2⟩ := hI
        refine lm_G_sg 2 (pc' := 31) (L' := [some (.ref 0), some (.int x), some (.int (nI n)), some (.int w), some (.int (yrX F x j)), some (.int (nI j))]) (S' := [.int (nI n), .int (nI j)]) (σ' := lm_T M2 v G) rfl trivial ?_
        refine lm_G_br (b := (nI n) ≤ (nI j)) (t := 55) (S' := []) rfl (fun hc => absurd hc (nI_ge hj (by omega))) (fun hc => ?_)
        refine lm_G_sg 2 (pc' := 37) (L' := [some (.ref 0), some (.int x), some (.int (nI n)), some (.int w), some (.int (yrX F x j)), some (.int (nI j))]) (S' := [.int (yrX F x j), .ref 0]) (σ' := lm_T M2 v G) rfl trivial ?_
        refine lm_G_ca (j := 127) (as := [.ref 0, .int (yrX F x j)]) (rest := []) rfl (Or.inl rfl) (Nat.le_of_ble_eq_true rfl) (Nat.le_of_ble_eq_true rfl) (Nat.le_of_ble_eq_true rfl) (Nat.le_of_ble_eq_true rfl) rfl ?_
        refine c_drawChance hF t2 (yr_ok hs j) (fun M3 t3 e3 => ?_)
        show lm_G X (d + 6) 126 106 2 12 40 [some (.ref 0), some (.int x), some (.int (nI n)), some (.int w), some (.int (yrX F x j)), some (.int (nI j))] [.int (chA F (yrX F x j))] (lm_T M3 v G) Q
        refine lm_G_sg 3 (pc' := 46) (L' := [some (.ref 0), some (.int x), some (.int (nI n)), some (.int w), some (.int (chA F (yrX F x j))), some (.int (nI j))]) (S' := [.ref 38]) (σ' := lm_T M3 v G) rfl trivial ?_
        refine lm_G_ca (j := 74) (as := [.ref 38]) (rest := []) rfl (Or.inl rfl) (Nat.le_of_ble_eq_true rfl) (Nat.le_of_ble_eq_true rfl) (Nat.le_of_ble_eq_true rfl) (Nat.le_of_ble_eq_true rfl) rfl ?_
        refine u_passHour hF t3 (ch_ok (yr_ok hs j)) (fun M4 t4 e4 => ?_)
        show lm_G X (d + 6) 126 106 2 12 49 [some (.ref 0), some (.int x), some (.int (nI n)), some (.int w), some (.int (chA F (yrX F x j))), some (.int (nI j))] [] (lm_T M4 v G) Q
        refine lm_G_sg 1 (pc' := 52) (L' := [some (.ref 0), some (.int x), some (.int (nI n)), some (.int w), some (.int (chA F (yrX F x j))), some (.int ((nI j) + 1))]) (S' := []) (σ' := lm_T M4 v G) rfl trivial ?_
        rw [nI_1]
        refine lm_G_sg 1 (pc' := 28) (L' := [some (.ref 0), some (.int x), some (.int (nI n)), some (.int w), some (.int (chA F (yrX F x j))), some (.int (nI (j + 1)))]) (S' := []) (σ' := lm_T M4 v G) rfl trivial ?_
        exact ih _ (⟨t4, by rw [e4, e3, i2]; rfl⟩)
      ·
        revert hI
        revert zz
        intro M2 hI
        replace hI : TC M F M2 (yrB F x s n) ∧ M2 38 13 = (yrD F x s n) := hI
        show lm_G X (d + 6) 126 106 2 12 28 [some (.ref 0), some (.int x), some (.int (nI n)), some (.int w), some (.int (yrX F x n)), some (.int (nI n))] [] (lm_T M2 v G) Q
        obtain ⟨t2, i2⟩ := hI
        refine lm_G_sg 2 (pc' := 31) (L' := [some (.ref 0), some (.int x), some (.int (nI n)), some (.int w), some (.int (yrX F x n)), some (.int (nI n))]) (S' := [.int (nI n), .int (nI n)]) (σ' := lm_T M2 v G) rfl trivial ?_
        refine lm_G_br (b := (nI n) ≤ (nI n)) (t := 55) (S' := []) rfl (fun hc => ?_) (fun hc => absurd (nI_le (Nat.le_refl _) (by omega)) hc)
        refine lm_G_sg 1 (pc' := 56) (L' := [some (.ref 0), some (.int x), some (.int (nI n)), some (.int w), some (.int (yrX F x n)), some (.int (nI n))]) (S' := [.int w]) (σ' := lm_T M2 v G) rfl trivial ?_
        rcases isP_3 hw with rfl | rfl | rfl
        ·
          refine lm_G_sg 4 (pc' := 91) (L' := [some (.ref 0), some (.int x), some (.int (nI n)), some (.int 0), some (.int (yrX F x n)), some (.int (nI n))]) (S' := [.int (M2 38 13)]) (σ' := lm_T M2 v G) rfl trivial ?_
          rw [show M2 38 13 = (yrD F x s n) from i2]
          rw [show aYea F s x (nI n) 0 = .inl ((yrD F x s n)) from by simp +decide only [aYea, hw, hy, cn, if_true, if_false, Bool.and_true, Bool.true_and, Bool.and_self, Bool.false_and, Bool.and_false, Bool.false_eq_true]] at hQ
          exact lm_G_re rfl trivial (Nat.le_of_ble_eq_true rfl) (Nat.le_of_ble_eq_true rfl) (hQ _ t2.2.1)
        ·
          refine lm_G_sg 4 (pc' := 97) (L' := [some (.ref 0), some (.int x), some (.int (nI n)), some (.int 1), some (.int (yrX F x n)), some (.int (nI n))]) (S' := [.int (-1), .ref 38]) (σ' := lm_T M2 v G) rfl trivial ?_
          refine lm_G_ca (j := 61) (as := [.ref 38, .int (-1)]) (rest := []) rfl (Or.inl rfl) (Nat.le_of_ble_eq_true rfl) (Nat.le_of_ble_eq_true rfl) (Nat.le_of_ble_eq_true rfl) (Nat.le_of_ble_eq_true rfl) rfl ?_
          refine c_howMany38 hF t2.1 ?_
          show lm_G X (d + 6) 126 106 2 12 100 [some (.ref 0), some (.int x), some (.int (nI n)), some (.int 1), some (.int (yrX F x n)), some (.int (nI n))] [.int (cnt (ownS F (sOw (yrB F x s n)) (-1)))] (lm_T M2 v G) Q
          rw [show aYea F s x (nI n) 1 = .inl (cnt (ownS F (sOw (yrB F x s n)) (-1))) from by simp +decide only [aYea, hw, hy, cn, if_true, if_false, Bool.and_true, Bool.true_and, Bool.and_self, Bool.false_and, Bool.and_false, Bool.false_eq_true]] at hQ
          exact lm_G_re rfl trivial (Nat.le_of_ble_eq_true rfl) (Nat.le_of_ble_eq_true rfl) (hQ _ t2.2.1)
        ·
          refine lm_G_sg 3 (pc' := 105) (L' := [some (.ref 0), some (.int x), some (.int (nI n)), some (.int 2), some (.int (yrX F x n)), some (.int (nI n))]) (S' := [.ref 38]) (σ' := lm_T M2 v G) rfl trivial ?_
          refine lm_G_ca (j := 59) (as := [.ref 38]) (rest := []) rfl (Or.inl rfl) (Nat.le_of_ble_eq_true rfl) (Nat.le_of_ble_eq_true rfl) (Nat.le_of_ble_eq_true rfl) (Nat.le_of_ble_eq_true rfl) rfl ?_
          refine c_allHummers38 (yr_ok hs n) hF t2.1 ?_
          show lm_G X (d + 6) 126 106 2 12 108 [some (.ref 0), some (.int x), some (.int (nI n)), some (.int 2), some (.int (yrX F x n)), some (.int (nI n))] [.int (msk (fun p => decide (sHu (yrB F x s n) p ≠ -1)) (fN F))] (lm_T M2 v G) Q
          refine lm_G_ca (j := 244) (as := [.int (msk (fun p => decide (sHu (yrB F x s n) p ≠ -1)) (fN F))]) (rest := []) rfl (Or.inl rfl) (Nat.le_of_ble_eq_true rfl) (Nat.le_of_ble_eq_true rfl) (Nat.le_of_ble_eq_true rfl) (Nat.le_of_ble_eq_true rfl) rfl ?_
          refine c_bits (msk_lt _ _ hF.n) ?_
          show lm_G X (d + 6) 126 106 2 12 111 [some (.ref 0), some (.int x), some (.int (nI n)), some (.int 2), some (.int (yrX F x n)), some (.int (nI n))] [.int (cnt (msk (fun p => decide (sHu (yrB F x s n) p ≠ -1)) (fN F)))] (lm_T M2 v G) Q
          rw [show aYea F s x (nI n) 2 = .inl (cnt (msk (fun p => decide (sHu (yrB F x s n) p ≠ -1)) (fN F))) from by simp +decide only [aYea, hw, hy, cn, if_true, if_false, Bool.and_true, Bool.true_and, Bool.and_self, Bool.false_and, Bool.and_false, Bool.false_eq_true]] at hQ
          exact lm_G_re rfl trivial (Nat.le_of_ble_eq_true rfl) (Nat.le_of_ble_eq_true rfl) (hQ _ t2.2.1)
      ·
        try dsimp only
        exact ⟨t1, e1⟩
set_option maxRecDepth 10000 in
theorem m_years {X : lm_X} {d v : Nat} {M : Nat → Nat → Int32} {G : Nat → Nat → Int64} {Q : lm_O → lm_S → Prop} {F : Fa} {s : Sc} {x y w : Int32} (hF : okF F) (h : RM M F s) (hs : okS F s) (hl : M 64 42 = 0) (hQ : ∀ M1, RM M1 F s → FrN M M1 → M1 64 4 = cd (aYea F s x y w) → Q (.inl (some (.int (vl (aYea F s x y w))))) (lm_T M1 v G)) : lm_Q X (d + 5) 240 [.ref 64, .int x, .int y, .int w] (lm_T M v G) Q := by
  have hn := hF.n
  have hm := hF.m
  show lm_G X (d + 5) 240 106 0 0 0 [some (.ref 64), some (.int x), some (.int y), some (.int w), none] [] (lm_T M v G) Q
  refine lm_G_sg 3 (pc' := 5) (L' := [some (.ref 64), some (.int x), some (.int y), some (.int w), none]) (S' := []) (σ' := lm_T (lm_wr M 64 4 0) v G) rfl ⟨trivial, trivial, trivial⟩ ?_
  have h0 : RM (lm_wr M 64 4 0) F s := RM_taken h 4 (by decide) 0
  have f0 : FrN M (lm_wr M 64 4 0) := FrN_w64 (FrN_rf _) (by decide)
  have c0 : (lm_wr M 64 4 0) 64 4 = 0 := wr_same
  have l0 : (lm_wr M 64 4 0) 64 42 = 0 := (wr_at (by decide)).trans hl
  revert h0 f0 c0 l0
  generalize lm_wr M 64 4 0 = M0
  intro h0 f0 c0 l0
  refine lm_G_sg 4 (pc' := 11) (L' := [some (.ref 64), some (.int x), some (.int y), some (.int w), none]) (S' := [.long 2, .long 0, .long w.toInt64]) (σ' := lm_T M0 v G) rfl trivial ?_
  refine lm_G_ca (j := 142) (as := [.long w.toInt64, .long 0, .long 2]) (rest := []) rfl (Or.inl rfl) (Nat.le_of_ble_eq_true rfl) (Nat.le_of_ble_eq_true rfl) (Nat.le_of_ble_eq_true rfl) (Nat.le_of_ble_eq_true rfl) rfl ?_
  refine c_isIn ?_
  show lm_G X (d + 5) 240 106 0 0 14 [some (.ref 64), some (.int x), some (.int y), some (.int w), none] [.int (b2i (inL (w.toInt64) 0 2))] (lm_T M0 v G) Q
  rw [show inL (w.toInt64) 0 2 = isP 3 w from inL_2 _]
  refine lm_G_br (b := ¬ (b2i (isP 3 w)) = 0) (t := 23) (S' := []) rfl (fun hw => ?_) (fun hw => ?_)
  rotate_left
  ·
    replace hw := b2i_0 (Classical.not_not.mp hw)
    refine lm_G_sg 2 (pc' := 19) (L' := [some (.ref 64), some (.int x), some (.int y), some (.int w), none]) (S' := [.int 1, .ref 64]) (σ' := lm_T M0 v G) rfl trivial ?_
    refine lm_G_ca (j := 141) (as := [.ref 64, .int 1]) (rest := []) rfl (Or.inl rfl) (Nat.le_of_ble_eq_true rfl) (Nat.le_of_ble_eq_true rfl) (Nat.le_of_ble_eq_true rfl) (Nat.le_of_ble_eq_true rfl) rfl ?_
    refine m_fail ?_
    show lm_G X (d + 5) 240 106 0 0 22 [some (.ref 64), some (.int x), some (.int y), some (.int w), none] [.int 0] (lm_T (lm_wr M0 64 4 1) v G) Q
    rw [show aYea F s x y w = .inr false from by simp +decide only [aYea, hw, if_true, if_false, Bool.and_true, Bool.true_and, Bool.and_self, Bool.false_and, Bool.and_false, Bool.false_eq_true]] at hQ
    exact lm_G_re rfl trivial (Nat.zero_le _) (Nat.zero_le _) (hQ _ (RM_taken h0 4 (by decide) 1) (FrN_w64 f0 (by decide)) wr_same)
  ·
    replace hw := b2i_1 hw
    refine lm_G_sg 4 (pc' := 29) (L' := [some (.ref 64), some (.int x), some (.int y), some (.int w), none]) (S' := [.long 60, .long 0, .long y.toInt64]) (σ' := lm_T M0 v G) rfl trivial ?_
    refine lm_G_ca (j := 142) (as := [.long y.toInt64, .long 0, .long 60]) (rest := []) rfl (Or.inl rfl) (Nat.le_of_ble_eq_true rfl) (Nat.le_of_ble_eq_true rfl) (Nat.le_of_ble_eq_true rfl) (Nat.le_of_ble_eq_true rfl) rfl ?_
    refine c_isIn ?_
    show lm_G X (d + 5) 240 106 0 0 32 [some (.ref 64), some (.int x), some (.int y), some (.int w), none] [.int (b2i (inL (y.toInt64) 0 60))] (lm_T M0 v G) Q
    rw [show inL (y.toInt64) 0 60 = inR y 0 60 from (inL_R y 0 60)]
    refine lm_G_br (b := ¬ (b2i (inR y 0 60)) = 0) (t := 41) (S' := []) rfl (fun hy => ?_) (fun hy => ?_)
    rotate_left
    ·
      replace hy := b2i_0 (Classical.not_not.mp hy)
      refine lm_G_sg 2 (pc' := 37) (L' := [some (.ref 64), some (.int x), some (.int y), some (.int w), none]) (S' := [.int 2, .ref 64]) (σ' := lm_T M0 v G) rfl trivial ?_
      refine lm_G_ca (j := 141) (as := [.ref 64, .int 2]) (rest := []) rfl (Or.inl rfl) (Nat.le_of_ble_eq_true rfl) (Nat.le_of_ble_eq_true rfl) (Nat.le_of_ble_eq_true rfl) (Nat.le_of_ble_eq_true rfl) rfl ?_
      refine m_fail ?_
      show lm_G X (d + 5) 240 106 0 0 40 [some (.ref 64), some (.int x), some (.int y), some (.int w), none] [.int 0] (lm_T (lm_wr M0 64 4 2) v G) Q
      rw [show aYea F s x y w = .inr true from by simp +decide only [aYea, hy, hw, if_true, if_false, Bool.and_true, Bool.true_and, Bool.and_self, Bool.false_and, Bool.and_false, Bool.false_eq_true]] at hQ
      exact lm_G_re rfl trivial (Nat.zero_le _) (Nat.zero_le _) (hQ _ (RM_taken h0 4 (by decide) 2) (FrN_w64 f0 (by decide)) wr_same)
    ·
      replace hy := b2i_1 hy
      obtain ⟨n, hn, rfl⟩ := inR_nI (n := 60) (by decide) hy
      have cn : (nI n).toNatClampNeg = n := nI_clamp (by omega)
      refine lm_G_sg 4 (pc' := 47) (L' := [some (.ref 64), some (.int x), some (.int (nI n)), some (.int w), none]) (S' := [.int 0, .ref 90, .ref 64]) (σ' := lm_T M0 v G) rfl trivial ?_
      refine lm_G_ca (j := 177) (as := [.ref 64, .ref 90, .int 0]) (rest := []) rfl (Or.inl rfl) (Nat.le_of_ble_eq_true rfl) (Nat.le_of_ble_eq_true rfl) (Nat.le_of_ble_eq_true rfl) (Nat.le_of_ble_eq_true rfl) rfl ?_
      refine t_pack hF h0 f0 c0 l0 (fun M1 t1 => ?_)
      show lm_G X (d + 5) 240 106 0 0 50 [some (.ref 64), some (.int x), some (.int (nI n)), some (.int w), none] [] (lm_T M1 v G) Q
      refine lm_G_sg 8 (pc' := 63) (L' := [some (.ref 64), some (.int x), some (.int (nI n)), some (.int w), some (.int 0)]) (S' := []) (σ' := lm_T (lm_wr (lm_wr M1 64 53 x) 64 41 0) v G) rfl ⟨trivial, trivial, trivial, trivial, trivial⟩ ?_
      have t3 : TM M F s (lm_wr (lm_wr M1 64 53 x) 64 41 0) s := TM_w64 (TM_w64 t1 (Or.inr (Or.inr rfl))) (Or.inl rfl)
      have x3 : (lm_wr (lm_wr M1 64 53 x) 64 41 0) 64 53 = x := (wr_at (by decide)).trans wr_same
      have e3 : (lm_wr (lm_wr M1 64 53 x) 64 41 0) 64 41 = 0 := wr_same
      revert t3 x3 e3
      generalize lm_wr (lm_wr M1 64 53 x) 64 41 0 = M3
      intro t3 x3 e3
      refine lm_ind (α := (Nat → Fn)) (St := fun (j : Nat) zz => (fun (M2 : Nat → Fn) => lm_G X (d + 5) 240 106 0 0 63 [some (.ref 64), some (.int x), some (.int (nI n)), some (.int w), some (.int (nI j))] [] (lm_T M2 v G) Q) zz) (Inv := fun (j : Nat) zz => (fun (M2 : Nat → Fn) => TM M F s M2 (yrB F x s j) ∧ M2 64 41 = (yrD F x s j) ∧ M2 64 53 = (yrX F x j)) zz) (n) (fun j zz hj hI ih => ?_) (fun zz hI => ?_) (0) M3 (by omega) ?_
      ·
        revert ih hI
        revert zz
        intro M2 hI ih
        replace hI : TM M F s M2 (yrB F x s j) ∧ M2 64 41 = (yrD F x s j) ∧ M2 64 53 = (yrX F x j) := hI
        replace ih : ∀ (M2 : Nat → Fn) (_ : TM M F s M2 (yrB F x s (j + 1)) ∧ M2 64 41 = (yrD F x s (j + 1)) ∧ M2 64 53 = (yrX F x (j + 1))), lm_G X (d + 5) 240 106 0 0 63 [some (.ref 64), some (.int x), some (.int (nI n)), some (.int w), some (.int (nI (j + 1)))] [] (lm_T M2 v G) Q := fun M2 q => ih M2 q
        show lm_G X (d + 5) 240 106 0 0 63 [some (.ref 64), some (.int x), some (.int (nI n)), some (.int w), some (.int (nI j))] [] (lm_T M2 v G) Q
        obtain ⟨t2, i2, i3⟩ := hI
        refine lm_G_sg 2 (pc' := 66) (L' := [some (.ref 64), some (.int x), some (.int (nI n)), some (.int w), some (.int (nI j))]) (S' := [.int (nI n), .int (nI j)]) (σ' := lm_T M2 v G) rfl trivial ?_
        refine lm_G_br (b := (nI n) ≤ (nI j)) (t := 83) (S' := []) rfl (fun hc => absurd hc (nI_ge hj (by omega))) (fun hc => ?_)
        refine lm_G_sg 1 (pc' := 70) (L' := [some (.ref 64), some (.int x), some (.int (nI n)), some (.int w), some (.int (nI j))]) (S' := [.ref 64]) (σ' := lm_T M2 v G) rfl trivial ?_
        refine lm_G_ca (j := 239) (as := [.ref 64]) (rest := []) rfl (Or.inl rfl) (Nat.le_of_ble_eq_true rfl) (Nat.le_of_ble_eq_true rfl) (Nat.le_of_ble_eq_true rfl) (Nat.le_of_ble_eq_true rfl) rfl ?_
        refine m_something hF t2 i3 (fun M4 t4 e4 x4 => ?_)
        show lm_G X (d + 5) 240 106 0 0 73 [some (.ref 64), some (.int x), some (.int (nI n)), some (.int w), some (.int (nI j))] [] (lm_T M4 v G) Q
        refine lm_G_sg 1 (pc' := 74) (L' := [some (.ref 64), some (.int x), some (.int (nI n)), some (.int w), some (.int (nI j))]) (S' := [.ref 64]) (σ' := lm_T M4 v G) rfl trivial ?_
        refine lm_G_ca (j := 193) (as := [.ref 64]) (rest := []) rfl (Or.inl rfl) (Nat.le_of_ble_eq_true rfl) (Nat.le_of_ble_eq_true rfl) (Nat.le_of_ble_eq_true rfl) (Nat.le_of_ble_eq_true rfl) rfl ?_
        refine t_anHourX hF t4 (ch_ok (yr_ok hs j)) (fun M5 t5 e5 x5 => ?_)
        show lm_G X (d + 5) 240 106 0 0 77 [some (.ref 64), some (.int x), some (.int (nI n)), some (.int w), some (.int (nI j))] [] (lm_T M5 v G) Q
        refine lm_G_sg 1 (pc' := 80) (L' := [some (.ref 64), some (.int x), some (.int (nI n)), some (.int w), some (.int ((nI j) + 1))]) (S' := []) (σ' := lm_T M5 v G) rfl trivial ?_
        rw [nI_1]
        refine lm_G_sg 1 (pc' := 63) (L' := [some (.ref 64), some (.int x), some (.int (nI n)), some (.int w), some (.int (nI (j + 1)))]) (S' := []) (σ' := lm_T M5 v G) rfl trivial ?_
        exact ih _ (⟨t5, by rw [e5, e4, i2]; rfl, by rw [x5, x4]; rfl⟩)
      ·
        revert hI
        revert zz
        intro M2 hI
        replace hI : TM M F s M2 (yrB F x s n) ∧ M2 64 41 = (yrD F x s n) ∧ M2 64 53 = (yrX F x n) := hI
        show lm_G X (d + 5) 240 106 0 0 63 [some (.ref 64), some (.int x), some (.int (nI n)), some (.int w), some (.int (nI n))] [] (lm_T M2 v G) Q
        obtain ⟨t2, i2, i3⟩ := hI
        refine lm_G_sg 2 (pc' := 66) (L' := [some (.ref 64), some (.int x), some (.int (nI n)), some (.int w), some (.int (nI n))]) (S' := [.int (nI n), .int (nI n)]) (σ' := lm_T M2 v G) rfl trivial ?_
        refine lm_G_br (b := (nI n) ≤ (nI n)) (t := 83) (S' := []) rfl (fun hc => ?_) (fun hc => absurd (nI_le (Nat.le_refl _) (by omega)) hc)
        rcases isP_3 hw with rfl | rfl | rfl
        ·
          refine lm_G_sg 1 (pc' := 84) (L' := [some (.ref 64), some (.int x), some (.int (nI n)), some (.int 0), some (.int (nI n))]) (S' := [.int 0]) (σ' := lm_T M2 v G) rfl trivial ?_
          refine lm_G_br (b := ¬ 0 = 0) (t := 94) (S' := []) rfl (fun hc => absurd rfl hc) (fun hc => ?_)
          refine lm_G_sg 2 (pc' := 91) (L' := [some (.ref 64), some (.int x), some (.int (nI n)), some (.int 0), some (.int (nI n))]) (S' := [.int (M2 64 41)]) (σ' := lm_T M2 v G) rfl trivial ?_
          rw [show M2 64 41 = (yrD F x s n) from i2]
          refine lm_G_sg 1 (pc' := 113) (L' := [some (.ref 64), some (.int x), some (.int (nI n)), some (.int 0), some (.int (nI n))]) (S' := [.int (yrD F x s n)]) (σ' := lm_T M2 v G) rfl trivial ?_
          rw [show aYea F s x (nI n) 0 = .inl ((yrD F x s n)) from by simp +decide only [aYea, hw, hy, cn, if_true, if_false, Bool.and_true, Bool.true_and, Bool.and_self, Bool.false_and, Bool.and_false, Bool.false_eq_true]] at hQ
          refine lm_G_sg 5 (pc' := 121) (L' := [some (.ref 64), some (.int x), some (.int (nI n)), some (.int 0), some (.int (yrD F x s n))]) (S' := [.int 0, .ref 90, .ref 64]) (σ' := lm_T M2 v G) rfl trivial ?_
          refine lm_G_ca (j := 178) (as := [.ref 64, .ref 90, .int 0]) (rest := []) rfl (Or.inl rfl) (Nat.le_of_ble_eq_true rfl) (Nat.le_of_ble_eq_true rfl) (Nat.le_of_ble_eq_true rfl) (Nat.le_of_ble_eq_true rfl) rfl ?_
          refine t_unpack hF t2 (yr_br n) (fun M9 t9 => ?_)
          show lm_G X (d + 5) 240 106 0 0 124 [some (.ref 64), some (.int x), some (.int (nI n)), some (.int 0), some (.int (yrD F x s n))] [] (lm_T M9 v G) Q
          refine lm_G_sg 1 (pc' := 126) (L' := [some (.ref 64), some (.int x), some (.int (nI n)), some (.int 0), some (.int (yrD F x s n))]) (S' := [.int (yrD F x s n)]) (σ' := lm_T M9 v G) rfl trivial ?_
          exact lm_G_re rfl trivial (Nat.zero_le _) (Nat.zero_le _) (hQ _ t9.1 t9.2.1 t9.2.2.2.1)
        ·
          refine lm_G_sg 1 (pc' := 84) (L' := [some (.ref 64), some (.int x), some (.int (nI n)), some (.int 1), some (.int (nI n))]) (S' := [.int 1]) (σ' := lm_T M2 v G) rfl trivial ?_
          refine lm_G_br (b := ¬ 1 = 0) (t := 94) (S' := []) rfl (fun hc => ?_) (fun hc => absurd (by decide) hc)
          refine lm_G_sg 2 (pc' := 96) (L' := [some (.ref 64), some (.int x), some (.int (nI n)), some (.int 1), some (.int (nI n))]) (S' := [.int 1, .int 1]) (σ' := lm_T M2 v G) rfl trivial ?_
          refine lm_G_br (b := ¬ 1 = 1) (t := 106) (S' := []) rfl (fun hc => absurd rfl hc) (fun hc => ?_)
          refine lm_G_sg 1 (pc' := 100) (L' := [some (.ref 64), some (.int x), some (.int (nI n)), some (.int 1), some (.int (nI n))]) (S' := [.ref 64]) (σ' := lm_T M2 v G) rfl trivial ?_
          refine lm_G_ca (j := 199) (as := [.ref 64]) (rest := []) rfl (Or.inl rfl) (Nat.le_of_ble_eq_true rfl) (Nat.le_of_ble_eq_true rfl) (Nat.le_of_ble_eq_true rfl) (Nat.le_of_ble_eq_true rfl) rfl ?_
          refine m_unowned hF t2.1 ?_
          show lm_G X (d + 5) 240 106 0 0 103 [some (.ref 64), some (.int x), some (.int (nI n)), some (.int 1), some (.int (nI n))] [.int (cnt (ownS F (sOw (yrB F x s n)) (-1)))] (lm_T M2 v G) Q
          refine lm_G_sg 1 (pc' := 113) (L' := [some (.ref 64), some (.int x), some (.int (nI n)), some (.int 1), some (.int (nI n))]) (S' := [.int (cnt (ownS F (sOw (yrB F x s n)) (-1)))]) (σ' := lm_T M2 v G) rfl trivial ?_
          rw [show aYea F s x (nI n) 1 = .inl (cnt (ownS F (sOw (yrB F x s n)) (-1))) from by simp +decide only [aYea, hw, hy, cn, if_true, if_false, Bool.and_true, Bool.true_and, Bool.and_self, Bool.false_and, Bool.and_false, Bool.false_eq_true]] at hQ
          refine lm_G_sg 5 (pc' := 121) (L' := [some (.ref 64), some (.int x), some (.int (nI n)), some (.int 1), some (.int (cnt (ownS F (sOw (yrB F x s n)) (-1))))]) (S' := [.int 0, .ref 90, .ref 64]) (σ' := lm_T M2 v G) rfl trivial ?_
          refine lm_G_ca (j := 178) (as := [.ref 64, .ref 90, .int 0]) (rest := []) rfl (Or.inl rfl) (Nat.le_of_ble_eq_true rfl) (Nat.le_of_ble_eq_true rfl) (Nat.le_of_ble_eq_true rfl) (Nat.le_of_ble_eq_true rfl) rfl ?_
          refine t_unpack hF t2 (yr_br n) (fun M9 t9 => ?_)
          show lm_G X (d + 5) 240 106 0 0 124 [some (.ref 64), some (.int x), some (.int (nI n)), some (.int 1), some (.int (cnt (ownS F (sOw (yrB F x s n)) (-1))))] [] (lm_T M9 v G) Q
          refine lm_G_sg 1 (pc' := 126) (L' := [some (.ref 64), some (.int x), some (.int (nI n)), some (.int 1), some (.int (cnt (ownS F (sOw (yrB F x s n)) (-1))))]) (S' := [.int (cnt (ownS F (sOw (yrB F x s n)) (-1)))]) (σ' := lm_T M9 v G) rfl trivial ?_
          exact lm_G_re rfl trivial (Nat.zero_le _) (Nat.zero_le _) (hQ _ t9.1 t9.2.1 t9.2.2.2.1)
        ·
          refine lm_G_sg 1 (pc' := 84) (L' := [some (.ref 64), some (.int x), some (.int (nI n)), some (.int 2), some (.int (nI n))]) (S' := [.int 2]) (σ' := lm_T M2 v G) rfl trivial ?_
          refine lm_G_br (b := ¬ 2 = 0) (t := 94) (S' := []) rfl (fun hc => ?_) (fun hc => absurd (by decide) hc)
          refine lm_G_sg 2 (pc' := 96) (L' := [some (.ref 64), some (.int x), some (.int (nI n)), some (.int 2), some (.int (nI n))]) (S' := [.int 1, .int 2]) (σ' := lm_T M2 v G) rfl trivial ?_
          refine lm_G_br (b := ¬ 2 = 1) (t := 106) (S' := []) rfl (fun hc => ?_) (fun hc => absurd (by decide) hc)
          refine lm_G_sg 1 (pc' := 107) (L' := [some (.ref 64), some (.int x), some (.int (nI n)), some (.int 2), some (.int (nI n))]) (S' := [.ref 64]) (σ' := lm_T M2 v G) rfl trivial ?_
          refine lm_G_ca (j := 182) (as := [.ref 64]) (rest := []) rfl (Or.inl rfl) (Nat.le_of_ble_eq_true rfl) (Nat.le_of_ble_eq_true rfl) (Nat.le_of_ble_eq_true rfl) (Nat.le_of_ble_eq_true rfl) rfl ?_
          refine m_allWhoHum hF t2.1 ?_
          show lm_G X (d + 5) 240 106 0 0 110 [some (.ref 64), some (.int x), some (.int (nI n)), some (.int 2), some (.int (nI n))] [.int (msk (fun p => decide (sHu (yrB F x s n) p ≠ -1)) (fN F))] (lm_T M2 v G) Q
          refine lm_G_ca (j := 144) (as := [.int (msk (fun p => decide (sHu (yrB F x s n) p ≠ -1)) (fN F))]) (rest := []) rfl (Or.inl rfl) (Nat.le_of_ble_eq_true rfl) (Nat.le_of_ble_eq_true rfl) (Nat.le_of_ble_eq_true rfl) (Nat.le_of_ble_eq_true rfl) rfl ?_
          refine m_bits (msk_lt _ _ hF.n) ?_
          show lm_G X (d + 5) 240 106 0 0 113 [some (.ref 64), some (.int x), some (.int (nI n)), some (.int 2), some (.int (nI n))] [.int (cnt (msk (fun p => decide (sHu (yrB F x s n) p ≠ -1)) (fN F)))] (lm_T M2 v G) Q
          rw [show aYea F s x (nI n) 2 = .inl (cnt (msk (fun p => decide (sHu (yrB F x s n) p ≠ -1)) (fN F))) from by simp +decide only [aYea, hw, hy, cn, if_true, if_false, Bool.and_true, Bool.true_and, Bool.and_self, Bool.false_and, Bool.and_false, Bool.false_eq_true]] at hQ
          refine lm_G_sg 5 (pc' := 121) (L' := [some (.ref 64), some (.int x), some (.int (nI n)), some (.int 2), some (.int (cnt (msk (fun p => decide (sHu (yrB F x s n) p ≠ -1)) (fN F))))]) (S' := [.int 0, .ref 90, .ref 64]) (σ' := lm_T M2 v G) rfl trivial ?_
          refine lm_G_ca (j := 178) (as := [.ref 64, .ref 90, .int 0]) (rest := []) rfl (Or.inl rfl) (Nat.le_of_ble_eq_true rfl) (Nat.le_of_ble_eq_true rfl) (Nat.le_of_ble_eq_true rfl) (Nat.le_of_ble_eq_true rfl) rfl ?_
          refine t_unpack hF t2 (yr_br n) (fun M9 t9 => ?_)
          show lm_G X (d + 5) 240 106 0 0 124 [some (.ref 64), some (.int x), some (.int (nI n)), some (.int 2), some (.int (cnt (msk (fun p => decide (sHu (yrB F x s n) p ≠ -1)) (fN F))))] [] (lm_T M9 v G) Q
          refine lm_G_sg 1 (pc' := 126) (L' := [some (.ref 64), some (.int x), some (.int (nI n)), some (.int 2), some (.int (cnt (msk (fun p => decide (sHu (yrB F x s n) p ≠ -1)) (fN F))))]) (S' := [.int (cnt (msk (fun p => decide (sHu (yrB F x s n) p ≠ -1)) (fN F)))]) (σ' := lm_T M9 v G) rfl trivial ?_
          exact lm_G_re rfl trivial (Nat.zero_le _) (Nat.zero_le _) (hQ _ t9.1 t9.2.1 t9.2.2.2.1)
      ·
        try dsimp only
        exact ⟨t3, e3, x3⟩
