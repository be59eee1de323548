/-! ===== contracts: the class's hour ===== -/
set_option maxRecDepth 10000 in
theorem c_boj28 {X : lm_X} {d v : Nat} {M : Nat → Nat → Int32} {G : Nat → Nat → Int64} {Q : lm_O → lm_S → Prop} {F : Fa} {s : Sc} {p : Nat} (hF : okF F) (h : RC 28 M F s) (hp : p < fN F) (h0 : sHu s p = -1) (hQ : ∀ M1, RC 28 M1 F (bojS F s p) → FrC 28 M M1 → M1 28 13 = M 28 13 → Q (.inl none) (lm_T M1 v G)) : lm_Q X (d + 3) 77 [.ref 28, .int (nI p)] (lm_T M v G) Q := by
  have hn := hF.n
  have hm := hF.m
  show lm_G X (d + 3) 77 106 0 0 0 [some (.ref 28), some (.int (nI p)), none, none] [] (lm_T M v G) Q
  refine lm_G_sg 2 (pc' := 2) (L' := [some (.ref 28), some (.int (nI p)), some (.int 0), none]) (S' := []) (σ' := lm_T M v G) rfl trivial ?_
  refine lm_ind (α := Unit) (St := fun (j : Nat) zz => lm_G X (d + 3) 77 106 0 0 2 [some (.ref 28), some (.int (nI p)), some (.int (nI j)), none] [] (lm_T M v G) Q) (Inv := fun (j : Nat) zz => fstS (begS F s p) j = none) (fM F) (fun j zz hj hI ih => ?_) (fun zz hI => ?_) (0) () (by omega) ?_
  ·
    replace hI : fstS (begS F s p) j = none := hI
    replace ih : ∀ (_ : fstS (begS F s p) (j + 1) = none), lm_G X (d + 3) 77 106 0 0 2 [some (.ref 28), some (.int (nI p)), some (.int (nI (j + 1))), none] [] (lm_T M v G) Q := fun q => ih () q
    show lm_G X (d + 3) 77 106 0 0 2 [some (.ref 28), some (.int (nI p)), some (.int (nI j)), none] [] (lm_T M v G) Q
    refine lm_G_sg 4 (pc' := 10) (L' := [some (.ref 28), some (.int (nI p)), some (.int (nI j)), none]) (S' := [.int (M 14 6), .int (nI j)]) (σ' := lm_T M v G) rfl trivial ?_
    rw [show M 14 6 = nI (fM F) from h.m]
    refine lm_G_br (b := (nI (fM F)) ≤ (nI j)) (t := 45) (S' := []) rfl (fun hc => absurd hc (nI_ge hj (by omega))) (fun hc => ?_)
    refine lm_G_sg 4 (pc' := 19) (L' := [some (.ref 28), some (.int (nI p)), some (.int (nI j)), none]) (S' := [.int (M 35 (nI j).toNatClampNeg)]) (σ' := lm_T M v G) rfl ⟨(vp_in_nI (by omega) (by omega)), trivial, trivial⟩ ?_
    rw [show (nI j).toNatClampNeg = j from nI_clamp (by omega)]
    rw [show M 35 j = sOw s j from h.ow j (by omega)]
    refine lm_G_sg 1 (pc' := 20) (L' := [some (.ref 28), some (.int (nI p)), some (.int (nI j)), none]) (S' := [.int (nI p), .int (sOw s j)]) (σ' := lm_T M v G) rfl trivial ?_
    refine lm_G_br (b := ¬ (sOw s j) = (nI p)) (t := 39) (S' := []) rfl (fun h5 => ?_) (fun h5 => ?_)
    ·
      refine lm_G_sg 1 (pc' := 42) (L' := [some (.ref 28), some (.int (nI p)), some (.int ((nI j) + 1)), none]) (S' := []) (σ' := lm_T M v G) rfl trivial ?_
      rw [nI_1]
      refine lm_G_sg 1 (pc' := 2) (L' := [some (.ref 28), some (.int (nI p)), some (.int (nI (j + 1))), none]) (S' := []) (σ' := lm_T M v G) rfl trivial ?_
      exact ih  (by rw [fst_nx hI]; simp [begS, h5])
    ·
      refine lm_G_sg 4 (pc' := 29) (L' := [some (.ref 28), some (.int (nI p)), some (.int (nI j)), none]) (S' := [.int (M 36 (nI j).toNatClampNeg)]) (σ' := lm_T M v G) rfl ⟨(vp_in_nI (by omega) (by omega)), trivial, trivial⟩ ?_
      rw [show (nI j).toNatClampNeg = j from nI_clamp (by omega)]
      rw [show M 36 j = humS F (sHu s) (nI j) from h.hs j (by omega)]
      refine lm_G_br (b := ¬ (humS F (sHu s) (nI j)) = 0) (t := 39) (S' := []) rfl (fun h6 => ?_) (fun h6 => ?_)
      ·
        refine lm_G_sg 1 (pc' := 42) (L' := [some (.ref 28), some (.int (nI p)), some (.int ((nI j) + 1)), none]) (S' := []) (σ' := lm_T M v G) rfl trivial ?_
        rw [nI_1]
        refine lm_G_sg 1 (pc' := 2) (L' := [some (.ref 28), some (.int (nI p)), some (.int (nI (j + 1))), none]) (S' := []) (σ' := lm_T M v G) rfl trivial ?_
        exact ih  (by rw [fst_nx hI]; simp [begS, h6])
      ·
        refine lm_G_sg 3 (pc' := 35) (L' := [some (.ref 28), some (.int (nI p)), some (.int (nI j)), none]) (S' := [.int (nI j), .int (nI p), .ref 28]) (σ' := lm_T M v G) rfl trivial ?_
        refine lm_G_ca (j := 67) (as := [.ref 28, .int (nI p), .int (nI j)]) (rest := []) rfl (Or.inl rfl) (Nat.le_of_ble_eq_true rfl) (Nat.le_of_ble_eq_true rfl) (Nat.le_of_ble_eq_true rfl) (Nat.le_of_ble_eq_true rfl) rfl ?_
        refine c_start28 hF h hp hj ?_
        show lm_G X (d + 3) 77 106 0 0 38 [some (.ref 28), some (.int (nI p)), some (.int (nI j)), none] [] (lm_T (lm_wr (lm_wr M 32 p (nI j)) 36 j (humS F (sHu s) (nI j) ||| bit1 (nI p))) v G) Q
        have hx : fstS (begS F s p) (j + 1) = some j := by rw [fst_nx hI]; simp [begS, Classical.not_not.mp h5, Classical.not_not.mp h6]
        rw [boj_1 (fst_some hx hj)] at hQ
        exact lm_G_re rfl trivial (Nat.zero_le _) (Nat.zero_le _) (hQ _ (RC_hums28 hF h hp hj h0) (FrC_wr (FrC_wr (FrC_rf _ _) rfl (by decide)) rfl (by decide)) rfl)
  ·
    replace hI : fstS (begS F s p) (fM F) = none := hI
    show lm_G X (d + 3) 77 106 0 0 2 [some (.ref 28), some (.int (nI p)), some (.int (nI (fM F))), none] [] (lm_T M v G) Q
    refine lm_G_sg 4 (pc' := 10) (L' := [some (.ref 28), some (.int (nI p)), some (.int (nI (fM F))), none]) (S' := [.int (M 14 6), .int (nI (fM F))]) (σ' := lm_T M v G) rfl trivial ?_
    rw [show M 14 6 = nI (fM F) from h.m]
    refine lm_G_br (b := (nI (fM F)) ≤ (nI (fM F))) (t := 45) (S' := []) rfl (fun hc => ?_) (fun hc => absurd (nI_le (Nat.le_refl _) (by omega)) hc)
    have eq := boj_2 hI
    refine lm_G_sg 2 (pc' := 47) (L' := [some (.ref 28), some (.int (nI p)), some (.int 0), none]) (S' := []) (σ' := lm_T M v G) rfl trivial ?_
    refine lm_ind (α := (Nat → Fn)) (St := fun (j : Nat) zz => (fun (M1 : Nat → Fn) => lm_G X (d + 3) 77 106 0 0 47 [some (.ref 28), some (.int (nI p)), some (.int (nI j)), none] [] (lm_T M1 v G) Q) zz) (Inv := fun (j : Nat) zz => (fun (M1 : Nat → Fn) => fstS (joinS F s p) j = none ∧ Fr frR M M1) zz) (fM F) (fun j zz hj2 hI2 ih2 => ?_) (fun zz hI2 => ?_) (0) M (by omega) ?_
    ·
      revert ih2 hI2
      revert zz
      intro M1 hI2 ih2
      replace hI2 : fstS (joinS F s p) j = none ∧ Fr frR M M1 := hI2
      replace ih2 : ∀ (M1 : Nat → Fn) (_ : fstS (joinS F s p) (j + 1) = none ∧ Fr frR M M1), lm_G X (d + 3) 77 106 0 0 47 [some (.ref 28), some (.int (nI p)), some (.int (nI (j + 1))), none] [] (lm_T M1 v G) Q := fun M1 q => ih2 M1 q
      show lm_G X (d + 3) 77 106 0 0 47 [some (.ref 28), some (.int (nI p)), some (.int (nI j)), none] [] (lm_T M1 v G) Q
      obtain ⟨i1, i2⟩ := hI2
      have h1 := RC_R28 h i2
      refine lm_G_sg 4 (pc' := 55) (L' := [some (.ref 28), some (.int (nI p)), some (.int (nI j)), none]) (S' := [.int (M1 14 6), .int (nI j)]) (σ' := lm_T M1 v G) rfl trivial ?_
      rw [show M1 14 6 = nI (fM F) from h1.m]
      refine lm_G_br (b := (nI (fM F)) ≤ (nI j)) (t := 113) (S' := []) rfl (fun hc => absurd hc (nI_ge hj2 (by omega))) (fun hc => ?_)
      refine lm_G_sg 4 (pc' := 64) (L' := [some (.ref 28), some (.int (nI p)), some (.int (nI j)), none]) (S' := [.int (M1 36 (nI j).toNatClampNeg)]) (σ' := lm_T M1 v G) rfl ⟨(vp_in_nI (by omega) (by omega)), trivial, trivial⟩ ?_
      rw [show (nI j).toNatClampNeg = j from nI_clamp (by omega)]
      rw [show M1 36 j = humS F (sHu s) (nI j) from h1.hs j (by omega)]
      refine lm_G_sg 4 (pc' := 70) (L' := [some (.ref 28), some (.int (nI p)), some (.int (nI j)), none]) (S' := [.int (M1 37 (nI p).toNatClampNeg), .int (humS F (sHu s) (nI j))]) (σ' := lm_T M1 v G) rfl ⟨(vp_in_nI (by omega) (by omega)), trivial, trivial⟩ ?_
      rw [show (nI p).toNatClampNeg = p from nI_clamp (by omega)]
      rw [show M1 37 p = heardS F (sPl s) p from h1.he p (by omega)]
      refine lm_G_sg 1 (pc' := 71) (L' := [some (.ref 28), some (.int (nI p)), some (.int (nI j)), none]) (S' := [.int ((humS F (sHu s) (nI j)) &&& (heardS F (sPl s) p))]) (σ' := lm_T M1 v G) rfl trivial ?_
      refine lm_G_br (b := ((humS F (sHu s) (nI j)) &&& (heardS F (sPl s) p)) = 0) (t := 78) (S' := []) rfl (fun h5 => ?_) (fun h5 => ?_)
      ·
        refine lm_G_sg 3 (pc' := 81) (L' := [some (.ref 28), some (.int (nI p)), some (.int (nI j)), some (.int 0)]) (S' := [.int 0]) (σ' := lm_T M1 v G) rfl trivial ?_
        refine lm_G_br (b := 0 = 0) (t := 107) (S' := []) rfl (fun h7 => ?_) (fun h7 => absurd rfl h7)
        refine lm_G_sg 1 (pc' := 110) (L' := [some (.ref 28), some (.int (nI p)), some (.int ((nI j) + 1)), some (.int 0)]) (S' := []) (σ' := lm_T M1 v G) rfl trivial ?_
        rw [nI_1]
        refine lm_G_sg 1 (pc' := 47) (L' := [some (.ref 28), some (.int (nI p)), some (.int (nI (j + 1))), some (.int 0)]) (S' := []) (σ' := lm_T M1 v G) rfl trivial ?_
        refine lm_G_jk (L := [some (.ref 28), some (.int (nI p)), some (.int (nI (j + 1))), none]) ⟨rfl, rfl, rfl, trivial⟩ ?_
        exact ih2 _ (⟨by rw [fst_nx i1]; simp [joinS, h5], i2⟩)
      ·
        refine lm_G_sg 4 (pc' := 81) (L' := [some (.ref 28), some (.int (nI p)), some (.int (nI j)), some (.int 1)]) (S' := [.int 1]) (σ' := lm_T M1 v G) rfl trivial ?_
        refine lm_G_br (b := 1 = 0) (t := 107) (S' := []) rfl (fun h7 => absurd h7 (by decide)) (fun h7 => ?_)
        refine lm_G_sg 7 (pc' := 91) (L' := [some (.ref 28), some (.int (nI p)), some (.int (nI j)), some (.int 1)]) (S' := [.int (nI j), .int (nI p), .ref 28, .int (nI j), .int (nI p), .int 1, .ref 28]) (σ' := lm_T M1 v G) rfl trivial ?_
        refine lm_G_ca (j := 79) (as := [.ref 28, .int (nI p), .int (nI j)]) (rest := [.int (nI j), .int (nI p), .int 1, .ref 28]) rfl (Or.inl rfl) (Nat.le_of_ble_eq_true rfl) (Nat.le_of_ble_eq_true rfl) (Nat.le_of_ble_eq_true rfl) (Nat.le_of_ble_eq_true rfl) rfl ?_
        refine c_nearest28 hF h1 hp hj2 ?_
        show lm_G X (d + 3) 77 106 0 0 94 [some (.ref 28), some (.int (nI p)), some (.int (nI j)), some (.int 1)] [.int (nearS F s p (nI j) 30 (fN F)), .int (nI j), .int (nI p), .int 1, .ref 28] (lm_T M1 v G) Q
        refine lm_G_ca (j := 78) (as := [.ref 28, .int 1, .int (nI p), .int (nI j), .int (nearS F s p (nI j) 30 (fN F))]) (rest := []) rfl (Or.inl rfl) (Nat.le_of_ble_eq_true rfl) (Nat.le_of_ble_eq_true rfl) (Nat.le_of_ble_eq_true rfl) (Nat.le_of_ble_eq_true rfl) rfl ?_
        refine c_ruleGives1_28 hF h1 hp hj2 (fun M2 f2 => ?_)
        show lm_G X (d + 3) 77 106 0 0 97 [some (.ref 28), some (.int (nI p)), some (.int (nI j)), some (.int 1)] [.int (if fR1 F = [] then 0 else reckS (vsS F s p j (nearS F s p (nI j) 30 (fN F))) (fR1 F))] (lm_T M2 v G) Q
        refine lm_G_br (b := (if fR1 F = [] then 0 else reckS (vsS F s p j (nearS F s p (nI j) 30 (fN F))) (fR1 F)) ≤ 0) (t := 107) (S' := []) rfl (fun h8 => ?_) (fun h8 => ?_)
        ·
          refine lm_G_sg 1 (pc' := 110) (L' := [some (.ref 28), some (.int (nI p)), some (.int ((nI j) + 1)), some (.int 1)]) (S' := []) (σ' := lm_T M2 v G) rfl trivial ?_
          rw [nI_1]
          refine lm_G_sg 1 (pc' := 47) (L' := [some (.ref 28), some (.int (nI p)), some (.int (nI (j + 1))), some (.int 1)]) (S' := []) (σ' := lm_T M2 v G) rfl trivial ?_
          have e : joinS F s p j = false := by
            unfold joinS
            by_cases w : fR1 F = []
            · simp [w]
            · rw [if_neg w] at h8
              simp [w, h8]
          refine lm_G_jk (L := [some (.ref 28), some (.int (nI p)), some (.int (nI (j + 1))), none]) ⟨rfl, rfl, rfl, trivial⟩ ?_
          exact ih2 _ (⟨by rw [fst_nx i1, e]; rfl, Fr_tr i2 f2⟩)
        ·
          have e : joinS F s p j = true := by
            unfold joinS
            by_cases w : fR1 F = []
            · rw [if_pos w] at h8
              exact absurd (by decide) h8
            · rw [if_neg w] at h8
              simp [w, Int32.not_le.mp h8, h5]
          have f3 := Fr_tr i2 f2
          have h3 := RC_R28 h f3
          refine lm_G_sg 3 (pc' := 103) (L' := [some (.ref 28), some (.int (nI p)), some (.int (nI j)), some (.int 1)]) (S' := [.int (nI j), .int (nI p), .ref 28]) (σ' := lm_T M2 v G) rfl trivial ?_
          refine lm_G_ca (j := 67) (as := [.ref 28, .int (nI p), .int (nI j)]) (rest := []) rfl (Or.inl rfl) (Nat.le_of_ble_eq_true rfl) (Nat.le_of_ble_eq_true rfl) (Nat.le_of_ble_eq_true rfl) (Nat.le_of_ble_eq_true rfl) rfl ?_
          refine c_start28 hF h3 hp hj2 ?_
          show lm_G X (d + 3) 77 106 0 0 106 [some (.ref 28), some (.int (nI p)), some (.int (nI j)), some (.int 1)] [] (lm_T (lm_wr (lm_wr M2 32 p (nI j)) 36 j (humS F (sHu s) (nI j) ||| bit1 (nI p))) v G) Q
          have hx : fstS (joinS F s p) (j + 1) = some j := by rw [fst_nx i1, e]; rfl
          rw [eq, bj2_s (fst_some hx hj2)] at hQ
          exact lm_G_re rfl trivial (Nat.zero_le _) (Nat.zero_le _) (hQ _ (RC_hums28 hF h3 hp hj2 h0) (FrC_wr (FrC_wr (FrC_R f3 rfl) rfl (by decide)) rfl (by decide)) (by show M2 28 13 = M 28 13; rw [f3 28 rfl]))
    ·
      revert hI2
      revert zz
      intro M1 hI2
      replace hI2 : fstS (joinS F s p) (fM F) = none ∧ Fr frR M M1 := hI2
      show lm_G X (d + 3) 77 106 0 0 47 [some (.ref 28), some (.int (nI p)), some (.int (nI (fM F))), none] [] (lm_T M1 v G) Q
      obtain ⟨i1, i2⟩ := hI2
      have h1 := RC_R28 h i2
      refine lm_G_sg 4 (pc' := 55) (L' := [some (.ref 28), some (.int (nI p)), some (.int (nI (fM F))), none]) (S' := [.int (M1 14 6), .int (nI (fM F))]) (σ' := lm_T M1 v G) rfl trivial ?_
      rw [show M1 14 6 = nI (fM F) from h1.m]
      refine lm_G_br (b := (nI (fM F)) ≤ (nI (fM F))) (t := 113) (S' := []) rfl (fun hc => ?_) (fun hc => absurd (nI_le (Nat.le_refl _) (by omega)) hc)
      rw [eq, bj2_n i1] at hQ
      exact lm_G_re rfl trivial (Nat.zero_le _) (Nat.zero_le _) (hQ _ h1 (FrC_R i2 rfl) (by rw [i2 28 rfl]))
    ·
      try dsimp only
      exact ⟨rfl, Fr_rf _ _⟩
  ·
    try dsimp only
    rfl
set_option maxRecDepth 10000 in
theorem c_passHour28 {X : lm_X} {d v : Nat} {M : Nat → Nat → Int32} {G : Nat → Nat → Int64} {Q : lm_O → lm_S → Prop} {F : Fa} {s : Sc} {lf : Nat → Bool} (hF : okF F) (h : RC 28 M F s) (hs : okS F s) (hl : ∀ p, p < fN F → decide (nI p = M 28 12) = lf p) (hQ : ∀ M1, RC 28 M1 F (hourS F lf s) → FrC 28 M M1 → M1 28 13 = M 28 13 + (hourD F s) → Q (.inl none) (lm_T M1 v G)) : lm_Q X (d + 5) 74 [.ref 28] (lm_T M v G) Q := by
  have hn := hF.n
  have hm := hF.m
  show lm_G X (d + 5) 74 106 0 0 0 [some (.ref 28), none, none, none] [] (lm_T M v G) Q
  refine lm_G_sg 1 (pc' := 1) (L' := [some (.ref 28), none, none, none]) (S' := [.ref 28]) (σ' := lm_T M v G) rfl trivial ?_
  refine lm_G_ca (j := 75) (as := [.ref 28]) (rest := []) rfl (Or.inl rfl) (Nat.le_of_ble_eq_true rfl) (Nat.le_of_ble_eq_true rfl) (Nat.le_of_ble_eq_true rfl) (Nat.le_of_ble_eq_true rfl) rfl ?_
  refine c_ask28 hF h hs (fun M1 f1 => ?_)
  show lm_G X (d + 5) 74 106 0 0 4 [some (.ref 28), none, none, none] [.int (msk (stopW F s) (fN F))] (lm_T M1 v G) Q
  have h1 := RC_R28 h f1
  refine lm_G_sg 3 (pc' := 7) (L' := [some (.ref 28), some (.int (msk (stopW F s) (fN F))), some (.int 0), none]) (S' := []) (σ' := lm_T M1 v G) rfl trivial ?_
  refine lm_ind (α := (Nat → Fn)) (St := fun (j : Nat) zz => (fun (M2 : Nat → Fn) => lm_G X (d + 5) 74 106 0 0 7 [some (.ref 28), some (.int (msk (stopW F s) (fN F))), some (.int (nI j)), none] [] (lm_T M2 v G) Q) zz) (Inv := fun (j : Nat) zz => (fun (M2 : Nat → Fn) => RC 28 M2 F (allS F (bitW (msk (stopW F s) (fN F))) s j) ∧ FrC 28 M1 M2 ∧ M2 28 13 = M1 28 13 + allD F (bitW (msk (stopW F s) (fN F))) s j) zz) (fM F) (fun j zz hj hI ih => ?_) (fun zz hI => ?_) (0) M1 (by omega) ?_
  ·
    revert ih hI
    revert zz
    intro M2 hI ih
    replace hI : RC 28 M2 F (allS F (bitW (msk (stopW F s) (fN F))) s j) ∧ FrC 28 M1 M2 ∧ M2 28 13 = M1 28 13 + allD F (bitW (msk (stopW F s) (fN F))) s j := hI
    replace ih : ∀ (M2 : Nat → Fn) (_ : RC 28 M2 F (allS F (bitW (msk (stopW F s) (fN F))) s (j + 1)) ∧ FrC 28 M1 M2 ∧ M2 28 13 = M1 28 13 + allD F (bitW (msk (stopW F s) (fN F))) s (j + 1)), lm_G X (d + 5) 74 106 0 0 7 [some (.ref 28), some (.int (msk (stopW F s) (fN F))), some (.int (nI (j + 1))), none] [] (lm_T M2 v G) Q := fun M2 q => ih M2 q
    show lm_G X (d + 5) 74 106 0 0 7 [some (.ref 28), some (.int (msk (stopW F s) (fN F))), some (.int (nI j)), none] [] (lm_T M2 v G) Q
    obtain ⟨h2, f2, t2⟩ := hI
    refine lm_G_sg 4 (pc' := 15) (L' := [some (.ref 28), some (.int (msk (stopW F s) (fN F))), some (.int (nI j)), none]) (S' := [.int (M2 14 6), .int (nI j)]) (σ' := lm_T M2 v G) rfl trivial ?_
    rw [show M2 14 6 = nI (fM F) from h2.m]
    refine lm_G_br (b := (nI (fM F)) ≤ (nI j)) (t := 30) (S' := []) rfl (fun hc => absurd hc (nI_ge hj (by omega))) (fun hc => ?_)
    refine lm_G_sg 3 (pc' := 21) (L' := [some (.ref 28), some (.int (msk (stopW F s) (fN F))), some (.int (nI j)), none]) (S' := [.int (nI j), .int (msk (stopW F s) (fN F)), .ref 28]) (σ' := lm_T M2 v G) rfl trivial ?_
    refine lm_G_ca (j := 72) (as := [.ref 28, .int (msk (stopW F s) (fN F)), .int (nI j)]) (rest := []) rfl (Or.inl rfl) (Nat.le_of_ble_eq_true rfl) (Nat.le_of_ble_eq_true rfl) (Nat.le_of_ble_eq_true rfl) (Nat.le_of_ble_eq_true rfl) rfl ?_
    refine c_stopT28 hF h2 hj (fun M3 h3 f3 t3 => ?_)
    show lm_G X (d + 5) 74 106 0 0 24 [some (.ref 28), some (.int (msk (stopW F s) (fN F))), some (.int (nI j)), none] [] (lm_T M3 v G) Q
    refine lm_G_sg 1 (pc' := 27) (L' := [some (.ref 28), some (.int (msk (stopW F s) (fN F))), some (.int ((nI j) + 1)), none]) (S' := []) (σ' := lm_T M3 v G) rfl trivial ?_
    rw [nI_1]
    refine lm_G_sg 1 (pc' := 7) (L' := [some (.ref 28), some (.int (msk (stopW F s) (fN F))), some (.int (nI (j + 1))), none]) (S' := []) (σ' := lm_T M3 v G) rfl trivial ?_
    exact ih _ (⟨h3, FrC_tr f2 f3, by rw [t3, t2, Int32.add_assoc]; rfl⟩)
  ·
    revert hI
    revert zz
    intro M2 hI
    replace hI : RC 28 M2 F (allS F (bitW (msk (stopW F s) (fN F))) s (fM F)) ∧ FrC 28 M1 M2 ∧ M2 28 13 = M1 28 13 + allD F (bitW (msk (stopW F s) (fN F))) s (fM F) := hI
    show lm_G X (d + 5) 74 106 0 0 7 [some (.ref 28), some (.int (msk (stopW F s) (fN F))), some (.int (nI (fM F))), none] [] (lm_T M2 v G) Q
    obtain ⟨h2, f2, t2⟩ := hI
    refine lm_G_sg 4 (pc' := 15) (L' := [some (.ref 28), some (.int (msk (stopW F s) (fN F))), some (.int (nI (fM F))), none]) (S' := [.int (M2 14 6), .int (nI (fM F))]) (σ' := lm_T M2 v G) rfl trivial ?_
    rw [show M2 14 6 = nI (fM F) from h2.m]
    refine lm_G_br (b := (nI (fM F)) ≤ (nI (fM F))) (t := 30) (S' := []) rfl (fun hc => ?_) (fun hc => absurd (nI_le (Nat.le_refl _) (by omega)) hc)
    have hc2 := all_congr (F := F) (W := (bitW (msk (stopW F s) (fN F)))) (V := (stopW F s)) (fun q hq => bitW_mskn (by omega) hq) s (fM F)
    rw [hc2.1] at h2
    rw [hc2.2, f1 28 rfl] at t2
    have g2 : FrC 28 M M2 := FrC_tr (FrC_R f1 rfl) f2
    refine lm_G_sg 2 (pc' := 32) (L' := [some (.ref 28), some (.int (msk (stopW F s) (fN F))), some (.int 0), none]) (S' := []) (σ' := lm_T M2 v G) rfl trivial ?_
    refine lm_ind (α := (Nat → Fn)) (St := fun (j : Nat) zz => (fun (M3 : Nat → Fn) => lm_G X (d + 5) 74 106 0 0 32 [some (.ref 28), some (.int (msk (stopW F s) (fN F))), some (.int (nI j)), none] [] (lm_T M3 v G) Q) zz) (Inv := fun (j : Nat) zz => (fun (M3 : Nat → Fn) => RC 28 M3 F (begA F (stopW F s) lf (allS F (stopW F s) s (fM F)) j) ∧ FrC 28 M M3 ∧ M3 28 13 = M 28 13 + hourD F s) zz) (fN F) (fun j zz hj2 hI2 ih2 => ?_) (fun zz hI2 => ?_) (0) M2 (by omega) ?_
    ·
      revert ih2 hI2
      revert zz
      intro M3 hI2 ih2
      replace hI2 : RC 28 M3 F (begA F (stopW F s) lf (allS F (stopW F s) s (fM F)) j) ∧ FrC 28 M M3 ∧ M3 28 13 = M 28 13 + hourD F s := hI2
      replace ih2 : ∀ (M3 : Nat → Fn) (_ : RC 28 M3 F (begA F (stopW F s) lf (allS F (stopW F s) s (fM F)) (j + 1)) ∧ FrC 28 M M3 ∧ M3 28 13 = M 28 13 + hourD F s), lm_G X (d + 5) 74 106 0 0 32 [some (.ref 28), some (.int (msk (stopW F s) (fN F))), some (.int (nI (j + 1))), none] [] (lm_T M3 v G) Q := fun M3 q => ih2 M3 q
      show lm_G X (d + 5) 74 106 0 0 32 [some (.ref 28), some (.int (msk (stopW F s) (fN F))), some (.int (nI j)), none] [] (lm_T M3 v G) Q
      obtain ⟨h3, f3, t3⟩ := hI2
      have eb : (bitW (msk (stopW F s) (fN F))) j = (stopW F s) j := bitW_mskn (by omega) hj2
      refine lm_G_sg 4 (pc' := 40) (L' := [some (.ref 28), some (.int (msk (stopW F s) (fN F))), some (.int (nI j)), none]) (S' := [.int (M3 14 0), .int (nI j)]) (σ' := lm_T M3 v G) rfl trivial ?_
      rw [show M3 14 0 = nI (fN F) from h3.n]
      refine lm_G_br (b := (nI (fN F)) ≤ (nI j)) (t := 99) (S' := []) rfl (fun hc => absurd hc (nI_ge hj2 (by omega))) (fun hc => ?_)
      refine lm_G_sg 6 (pc' := 49) (L' := [some (.ref 28), some (.int (msk (stopW F s) (fN F))), some (.int (nI j)), none]) (S' := [.int 1, .int (((msk (stopW F s) (fN F)) >>> ((nI j) &&& 31)) &&& 1)]) (σ' := lm_T M3 v G) rfl trivial ?_
      refine lm_G_br (b := ¬ (((msk (stopW F s) (fN F)) >>> ((nI j) &&& 31)) &&& 1) = 1) (t := 56) (S' := []) rfl (fun h9 => ?_) (fun h9 => ?_)
      ·
        have ew : stopW F s j = false := by rw [← eb]; exact decide_eq_false h9
        refine lm_G_sg 6 (pc' := 64) (L' := [some (.ref 28), some (.int (msk (stopW F s) (fN F))), some (.int (nI j)), some (.int 0)]) (S' := [.int (M3 32 (nI j).toNatClampNeg)]) (σ' := lm_T M3 v G) rfl ⟨(vp_in_nI (by omega) (by omega)), trivial, trivial⟩ ?_
        rw [show (nI j).toNatClampNeg = j from nI_clamp (by omega)]
        rw [show M3 32 j = sHu (begA F (stopW F s) lf (allS F (stopW F s) s (fM F)) j) j from h3.hu j (by omega)]
        refine lm_G_sg 1 (pc' := 65) (L' := [some (.ref 28), some (.int (msk (stopW F s) (fN F))), some (.int (nI j)), some (.int 0)]) (S' := [.int (-1), .int (sHu (begA F (stopW F s) lf (allS F (stopW F s) s (fM F)) j) j)]) (σ' := lm_T M3 v G) rfl trivial ?_
        refine lm_G_br (b := ¬ (sHu (begA F (stopW F s) lf (allS F (stopW F s) s (fM F)) j) j) = (-1)) (t := 93) (S' := []) rfl (fun h4 => ?_) (fun h4 => ?_)
        ·
          refine lm_G_sg 1 (pc' := 96) (L' := [some (.ref 28), some (.int (msk (stopW F s) (fN F))), some (.int ((nI j) + 1)), some (.int 0)]) (S' := []) (σ' := lm_T M3 v G) rfl trivial ?_
          rw [nI_1]
          refine lm_G_sg 1 (pc' := 32) (L' := [some (.ref 28), some (.int (msk (stopW F s) (fN F))), some (.int (nI (j + 1))), some (.int 0)]) (S' := []) (σ' := lm_T M3 v G) rfl trivial ?_
          have e1 : begA F (stopW F s) lf (allS F (stopW F s) s (fM F)) (j + 1) = (begA F (stopW F s) lf (allS F (stopW F s) s (fM F)) j) := by
            simp only [begA]
            rw [decide_eq_false h4]
            rfl
          rw [e1] at ih2
          refine lm_G_jk (L := [some (.ref 28), some (.int (msk (stopW F s) (fN F))), some (.int (nI (j + 1))), none]) ⟨rfl, rfl, rfl, trivial⟩ ?_
          exact ih2 _ (⟨h3, f3, t3⟩)
        ·
          refine lm_G_sg 1 (pc' := 69) (L' := [some (.ref 28), some (.int (msk (stopW F s) (fN F))), some (.int (nI j)), some (.int 0)]) (S' := [.int 0]) (σ' := lm_T M3 v G) rfl trivial ?_
          refine lm_G_br (b := ¬ 0 = 0) (t := 93) (S' := []) rfl (fun h5 => absurd rfl h5) (fun h5 => ?_)
          refine lm_G_sg 3 (pc' := 77) (L' := [some (.ref 28), some (.int (msk (stopW F s) (fN F))), some (.int (nI j)), some (.int 0)]) (S' := [.int (M3 28 12), .int (nI j)]) (σ' := lm_T M3 v G) rfl trivial ?_
          rw [f3.2 12 (by decide) (by decide)]
          refine lm_G_br (b := (nI j) = (M 28 12)) (t := 93) (S' := []) rfl (fun h5 => ?_) (fun h5 => ?_)
          ·
            refine lm_G_sg 1 (pc' := 96) (L' := [some (.ref 28), some (.int (msk (stopW F s) (fN F))), some (.int ((nI j) + 1)), some (.int 0)]) (S' := []) (σ' := lm_T M3 v G) rfl trivial ?_
            rw [nI_1]
            refine lm_G_sg 1 (pc' := 32) (L' := [some (.ref 28), some (.int (msk (stopW F s) (fN F))), some (.int (nI (j + 1))), some (.int 0)]) (S' := []) (σ' := lm_T M3 v G) rfl trivial ?_
            have el : lf j = true := by rw [← hl j hj2]; exact decide_eq_true h5
            have e1 : begA F (stopW F s) lf (allS F (stopW F s) s (fM F)) (j + 1) = (begA F (stopW F s) lf (allS F (stopW F s) s (fM F)) j) := by
              simp only [begA]
              rw [el]
              simp
            rw [e1] at ih2
            refine lm_G_jk (L := [some (.ref 28), some (.int (msk (stopW F s) (fN F))), some (.int (nI (j + 1))), none]) ⟨rfl, rfl, rfl, trivial⟩ ?_
            exact ih2 _ (⟨h3, f3, t3⟩)
          ·
            have el : lf j = false := by rw [← hl j hj2]; exact decide_eq_false h5
            refine lm_G_sg 2 (pc' := 82) (L' := [some (.ref 28), some (.int (msk (stopW F s) (fN F))), some (.int (nI j)), some (.int 0)]) (S' := [.int (nI j), .ref 28]) (σ' := lm_T M3 v G) rfl trivial ?_
            refine lm_G_ca (j := 58) (as := [.ref 28, .int (nI j)]) (rest := []) rfl (Or.inl rfl) (Nat.le_of_ble_eq_true rfl) (Nat.le_of_ble_eq_true rfl) (Nat.le_of_ble_eq_true rfl) (Nat.le_of_ble_eq_true rfl) rfl ?_
            refine c_isRested28 hF h3 hj2 ?_
            show lm_G X (d + 5) 74 106 0 0 85 [some (.ref 28), some (.int (msk (stopW F s) (fN F))), some (.int (nI j)), some (.int 0)] [.int (b2i (decide (fRe F j ≤ sId (begA F (stopW F s) lf (allS F (stopW F s) s (fM F)) j) j)))] (lm_T M3 v G) Q
            refine lm_G_br (b := (b2i (decide (fRe F j ≤ sId (begA F (stopW F s) lf (allS F (stopW F s) s (fM F)) j) j))) = 0) (t := 93) (S' := []) rfl (fun h6 => ?_) (fun h6 => ?_)
            ·
              refine lm_G_sg 1 (pc' := 96) (L' := [some (.ref 28), some (.int (msk (stopW F s) (fN F))), some (.int ((nI j) + 1)), some (.int 0)]) (S' := []) (σ' := lm_T M3 v G) rfl trivial ?_
              rw [nI_1]
              refine lm_G_sg 1 (pc' := 32) (L' := [some (.ref 28), some (.int (msk (stopW F s) (fN F))), some (.int (nI (j + 1))), some (.int 0)]) (S' := []) (σ' := lm_T M3 v G) rfl trivial ?_
              have e1 : begA F (stopW F s) lf (allS F (stopW F s) s (fM F)) (j + 1) = (begA F (stopW F s) lf (allS F (stopW F s) s (fM F)) j) := by
                simp only [begA]
                rw [b2i_0 h6]
                simp
              rw [e1] at ih2
              refine lm_G_jk (L := [some (.ref 28), some (.int (msk (stopW F s) (fN F))), some (.int (nI (j + 1))), none]) ⟨rfl, rfl, rfl, trivial⟩ ?_
              exact ih2 _ (⟨h3, f3, t3⟩)
            ·
              refine lm_G_sg 2 (pc' := 90) (L' := [some (.ref 28), some (.int (msk (stopW F s) (fN F))), some (.int (nI j)), some (.int 0)]) (S' := [.int (nI j), .ref 28]) (σ' := lm_T M3 v G) rfl trivial ?_
              refine lm_G_ca (j := 77) (as := [.ref 28, .int (nI j)]) (rest := []) rfl (Or.inl rfl) (Nat.le_of_ble_eq_true rfl) (Nat.le_of_ble_eq_true rfl) (Nat.le_of_ble_eq_true rfl) (Nat.le_of_ble_eq_true rfl) rfl ?_
              refine c_boj28 hF h3 hj2 (Classical.not_not.mp h4) (fun M4 h7 f7 t7 => ?_)
              show lm_G X (d + 5) 74 106 0 0 93 [some (.ref 28), some (.int (msk (stopW F s) (fN F))), some (.int (nI j)), some (.int 0)] [] (lm_T M4 v G) Q
              refine lm_G_sg 1 (pc' := 96) (L' := [some (.ref 28), some (.int (msk (stopW F s) (fN F))), some (.int ((nI j) + 1)), some (.int 0)]) (S' := []) (σ' := lm_T M4 v G) rfl trivial ?_
              rw [nI_1]
              refine lm_G_sg 1 (pc' := 32) (L' := [some (.ref 28), some (.int (msk (stopW F s) (fN F))), some (.int (nI (j + 1))), some (.int 0)]) (S' := []) (σ' := lm_T M4 v G) rfl trivial ?_
              have e1 : begA F (stopW F s) lf (allS F (stopW F s) s (fM F)) (j + 1) = bojS F (begA F (stopW F s) lf (allS F (stopW F s) s (fM F)) j) j := by
                simp only [begA]
                rw [ew, el, decide_eq_true (Classical.not_not.mp h4), b2i_1 h6]
                rfl
              rw [e1] at ih2
              refine lm_G_jk (L := [some (.ref 28), some (.int (msk (stopW F s) (fN F))), some (.int (nI (j + 1))), none]) ⟨rfl, rfl, rfl, trivial⟩ ?_
              exact ih2 _ (⟨h7, FrC_tr f3 f7, t7.trans t3⟩)
      ·
        have ew : stopW F s j = true := by rw [← eb]; exact decide_eq_true (Classical.not_not.mp h9)
        refine lm_G_sg 7 (pc' := 64) (L' := [some (.ref 28), some (.int (msk (stopW F s) (fN F))), some (.int (nI j)), some (.int 1)]) (S' := [.int (M3 32 (nI j).toNatClampNeg)]) (σ' := lm_T M3 v G) rfl ⟨(vp_in_nI (by omega) (by omega)), trivial, trivial⟩ ?_
        rw [show (nI j).toNatClampNeg = j from nI_clamp (by omega)]
        rw [show M3 32 j = sHu (begA F (stopW F s) lf (allS F (stopW F s) s (fM F)) j) j from h3.hu j (by omega)]
        refine lm_G_sg 1 (pc' := 65) (L' := [some (.ref 28), some (.int (msk (stopW F s) (fN F))), some (.int (nI j)), some (.int 1)]) (S' := [.int (-1), .int (sHu (begA F (stopW F s) lf (allS F (stopW F s) s (fM F)) j) j)]) (σ' := lm_T M3 v G) rfl trivial ?_
        refine lm_G_br (b := ¬ (sHu (begA F (stopW F s) lf (allS F (stopW F s) s (fM F)) j) j) = (-1)) (t := 93) (S' := []) rfl (fun h4 => ?_) (fun h4 => ?_)
        ·
          refine lm_G_sg 1 (pc' := 96) (L' := [some (.ref 28), some (.int (msk (stopW F s) (fN F))), some (.int ((nI j) + 1)), some (.int 1)]) (S' := []) (σ' := lm_T M3 v G) rfl trivial ?_
          rw [nI_1]
          refine lm_G_sg 1 (pc' := 32) (L' := [some (.ref 28), some (.int (msk (stopW F s) (fN F))), some (.int (nI (j + 1))), some (.int 1)]) (S' := []) (σ' := lm_T M3 v G) rfl trivial ?_
          have e1 : begA F (stopW F s) lf (allS F (stopW F s) s (fM F)) (j + 1) = (begA F (stopW F s) lf (allS F (stopW F s) s (fM F)) j) := by
            simp only [begA]
            rw [decide_eq_false h4]
            rfl
          rw [e1] at ih2
          refine lm_G_jk (L := [some (.ref 28), some (.int (msk (stopW F s) (fN F))), some (.int (nI (j + 1))), none]) ⟨rfl, rfl, rfl, trivial⟩ ?_
          exact ih2 _ (⟨h3, f3, t3⟩)
        ·
          refine lm_G_sg 1 (pc' := 69) (L' := [some (.ref 28), some (.int (msk (stopW F s) (fN F))), some (.int (nI j)), some (.int 1)]) (S' := [.int 1]) (σ' := lm_T M3 v G) rfl trivial ?_
          refine lm_G_br (b := ¬ 1 = 0) (t := 93) (S' := []) rfl (fun h5 => ?_) (fun h5 => absurd (by decide) h5)
          refine lm_G_sg 1 (pc' := 96) (L' := [some (.ref 28), some (.int (msk (stopW F s) (fN F))), some (.int ((nI j) + 1)), some (.int 1)]) (S' := []) (σ' := lm_T M3 v G) rfl trivial ?_
          rw [nI_1]
          refine lm_G_sg 1 (pc' := 32) (L' := [some (.ref 28), some (.int (msk (stopW F s) (fN F))), some (.int (nI (j + 1))), some (.int 1)]) (S' := []) (σ' := lm_T M3 v G) rfl trivial ?_
          have e1 : begA F (stopW F s) lf (allS F (stopW F s) s (fM F)) (j + 1) = (begA F (stopW F s) lf (allS F (stopW F s) s (fM F)) j) := by
            simp only [begA]
            rw [ew]
            simp
          rw [e1] at ih2
          refine lm_G_jk (L := [some (.ref 28), some (.int (msk (stopW F s) (fN F))), some (.int (nI (j + 1))), none]) ⟨rfl, rfl, rfl, trivial⟩ ?_
          exact ih2 _ (⟨h3, f3, t3⟩)
    ·
      revert hI2
      revert zz
      intro M3 hI2
      replace hI2 : RC 28 M3 F (begA F (stopW F s) lf (allS F (stopW F s) s (fM F)) (fN F)) ∧ FrC 28 M M3 ∧ M3 28 13 = M 28 13 + hourD F s := hI2
      show lm_G X (d + 5) 74 106 0 0 32 [some (.ref 28), some (.int (msk (stopW F s) (fN F))), some (.int (nI (fN F))), none] [] (lm_T M3 v G) Q
      obtain ⟨h3, f3, t3⟩ := hI2
      refine lm_G_sg 4 (pc' := 40) (L' := [some (.ref 28), some (.int (msk (stopW F s) (fN F))), some (.int (nI (fN F))), none]) (S' := [.int (M3 14 0), .int (nI (fN F))]) (σ' := lm_T M3 v G) rfl trivial ?_
      rw [show M3 14 0 = nI (fN F) from h3.n]
      refine lm_G_br (b := (nI (fN F)) ≤ (nI (fN F))) (t := 99) (S' := []) rfl (fun hc => ?_) (fun hc => absurd (nI_le (Nat.le_refl _) (by omega)) hc)
      refine lm_G_sg 2 (pc' := 101) (L' := [some (.ref 28), some (.int (msk (stopW F s) (fN F))), some (.int 0), none]) (S' := []) (σ' := lm_T M3 v G) rfl trivial ?_
      refine lm_ind (α := (Nat → Fn)) (St := fun (j : Nat) zz => (fun (M4 : Nat → Fn) => lm_G X (d + 5) 74 106 0 0 101 [some (.ref 28), some (.int (msk (stopW F s) (fN F))), some (.int (nI j)), none] [] (lm_T M4 v G) Q) zz) (Inv := fun (j : Nat) zz => (fun (M4 : Nat → Fn) => RC 28 M4 F (tickS (begA F (stopW F s) lf (allS F (stopW F s) s (fM F)) (fN F)) j) ∧ FrC 28 M M4 ∧ M4 28 13 = M 28 13 + hourD F s) zz) (fN F) (fun j zz hj3 hI3 ih3 => ?_) (fun zz hI3 => ?_) (0) M3 (by omega) ?_
      ·
        revert ih3 hI3
        revert zz
        intro M4 hI3 ih3
        replace hI3 : RC 28 M4 F (tickS (begA F (stopW F s) lf (allS F (stopW F s) s (fM F)) (fN F)) j) ∧ FrC 28 M M4 ∧ M4 28 13 = M 28 13 + hourD F s := hI3
        replace ih3 : ∀ (M4 : Nat → Fn) (_ : RC 28 M4 F (tickS (begA F (stopW F s) lf (allS F (stopW F s) s (fM F)) (fN F)) (j + 1)) ∧ FrC 28 M M4 ∧ M4 28 13 = M 28 13 + hourD F s), lm_G X (d + 5) 74 106 0 0 101 [some (.ref 28), some (.int (msk (stopW F s) (fN F))), some (.int (nI (j + 1))), none] [] (lm_T M4 v G) Q := fun M4 q => ih3 M4 q
        show lm_G X (d + 5) 74 106 0 0 101 [some (.ref 28), some (.int (msk (stopW F s) (fN F))), some (.int (nI j)), none] [] (lm_T M4 v G) Q
        obtain ⟨h4, f4, t4⟩ := hI3
        refine lm_G_sg 4 (pc' := 109) (L' := [some (.ref 28), some (.int (msk (stopW F s) (fN F))), some (.int (nI j)), none]) (S' := [.int (M4 14 0), .int (nI j)]) (σ' := lm_T M4 v G) rfl trivial ?_
        rw [show M4 14 0 = nI (fN F) from h4.n]
        refine lm_G_br (b := (nI (fN F)) ≤ (nI j)) (t := 160) (S' := []) rfl (fun hc => absurd hc (nI_ge hj3 (by omega))) (fun hc => ?_)
        refine lm_G_sg 4 (pc' := 118) (L' := [some (.ref 28), some (.int (msk (stopW F s) (fN F))), some (.int (nI j)), none]) (S' := [.int (M4 32 (nI j).toNatClampNeg)]) (σ' := lm_T M4 v G) rfl ⟨(vp_in_nI (by omega) (by omega)), trivial, trivial⟩ ?_
        rw [show (nI j).toNatClampNeg = j from nI_clamp (by omega)]
        rw [show M4 32 j = sHu (tickS (begA F (stopW F s) lf (allS F (stopW F s) s (fM F)) (fN F)) j) j from h4.hu j (by omega)]
        refine lm_G_sg 1 (pc' := 119) (L' := [some (.ref 28), some (.int (msk (stopW F s) (fN F))), some (.int (nI j)), none]) (S' := [.int (-1), .int (sHu (tickS (begA F (stopW F s) lf (allS F (stopW F s) s (fM F)) (fN F)) j) j)]) (σ' := lm_T M4 v G) rfl trivial ?_
        refine lm_G_br (b := (sHu (tickS (begA F (stopW F s) lf (allS F (stopW F s) s (fM F)) (fN F)) j) j) = (-1)) (t := 135) (S' := []) rfl (fun h5 => ?_) (fun h5 => ?_)
        ·
          refine lm_G_sg 7 (pc' := 146) (L' := [some (.ref 28), some (.int (msk (stopW F s) (fN F))), some (.int (nI j)), none]) (S' := [.int (M4 34 (nI j).toNatClampNeg), .int (nI j), .ref 34]) (σ' := lm_T M4 v G) rfl ⟨(vp_in_nI (by omega) (by omega)), trivial, trivial⟩ ?_
          rw [show (nI j).toNatClampNeg = j from nI_clamp (by omega)]
          rw [show M4 34 j = sId (tickS (begA F (stopW F s) lf (allS F (stopW F s) s (fM F)) (fN F)) j) j from h4.id j (by omega)]
          refine lm_G_sg 5 (pc' := 154) (L' := [some (.ref 28), some (.int (msk (stopW F s) (fN F))), some (.int (nI j)), none]) (S' := []) (σ' := lm_T (lm_wr M4 34 ((nI j).toNatClampNeg) (if 99 < ((sId (tickS (begA F (stopW F s) lf (allS F (stopW F s) s (fM F)) (fN F)) j) j) + 1) then 99 else ((sId (tickS (begA F (stopW F s) lf (allS F (stopW F s) s (fM F)) (fN F)) j) j) + 1))) v G) rfl ⟨trivial, (Nat.le_of_ble_eq_true rfl), (vp_in_nI (by omega) (by omega)), trivial, trivial⟩ ?_
          rw [show (nI j).toNatClampNeg = j from nI_clamp (by omega)]
          refine lm_G_sg 1 (pc' := 157) (L' := [some (.ref 28), some (.int (msk (stopW F s) (fN F))), some (.int ((nI j) + 1)), none]) (S' := []) (σ' := lm_T (lm_wr M4 34 j (if 99 < ((sId (tickS (begA F (stopW F s) lf (allS F (stopW F s) s (fM F)) (fN F)) j) j) + 1) then 99 else ((sId (tickS (begA F (stopW F s) lf (allS F (stopW F s) s (fM F)) (fN F)) j) j) + 1))) v G) rfl trivial ?_
          rw [nI_1]
          refine lm_G_sg 1 (pc' := 101) (L' := [some (.ref 28), some (.int (msk (stopW F s) (fN F))), some (.int (nI (j + 1))), none]) (S' := []) (σ' := lm_T (lm_wr M4 34 j (if 99 < ((sId (tickS (begA F (stopW F s) lf (allS F (stopW F s) s (fM F)) (fN F)) j) j) + 1) then 99 else ((sId (tickS (begA F (stopW F s) lf (allS F (stopW F s) s (fM F)) (fN F)) j) j) + 1))) v G) rfl trivial ?_
          exact ih3 _ (⟨RC_tick228 h4 h5, FrC_wr f4 rfl (by decide), t4⟩)
        ·
          refine lm_G_sg 5 (pc' := 129) (L' := [some (.ref 28), some (.int (msk (stopW F s) (fN F))), some (.int (nI j)), none]) (S' := [.int (M4 33 (nI j).toNatClampNeg), .int (nI j), .ref 33]) (σ' := lm_T M4 v G) rfl ⟨(vp_in_nI (by omega) (by omega)), trivial, trivial⟩ ?_
          rw [show (nI j).toNatClampNeg = j from nI_clamp (by omega)]
          rw [show M4 33 j = sHd (tickS (begA F (stopW F s) lf (allS F (stopW F s) s (fM F)) (fN F)) j) j from h4.hd j (by omega)]
          refine lm_G_sg 3 (pc' := 132) (L' := [some (.ref 28), some (.int (msk (stopW F s) (fN F))), some (.int (nI j)), none]) (S' := []) (σ' := lm_T (lm_wr M4 33 ((nI j).toNatClampNeg) ((sHd (tickS (begA F (stopW F s) lf (allS F (stopW F s) s (fM F)) (fN F)) j) j) + 1)) v G) rfl ⟨(vp_in_nI (by omega) (by omega)), trivial, trivial⟩ ?_
          rw [show (nI j).toNatClampNeg = j from nI_clamp (by omega)]
          refine lm_G_sg 2 (pc' := 157) (L' := [some (.ref 28), some (.int (msk (stopW F s) (fN F))), some (.int ((nI j) + 1)), none]) (S' := []) (σ' := lm_T (lm_wr M4 33 j ((sHd (tickS (begA F (stopW F s) lf (allS F (stopW F s) s (fM F)) (fN F)) j) j) + 1)) v G) rfl trivial ?_
          rw [nI_1]
          refine lm_G_sg 1 (pc' := 101) (L' := [some (.ref 28), some (.int (msk (stopW F s) (fN F))), some (.int (nI (j + 1))), none]) (S' := []) (σ' := lm_T (lm_wr M4 33 j ((sHd (tickS (begA F (stopW F s) lf (allS F (stopW F s) s (fM F)) (fN F)) j) j) + 1)) v G) rfl trivial ?_
          exact ih3 _ (⟨RC_tick128 h4 h5, FrC_wr f4 rfl (by decide), t4⟩)
      ·
        revert hI3
        revert zz
        intro M4 hI3
        replace hI3 : RC 28 M4 F (tickS (begA F (stopW F s) lf (allS F (stopW F s) s (fM F)) (fN F)) (fN F)) ∧ FrC 28 M M4 ∧ M4 28 13 = M 28 13 + hourD F s := hI3
        show lm_G X (d + 5) 74 106 0 0 101 [some (.ref 28), some (.int (msk (stopW F s) (fN F))), some (.int (nI (fN F))), none] [] (lm_T M4 v G) Q
        obtain ⟨h4, f4, t4⟩ := hI3
        refine lm_G_sg 4 (pc' := 109) (L' := [some (.ref 28), some (.int (msk (stopW F s) (fN F))), some (.int (nI (fN F))), none]) (S' := [.int (M4 14 0), .int (nI (fN F))]) (σ' := lm_T M4 v G) rfl trivial ?_
        rw [show M4 14 0 = nI (fN F) from h4.n]
        refine lm_G_br (b := (nI (fN F)) ≤ (nI (fN F))) (t := 160) (S' := []) rfl (fun hc => ?_) (fun hc => absurd (nI_le (Nat.le_refl _) (by omega)) hc)
        refine lm_G_sg 3 (pc' := 165) (L' := [some (.ref 28), some (.int (msk (stopW F s) (fN F))), some (.int (nI (fN F))), none]) (S' := [.int (M4 28 2), .ref 28]) (σ' := lm_T M4 v G) rfl trivial ?_
        rw [show M4 28 2 = sHr (tickS (begA F (stopW F s) lf (allS F (stopW F s) s (fM F)) (fN F)) (fN F)) from h4.hr]
        refine lm_G_sg 3 (pc' := 170) (L' := [some (.ref 28), some (.int (msk (stopW F s) (fN F))), some (.int (nI (fN F))), none]) (S' := []) (σ' := lm_T (lm_wr M4 28 2 ((sHr (tickS (begA F (stopW F s) lf (allS F (stopW F s) s (fM F)) (fN F)) (fN F))) + 1)) v G) rfl ⟨trivial, trivial, trivial⟩ ?_
        exact lm_G_re rfl trivial (Nat.zero_le _) (Nat.zero_le _) (hQ _ (RC_hour28 h4) (FrC_wb f4 rfl (Or.inl rfl)) (by rw [wr_at (by decide)]; exact t4))
      ·
        try dsimp only
        exact ⟨h3, f3, t3⟩
    ·
      try dsimp only
      exact ⟨h2, g2, t2⟩
  ·
    try dsimp only
    exact ⟨h1, FrC_rf _ _, by simp [allD]⟩
set_option maxRecDepth 10000 in
theorem c_passHours28 {X : lm_X} {d v : Nat} {M : Nat → Nat → Int32} {G : Nat → Nat → Int64} {Q : lm_O → lm_S → Prop} {F : Fa} {s : Sc} {lf : Nat → Bool} {n : Nat} (hF : okF F) (h : RC 28 M F s) (hs : okS F s) (hl : ∀ p, p < fN F → decide (nI p = M 28 12) = lf p) (hn2 : n < 2 ^ 31) (hQ : ∀ M1, RC 28 M1 F (hrsS F lf s n) → FrC 28 M M1 → M1 28 13 = M 28 13 + (hrsD F lf s n) → Q (.inl none) (lm_T M1 v G)) : lm_Q X (d + 6) 73 [.ref 28, .int (nI n)] (lm_T M v G) Q := by
  have hn := hF.n
  have hm := hF.m
  show lm_G X (d + 6) 73 106 0 0 0 [some (.ref 28), some (.int (nI n)), none] [] (lm_T M v G) Q
  refine lm_G_sg 2 (pc' := 2) (L' := [some (.ref 28), some (.int (nI n)), some (.int 0)]) (S' := []) (σ' := lm_T M v G) rfl trivial ?_
  refine lm_ind (α := (Nat → Fn)) (St := fun (j : Nat) zz => (fun (M1 : Nat → Fn) => lm_G X (d + 6) 73 106 0 0 2 [some (.ref 28), some (.int (nI n)), some (.int (nI j))] [] (lm_T M1 v G) Q) zz) (Inv := fun (j : Nat) zz => (fun (M1 : Nat → Fn) => RC 28 M1 F (hrsS F lf s j) ∧ FrC 28 M M1 ∧ M1 28 13 = M 28 13 + hrsD F lf s j) zz) (n) (fun j zz hj hI ih => ?_) (fun zz hI => ?_) (0) M (by omega) ?_
  ·
    revert ih hI
    revert zz
    intro M1 hI ih
    replace hI : RC 28 M1 F (hrsS F lf s j) ∧ FrC 28 M M1 ∧ M1 28 13 = M 28 13 + hrsD F lf s j := hI
    replace ih : ∀ (M1 : Nat → Fn) (_ : RC 28 M1 F (hrsS F lf s (j + 1)) ∧ FrC 28 M M1 ∧ M1 28 13 = M 28 13 + hrsD F lf s (j + 1)), lm_G X (d + 6) 73 106 0 0 2 [some (.ref 28), some (.int (nI n)), some (.int (nI (j + 1)))] [] (lm_T M1 v G) Q := fun M1 q => ih M1 q
    show lm_G X (d + 6) 73 106 0 0 2 [some (.ref 28), some (.int (nI n)), some (.int (nI j))] [] (lm_T M1 v G) Q
    obtain ⟨h1, f1, t1⟩ := hI
    refine lm_G_sg 2 (pc' := 4) (L' := [some (.ref 28), some (.int (nI n)), some (.int (nI j))]) (S' := [.int (nI n), .int (nI j)]) (σ' := lm_T M1 v G) rfl trivial ?_
    refine lm_G_br (b := (nI n) ≤ (nI j)) (t := 17) (S' := []) rfl (fun hc => absurd hc (nI_ge hj (by omega))) (fun hc => ?_)
    refine lm_G_sg 1 (pc' := 8) (L' := [some (.ref 28), some (.int (nI n)), some (.int (nI j))]) (S' := [.ref 28]) (σ' := lm_T M1 v G) rfl trivial ?_
    refine lm_G_ca (j := 74) (as := [.ref 28]) (rest := []) rfl (Or.inl rfl) (Nat.le_of_ble_eq_true rfl) (Nat.le_of_ble_eq_true rfl) (Nat.le_of_ble_eq_true rfl) (Nat.le_of_ble_eq_true rfl) rfl ?_
    refine c_passHour28 hF h1 (ok_hrs hs _) (lf := lf) (by intro q hq; rw [f1.2 12 (by decide) (by decide)]; exact hl q hq) (fun M2 h2 f2 t2 => ?_)
    show lm_G X (d + 6) 73 106 0 0 11 [some (.ref 28), some (.int (nI n)), some (.int (nI j))] [] (lm_T M2 v G) Q
    refine lm_G_sg 1 (pc' := 14) (L' := [some (.ref 28), some (.int (nI n)), some (.int ((nI j) + 1))]) (S' := []) (σ' := lm_T M2 v G) rfl trivial ?_
    rw [nI_1]
    refine lm_G_sg 1 (pc' := 2) (L' := [some (.ref 28), some (.int (nI n)), some (.int (nI (j + 1)))]) (S' := []) (σ' := lm_T M2 v G) rfl trivial ?_
    exact ih _ (⟨h2, FrC_tr f1 f2, by rw [t2, t1, Int32.add_assoc]; rfl⟩)
  ·
    revert hI
    revert zz
    intro M1 hI
    replace hI : RC 28 M1 F (hrsS F lf s n) ∧ FrC 28 M M1 ∧ M1 28 13 = M 28 13 + hrsD F lf s n := hI
    show lm_G X (d + 6) 73 106 0 0 2 [some (.ref 28), some (.int (nI n)), some (.int (nI n))] [] (lm_T M1 v G) Q
    obtain ⟨h1, f1, t1⟩ := hI
    refine lm_G_sg 2 (pc' := 4) (L' := [some (.ref 28), some (.int (nI n)), some (.int (nI n))]) (S' := [.int (nI n), .int (nI n)]) (σ' := lm_T M1 v G) rfl trivial ?_
    refine lm_G_br (b := (nI n) ≤ (nI n)) (t := 17) (S' := []) rfl (fun hc => ?_) (fun hc => absurd (nI_le (Nat.le_refl _) (by omega)) hc)
    exact lm_G_re rfl trivial (Nat.zero_le _) (Nat.zero_le _) (hQ _ h1 f1 t1)
  ·
    try dsimp only
    exact ⟨h, FrC_rf _ _, by simp [hrsD]⟩
set_option maxRecDepth 10000 in
theorem c_behind28 {X : lm_X} {d v : Nat} {M : Nat → Nat → Int32} {G : Nat → Nat → Int64} {Q : lm_O → lm_S → Prop} {F : Fa} {s : Sc} {lf : Nat → Bool} {n : Nat} {x : Int32} (hF : okF F) (h : RC 28 M F s) (hs : okS F s) (hl : ∀ p, p < fN F → decide (nI p = M 28 12) = lf p) (hn2 : n < 2 ^ 31) (hQ : ∀ M1, RC 28 M1 F (hrsS F lf s n) → FrC 28 M M1 → Q (.inl (some (.int (cnt (ownS F (sOw (hrsS F lf s n)) x))))) (lm_T M1 v G)) : lm_Q X (d + 6) 62 [.ref 28, .int x, .int (nI n)] (lm_T M v G) Q := by
  have hn := hF.n
  have hm := hF.m
  show lm_G X (d + 6) 62 106 0 0 0 [some (.ref 28), some (.int x), some (.int (nI n)), none] [] (lm_T M v G) Q
  refine lm_G_sg 2 (pc' := 2) (L' := [some (.ref 28), some (.int x), some (.int (nI n)), some (.int 0)]) (S' := []) (σ' := lm_T M v G) rfl trivial ?_
  refine lm_ind (α := (Nat → Fn)) (St := fun (j : Nat) zz => (fun (M1 : Nat → Fn) => lm_G X (d + 6) 62 106 0 0 2 [some (.ref 28), some (.int x), some (.int (nI n)), some (.int (nI j))] [] (lm_T M1 v G) Q) zz) (Inv := fun (j : Nat) zz => (fun (M1 : Nat → Fn) => RC 28 M1 F (hrsS F lf s j) ∧ FrC 28 M M1 ∧ M1 28 13 = M 28 13 + hrsD F lf s j) zz) (n) (fun j zz hj hI ih => ?_) (fun zz hI => ?_) (0) M (by omega) ?_
  ·
    revert ih hI
    revert zz
    intro M1 hI ih
    replace hI : RC 28 M1 F (hrsS F lf s j) ∧ FrC 28 M M1 ∧ M1 28 13 = M 28 13 + hrsD F lf s j := hI
    replace ih : ∀ (M1 : Nat → Fn) (_ : RC 28 M1 F (hrsS F lf s (j + 1)) ∧ FrC 28 M M1 ∧ M1 28 13 = M 28 13 + hrsD F lf s (j + 1)), lm_G X (d + 6) 62 106 0 0 2 [some (.ref 28), some (.int x), some (.int (nI n)), some (.int (nI (j + 1)))] [] (lm_T M1 v G) Q := fun M1 q => ih M1 q
    show lm_G X (d + 6) 62 106 0 0 2 [some (.ref 28), some (.int x), some (.int (nI n)), some (.int (nI j))] [] (lm_T M1 v G) Q
    obtain ⟨h1, f1, t1⟩ := hI
    refine lm_G_sg 2 (pc' := 4) (L' := [some (.ref 28), some (.int x), some (.int (nI n)), some (.int (nI j))]) (S' := [.int (nI n), .int (nI j)]) (σ' := lm_T M1 v G) rfl trivial ?_
    refine lm_G_br (b := (nI n) ≤ (nI j)) (t := 17) (S' := []) rfl (fun hc => absurd hc (nI_ge hj (by omega))) (fun hc => ?_)
    refine lm_G_sg 1 (pc' := 8) (L' := [some (.ref 28), some (.int x), some (.int (nI n)), some (.int (nI j))]) (S' := [.ref 28]) (σ' := lm_T M1 v G) rfl trivial ?_
    refine lm_G_ca (j := 74) (as := [.ref 28]) (rest := []) rfl (Or.inl rfl) (Nat.le_of_ble_eq_true rfl) (Nat.le_of_ble_eq_true rfl) (Nat.le_of_ble_eq_true rfl) (Nat.le_of_ble_eq_true rfl) rfl ?_
    refine c_passHour28 hF h1 (ok_hrs hs _) (lf := lf) (by intro q hq; rw [f1.2 12 (by decide) (by decide)]; exact hl q hq) (fun M2 h2 f2 t2 => ?_)
    show lm_G X (d + 6) 62 106 0 0 11 [some (.ref 28), some (.int x), some (.int (nI n)), some (.int (nI j))] [] (lm_T M2 v G) Q
    refine lm_G_sg 1 (pc' := 14) (L' := [some (.ref 28), some (.int x), some (.int (nI n)), some (.int ((nI j) + 1))]) (S' := []) (σ' := lm_T M2 v G) rfl trivial ?_
    rw [nI_1]
    refine lm_G_sg 1 (pc' := 2) (L' := [some (.ref 28), some (.int x), some (.int (nI n)), some (.int (nI (j + 1)))]) (S' := []) (σ' := lm_T M2 v G) rfl trivial ?_
    exact ih _ (⟨h2, FrC_tr f1 f2, by rw [t2, t1, Int32.add_assoc]; rfl⟩)
  ·
    revert hI
    revert zz
    intro M1 hI
    replace hI : RC 28 M1 F (hrsS F lf s n) ∧ FrC 28 M M1 ∧ M1 28 13 = M 28 13 + hrsD F lf s n := hI
    show lm_G X (d + 6) 62 106 0 0 2 [some (.ref 28), some (.int x), some (.int (nI n)), some (.int (nI n))] [] (lm_T M1 v G) Q
    obtain ⟨h1, f1, t1⟩ := hI
    refine lm_G_sg 2 (pc' := 4) (L' := [some (.ref 28), some (.int x), some (.int (nI n)), some (.int (nI n))]) (S' := [.int (nI n), .int (nI n)]) (σ' := lm_T M1 v G) rfl trivial ?_
    refine lm_G_br (b := (nI n) ≤ (nI n)) (t := 17) (S' := []) rfl (fun hc => ?_) (fun hc => absurd (nI_le (Nat.le_refl _) (by omega)) hc)
    refine lm_G_sg 2 (pc' := 19) (L' := [some (.ref 28), some (.int x), some (.int (nI n)), some (.int (nI n))]) (S' := [.int x, .ref 28]) (σ' := lm_T M1 v G) rfl trivial ?_
    refine lm_G_ca (j := 61) (as := [.ref 28, .int x]) (rest := []) rfl (Or.inl rfl) (Nat.le_of_ble_eq_true rfl) (Nat.le_of_ble_eq_true rfl) (Nat.le_of_ble_eq_true rfl) (Nat.le_of_ble_eq_true rfl) rfl ?_
    refine c_howMany28 hF h1 ?_
    show lm_G X (d + 6) 62 106 0 0 22 [some (.ref 28), some (.int x), some (.int (nI n)), some (.int (nI n))] [.int (cnt (ownS F (sOw (hrsS F lf s n)) x))] (lm_T M1 v G) Q
    exact lm_G_re rfl trivial (Nat.zero_le _) (Nat.zero_le _) (hQ _ h1 f1)
  ·
    try dsimp only
    exact ⟨h, FrC_rf _ _, by simp [hrsD]⟩
set_option maxRecDepth 10000 in
theorem c_findHummers28 {X : lm_X} {d v : Nat} {M : Nat → Nat → Int32} {G : Nat → Nat → Int64} {Q : lm_O → lm_S → Prop} {F : Fa} {s : Sc} (hF : okF F) (h : PC 28 M F s) (hQ : ∀ M1, Ag (fM F) (M1 36) (fun t => humS F (sHu s) (nI t)) → Fr (frO 36) M M1 → Q (.inl none) (lm_T M1 v G)) : lm_Q X d 56 [.ref 28] (lm_T M v G) Q := by
  have hn := hF.n
  have hm := hF.m
  show lm_G X d 56 106 0 0 0 [some (.ref 28), none, none] [] (lm_T M v G) Q
  refine lm_G_sg 2 (pc' := 2) (L' := [some (.ref 28), some (.int 0), none]) (S' := []) (σ' := lm_T M v G) rfl trivial ?_
  refine lm_ind (α := (Nat → Fn)) (St := fun (j : Nat) zz => (fun (M1 : Nat → Fn) => lm_G X d 56 106 0 0 2 [some (.ref 28), some (.int (nI j)), none] [] (lm_T M1 v G) Q) zz) (Inv := fun (j : Nat) zz => (fun (M1 : Nat → Fn) => Ag j (M1 36) (fun t => humS F (sHu s) (nI t)) ∧ Fr (frO 36) M M1) zz) (6) (fun j zz hj hI ih => ?_) (fun zz hI => ?_) (0) M (by omega) ?_
  ·
    revert ih hI
    revert zz
    intro M1 hI ih
    replace hI : Ag j (M1 36) (fun t => humS F (sHu s) (nI t)) ∧ Fr (frO 36) M M1 := hI
    replace ih : ∀ (M1 : Nat → Fn) (_ : Ag (j + 1) (M1 36) (fun t => humS F (sHu s) (nI t)) ∧ Fr (frO 36) M M1), lm_G X d 56 106 0 0 2 [some (.ref 28), some (.int (nI (j + 1))), none] [] (lm_T M1 v G) Q := fun M1 q => ih M1 q
    show lm_G X d 56 106 0 0 2 [some (.ref 28), some (.int (nI j)), none] [] (lm_T M1 v G) Q
    obtain ⟨i1, i2⟩ := hI
    refine lm_G_sg 2 (pc' := 5) (L' := [some (.ref 28), some (.int (nI j)), none]) (S' := [.int 6, .int (nI j)]) (σ' := lm_T M1 v G) rfl trivial ?_
    refine lm_G_br (b := 6 ≤ (nI j)) (t := 62) (S' := []) rfl (fun hc => absurd hc (nI_ge (b := 6) hj (by omega))) (fun hc => ?_)
    refine lm_G_sg 5 (pc' := 15) (L' := [some (.ref 28), some (.int (nI j)), none]) (S' := []) (σ' := lm_T (lm_wr M1 36 ((nI j).toNatClampNeg) 0) v G) rfl ⟨(vp_in_nI (by omega) (by omega)), trivial, trivial⟩ ?_
    rw [show (nI j).toNatClampNeg = j from nI_clamp (by omega)]
    refine lm_G_sg 2 (pc' := 17) (L' := [some (.ref 28), some (.int (nI j)), some (.int 0)]) (S' := []) (σ' := lm_T (lm_wr M1 36 j 0) v G) rfl trivial ?_
    refine lm_ind (α := (Nat → Fn)) (St := fun (q : Nat) zz => (fun (M2 : Nat → Fn) => lm_G X d 56 106 0 0 17 [some (.ref 28), some (.int (nI j)), some (.int (nI q))] [] (lm_T M2 v G) Q) zz) (Inv := fun (q : Nat) zz => (fun (M2 : Nat → Fn) => Ag j (M2 36) (fun t => humS F (sHu s) (nI t)) ∧ Fr (frO 36) M M2 ∧ M2 36 j = msk (fun p => decide (sHu s p = nI j)) q) zz) (fN F) (fun q zz hj2 hI2 ih2 => ?_) (fun zz hI2 => ?_) (0) (lm_wr M1 36 j 0) (by omega) ?_
    ·
      revert ih2 hI2
      revert zz
      intro M2 hI2 ih2
      replace hI2 : Ag j (M2 36) (fun t => humS F (sHu s) (nI t)) ∧ Fr (frO 36) M M2 ∧ M2 36 j = msk (fun p => decide (sHu s p = nI j)) q := hI2
      replace ih2 : ∀ (M2 : Nat → Fn) (_ : Ag j (M2 36) (fun t => humS F (sHu s) (nI t)) ∧ Fr (frO 36) M M2 ∧ M2 36 j = msk (fun p => decide (sHu s p = nI j)) (q + 1)), lm_G X d 56 106 0 0 17 [some (.ref 28), some (.int (nI j)), some (.int (nI (q + 1)))] [] (lm_T M2 v G) Q := fun M2 q => ih2 M2 q
      show lm_G X d 56 106 0 0 17 [some (.ref 28), some (.int (nI j)), some (.int (nI q))] [] (lm_T M2 v G) Q
      obtain ⟨k1, k2, k3⟩ := hI2
      refine lm_G_sg 4 (pc' := 25) (L' := [some (.ref 28), some (.int (nI j)), some (.int (nI q))]) (S' := [.int (M2 14 0), .int (nI q)]) (σ' := lm_T M2 v G) rfl trivial ?_
      rw [show M2 14 0 = nI (fN F) from (congrFun (k2 14 rfl) 0).trans h.n]
      refine lm_G_br (b := (nI (fN F)) ≤ (nI q)) (t := 56) (S' := []) rfl (fun hc => absurd hc (nI_ge hj2 (by omega))) (fun hc => ?_)
      refine lm_G_sg 4 (pc' := 34) (L' := [some (.ref 28), some (.int (nI j)), some (.int (nI q))]) (S' := [.int (M2 32 (nI q).toNatClampNeg)]) (σ' := lm_T M2 v G) rfl ⟨(vp_in_nI (by omega) (by omega)), trivial, trivial⟩ ?_
      rw [show (nI q).toNatClampNeg = q from nI_clamp (by omega)]
      rw [show M2 32 q = sHu s q from (congrFun (k2 32 rfl) q).trans (h.hu q (by omega))]
      refine lm_G_sg 1 (pc' := 35) (L' := [some (.ref 28), some (.int (nI j)), some (.int (nI q))]) (S' := [.int (nI j), .int (sHu s q)]) (σ' := lm_T M2 v G) rfl trivial ?_
      refine lm_G_br (b := ¬ (sHu s q) = (nI j)) (t := 50) (S' := []) rfl (fun h4 => ?_) (fun h4 => ?_)
      ·
        refine lm_G_sg 1 (pc' := 53) (L' := [some (.ref 28), some (.int (nI j)), some (.int ((nI q) + 1))]) (S' := []) (σ' := lm_T M2 v G) rfl trivial ?_
        rw [nI_1]
        refine lm_G_sg 1 (pc' := 17) (L' := [some (.ref 28), some (.int (nI j)), some (.int (nI (q + 1)))]) (S' := []) (σ' := lm_T M2 v G) rfl trivial ?_
        exact ih2 _ (⟨k1, k2, by rw [k3, msk_f (f := (fun p => decide (sHu s p = nI j))) (decide_eq_false h4)]⟩)
      ·
        refine lm_G_sg 5 (pc' := 45) (L' := [some (.ref 28), some (.int (nI j)), some (.int (nI q))]) (S' := [.int (M2 36 (nI j).toNatClampNeg), .int (nI j), .ref 36]) (σ' := lm_T M2 v G) rfl ⟨(vp_in_nI (by omega) (by omega)), trivial, trivial⟩ ?_
        rw [show (nI j).toNatClampNeg = j from nI_clamp (by omega)]
        rw [show M2 36 j = msk (fun p => decide (sHu s p = nI j)) q from k3]
        refine lm_G_sg 5 (pc' := 50) (L' := [some (.ref 28), some (.int (nI j)), some (.int (nI q))]) (S' := []) (σ' := lm_T (lm_wr M2 36 ((nI j).toNatClampNeg) ((msk (fun p => decide (sHu s p = nI j)) q) ||| (1 <<< ((nI q) &&& 31)))) v G) rfl ⟨(vp_in_nI (by omega) (by omega)), trivial, trivial⟩ ?_
        rw [show (nI j).toNatClampNeg = j from nI_clamp (by omega)]
        refine lm_G_sg 1 (pc' := 53) (L' := [some (.ref 28), some (.int (nI j)), some (.int ((nI q) + 1))]) (S' := []) (σ' := lm_T (lm_wr M2 36 j ((msk (fun p => decide (sHu s p = nI j)) q) ||| (1 <<< ((nI q) &&& 31)))) v G) rfl trivial ?_
        rw [nI_1]
        refine lm_G_sg 1 (pc' := 17) (L' := [some (.ref 28), some (.int (nI j)), some (.int (nI (q + 1)))]) (S' := []) (σ' := lm_T (lm_wr M2 36 j ((msk (fun p => decide (sHu s p = nI j)) q) ||| (1 <<< ((nI q) &&& 31)))) v G) rfl trivial ?_
        exact ih2 _ (⟨fun u hu => by rw [wr_at (by omega)]; exact k1 u hu, Fr_wr k2 rfl, by rw [wr_same, msk_t (f := (fun p => decide (sHu s p = nI j))) (decide_eq_true (Classical.not_not.mp h4))]⟩)
    ·
      revert hI2
      revert zz
      intro M2 hI2
      replace hI2 : Ag j (M2 36) (fun t => humS F (sHu s) (nI t)) ∧ Fr (frO 36) M M2 ∧ M2 36 j = msk (fun p => decide (sHu s p = nI j)) (fN F) := hI2
      show lm_G X d 56 106 0 0 17 [some (.ref 28), some (.int (nI j)), some (.int (nI (fN F)))] [] (lm_T M2 v G) Q
      obtain ⟨k1, k2, k3⟩ := hI2
      refine lm_G_sg 4 (pc' := 25) (L' := [some (.ref 28), some (.int (nI j)), some (.int (nI (fN F)))]) (S' := [.int (M2 14 0), .int (nI (fN F))]) (σ' := lm_T M2 v G) rfl trivial ?_
      rw [show M2 14 0 = nI (fN F) from (congrFun (k2 14 rfl) 0).trans h.n]
      refine lm_G_br (b := (nI (fN F)) ≤ (nI (fN F))) (t := 56) (S' := []) rfl (fun hc => ?_) (fun hc => absurd (nI_le (Nat.le_refl _) (by omega)) hc)
      refine lm_G_sg 1 (pc' := 59) (L' := [some (.ref 28), some (.int ((nI j) + 1)), some (.int (nI (fN F)))]) (S' := []) (σ' := lm_T M2 v G) rfl trivial ?_
      rw [nI_1]
      refine lm_G_sg 1 (pc' := 2) (L' := [some (.ref 28), some (.int (nI (j + 1))), some (.int (nI (fN F)))]) (S' := []) (σ' := lm_T M2 v G) rfl trivial ?_
      refine lm_G_jk (L := [some (.ref 28), some (.int (nI (j + 1))), none]) ⟨rfl, rfl, trivial⟩ ?_
      exact ih _ (⟨fun u hu => if w : u = j then (by subst w; exact k3) else k1 u (by omega), k2⟩)
    ·
      try dsimp only
      exact ⟨fun u hu => by rw [wr_at (by omega)]; exact i1 u hu, Fr_wr i2 rfl, wr_same⟩
  ·
    revert hI
    revert zz
    intro M1 hI
    replace hI : Ag 6 (M1 36) (fun t => humS F (sHu s) (nI t)) ∧ Fr (frO 36) M M1 := hI
    show lm_G X d 56 106 0 0 2 [some (.ref 28), some (.int (nI 6)), none] [] (lm_T M1 v G) Q
    obtain ⟨i1, i2⟩ := hI
    refine lm_G_sg 2 (pc' := 5) (L' := [some (.ref 28), some (.int (nI 6)), none]) (S' := [.int 6, .int (nI 6)]) (σ' := lm_T M1 v G) rfl trivial ?_
    refine lm_G_br (b := 6 ≤ (nI 6)) (t := 62) (S' := []) rfl (fun hc => ?_) (fun hc => absurd (nI_le (a := 6) (Nat.le_refl _) (by omega)) hc)
    exact lm_G_re rfl trivial (Nat.zero_le _) (Nat.zero_le _) (hQ _ (Ag_mn i1 (by omega)) i2)
  ·
    try dsimp only
    exact ⟨fun u hu => by omega, Fr_rf _ _⟩
set_option maxRecDepth 10000 in
theorem c_findHeard28 {X : lm_X} {d v : Nat} {M : Nat → Nat → Int32} {G : Nat → Nat → Int64} {Q : lm_O → lm_S → Prop} {F : Fa} {s : Sc} (hF : okF F) (h : PC 28 M F s) (hQ : ∀ M1, Ag (fN F) (M1 37) (heardS F (sPl s)) → Fr (frO 37) M M1 → Q (.inl none) (lm_T M1 v G)) : lm_Q X d 57 [.ref 28] (lm_T M v G) Q := by
  have hn := hF.n
  have hm := hF.m
  show lm_G X d 57 106 0 0 0 [some (.ref 28), none, none, none] [] (lm_T M v G) Q
  refine lm_G_sg 2 (pc' := 2) (L' := [some (.ref 28), some (.int 0), none, none]) (S' := []) (σ' := lm_T M v G) rfl trivial ?_
  refine lm_ind (α := (Nat → Fn)) (St := fun (j : Nat) zz => (fun (M1 : Nat → Fn) => lm_G X d 57 106 0 0 2 [some (.ref 28), some (.int (nI j)), none, none] [] (lm_T M1 v G) Q) zz) (Inv := fun (j : Nat) zz => (fun (M1 : Nat → Fn) => Ag j (M1 37) (heardS F (sPl s)) ∧ Fr (frO 37) M M1) zz) (fN F) (fun j zz hj hI ih => ?_) (fun zz hI => ?_) (0) M (by omega) ?_
  ·
    revert ih hI
    revert zz
    intro M1 hI ih
    replace hI : Ag j (M1 37) (heardS F (sPl s)) ∧ Fr (frO 37) M M1 := hI
    replace ih : ∀ (M1 : Nat → Fn) (_ : Ag (j + 1) (M1 37) (heardS F (sPl s)) ∧ Fr (frO 37) M M1), lm_G X d 57 106 0 0 2 [some (.ref 28), some (.int (nI (j + 1))), none, none] [] (lm_T M1 v G) Q := fun M1 q => ih M1 q
    show lm_G X d 57 106 0 0 2 [some (.ref 28), some (.int (nI j)), none, none] [] (lm_T M1 v G) Q
    obtain ⟨i1, i2⟩ := hI
    refine lm_G_sg 4 (pc' := 10) (L' := [some (.ref 28), some (.int (nI j)), none, none]) (S' := [.int (M1 14 0), .int (nI j)]) (σ' := lm_T M1 v G) rfl trivial ?_
    rw [show M1 14 0 = nI (fN F) from (congrFun (i2 14 rfl) 0).trans h.n]
    refine lm_G_br (b := (nI (fN F)) ≤ (nI j)) (t := 114) (S' := []) rfl (fun hc => absurd hc (nI_ge hj (by omega))) (fun hc => ?_)
    refine lm_G_sg 5 (pc' := 22) (L' := [some (.ref 28), some (.int (nI j)), none, none]) (S' := [.int (M1 19 (nI j).toNatClampNeg)]) (σ' := lm_T M1 v G) rfl ⟨(vp_in_nI (by omega) (by omega)), trivial, trivial⟩ ?_
    rw [show (nI j).toNatClampNeg = j from nI_clamp (by omega)]
    rw [show M1 19 j = fWh F j from (congrFun (i2 19 rfl) j).trans (h.wh j (by omega))]
    refine lm_G_br (b := (fWh F j) = 0) (t := 37) (S' := []) rfl (fun h3 => ?_) (fun h3 => ?_)
    ·
      refine lm_G_sg 3 (pc' := 44) (L' := [some (.ref 28), some (.int (nI j)), none, none]) (S' := [.int (M1 14 9)]) (σ' := lm_T M1 v G) rfl trivial ?_
      rw [show M1 14 9 = fE F from (congrFun (i2 14 rfl) 9).trans h.e]
      refine lm_G_sg 6 (pc' := 52) (L' := [some (.ref 28), some (.int (nI j)), some (.int (fE F)), none]) (S' := []) (σ' := lm_T (lm_wr M1 37 ((nI j).toNatClampNeg) 0) v G) rfl ⟨(vp_in_nI (by omega) (by omega)), trivial, trivial⟩ ?_
      rw [show (nI j).toNatClampNeg = j from nI_clamp (by omega)]
      refine lm_G_sg 2 (pc' := 54) (L' := [some (.ref 28), some (.int (nI j)), some (.int (fE F)), some (.int 0)]) (S' := []) (σ' := lm_T (lm_wr M1 37 j 0) v G) rfl trivial ?_
      have er : fE F = (if fWh F j = 1 then 2 * fE F else fE F) := by rw [if_neg (by rw [h3]; decide)]
      rw [er]
      refine lm_ind (α := (Nat → Fn)) (St := fun (q : Nat) zz => (fun (M2 : Nat → Fn) => lm_G X d 57 106 0 0 54 [some (.ref 28), some (.int (nI j)), some (.int (if fWh F j = 1 then 2 * fE F else fE F)), some (.int (nI q))] [] (lm_T M2 v G) Q) zz) (Inv := fun (q : Nat) zz => (fun (M2 : Nat → Fn) => Ag j (M2 37) (heardS F (sPl s)) ∧ Fr (frO 37) M M2 ∧ M2 37 j = msk (heS F (sPl s) j) q) zz) (fN F) (fun q zz hj2 hI2 ih2 => ?_) (fun zz hI2 => ?_) (0) (lm_wr M1 37 j 0) (by omega) ?_
      ·
        revert ih2 hI2
        revert zz
        intro M2 hI2 ih2
        replace hI2 : Ag j (M2 37) (heardS F (sPl s)) ∧ Fr (frO 37) M M2 ∧ M2 37 j = msk (heS F (sPl s) j) q := hI2
        replace ih2 : ∀ (M2 : Nat → Fn) (_ : Ag j (M2 37) (heardS F (sPl s)) ∧ Fr (frO 37) M M2 ∧ M2 37 j = msk (heS F (sPl s) j) (q + 1)), lm_G X d 57 106 0 0 54 [some (.ref 28), some (.int (nI j)), some (.int (if fWh F j = 1 then 2 * fE F else fE F)), some (.int (nI (q + 1)))] [] (lm_T M2 v G) Q := fun M2 q => ih2 M2 q
        show lm_G X d 57 106 0 0 54 [some (.ref 28), some (.int (nI j)), some (.int (if fWh F j = 1 then 2 * fE F else fE F)), some (.int (nI q))] [] (lm_T M2 v G) Q
        obtain ⟨k1, k2, k3⟩ := hI2
        refine lm_G_sg 4 (pc' := 62) (L' := [some (.ref 28), some (.int (nI j)), some (.int (if fWh F j = 1 then 2 * fE F else fE F)), some (.int (nI q))]) (S' := [.int (M2 14 0), .int (nI q)]) (σ' := lm_T M2 v G) rfl trivial ?_
        rw [show M2 14 0 = nI (fN F) from (congrFun (k2 14 rfl) 0).trans h.n]
        refine lm_G_br (b := (nI (fN F)) ≤ (nI q)) (t := 108) (S' := []) rfl (fun hc => absurd hc (nI_ge hj2 (by omega))) (fun hc => ?_)
        refine lm_G_sg 2 (pc' := 67) (L' := [some (.ref 28), some (.int (nI j)), some (.int (if fWh F j = 1 then 2 * fE F else fE F)), some (.int (nI q))]) (S' := [.int (nI j), .int (nI q)]) (σ' := lm_T M2 v G) rfl trivial ?_
        refine lm_G_br (b := (nI q) = (nI j)) (t := 102) (S' := []) rfl (fun h4 => ?_) (fun h4 => ?_)
        ·
          have e : q = j := (nI_eq (by omega) (by omega)).mp h4
          refine lm_G_sg 1 (pc' := 105) (L' := [some (.ref 28), some (.int (nI j)), some (.int (if fWh F j = 1 then 2 * fE F else fE F)), some (.int ((nI q) + 1))]) (S' := []) (σ' := lm_T M2 v G) rfl trivial ?_
          rw [nI_1]
          refine lm_G_sg 1 (pc' := 54) (L' := [some (.ref 28), some (.int (nI j)), some (.int (if fWh F j = 1 then 2 * fE F else fE F)), some (.int (nI (q + 1)))]) (S' := []) (σ' := lm_T M2 v G) rfl trivial ?_
          exact ih2 _ (⟨k1, k2, by rw [k3, msk_f (f := (heS F (sPl s) j)) (by unfold heS; simp [e])]⟩)
        ·
          have e : j ≠ q := fun w => h4 (by rw [w])
          refine lm_G_sg 4 (pc' := 76) (L' := [some (.ref 28), some (.int (nI j)), some (.int (if fWh F j = 1 then 2 * fE F else fE F)), some (.int (nI q))]) (S' := [.int (M2 30 (nI j).toNatClampNeg)]) (σ' := lm_T M2 v G) rfl ⟨(vp_in_nI (by omega) (by omega)), trivial, trivial⟩ ?_
          rw [show (nI j).toNatClampNeg = j from nI_clamp (by omega)]
          rw [show M2 30 j = sPl s j from (congrFun (k2 30 rfl) j).trans (h.pl j (by omega))]
          refine lm_G_sg 4 (pc' := 82) (L' := [some (.ref 28), some (.int (nI j)), some (.int (if fWh F j = 1 then 2 * fE F else fE F)), some (.int (nI q))]) (S' := [.int (M2 30 (nI q).toNatClampNeg), .int (sPl s j)]) (σ' := lm_T M2 v G) rfl ⟨(vp_in_nI (by omega) (by omega)), trivial, trivial⟩ ?_
          rw [show (nI q).toNatClampNeg = q from nI_clamp (by omega)]
          rw [show M2 30 q = sPl s q from (congrFun (k2 30 rfl) q).trans (h.pl q (by omega))]
          refine lm_G_sg 3 (pc' := 87) (L' := [some (.ref 28), some (.int (nI j)), some (.int (if fWh F j = 1 then 2 * fE F else fE F)), some (.int (nI q))]) (S' := [.int (if fWh F j = 1 then 2 * fE F else fE F), .int (absI ((sPl s j) - (sPl s q)))]) (σ' := lm_T M2 v G) rfl ⟨trivial, (Nat.le_of_ble_eq_true rfl), trivial⟩ ?_
          refine lm_G_br (b := (if fWh F j = 1 then 2 * fE F else fE F) < (absI ((sPl s j) - (sPl s q)))) (t := 102) (S' := []) rfl (fun h5 => ?_) (fun h5 => ?_)
          ·
            refine lm_G_sg 1 (pc' := 105) (L' := [some (.ref 28), some (.int (nI j)), some (.int (if fWh F j = 1 then 2 * fE F else fE F)), some (.int ((nI q) + 1))]) (S' := []) (σ' := lm_T M2 v G) rfl trivial ?_
            rw [nI_1]
            refine lm_G_sg 1 (pc' := 54) (L' := [some (.ref 28), some (.int (nI j)), some (.int (if fWh F j = 1 then 2 * fE F else fE F)), some (.int (nI (q + 1)))]) (S' := []) (σ' := lm_T M2 v G) rfl trivial ?_
            exact ih2 _ (⟨k1, k2, by rw [k3, msk_f (f := (heS F (sPl s) j)) (by unfold heS; rw [decide_eq_false (Int32.not_le.mpr h5)]; simp)]⟩)
          ·
            refine lm_G_sg 5 (pc' := 97) (L' := [some (.ref 28), some (.int (nI j)), some (.int (if fWh F j = 1 then 2 * fE F else fE F)), some (.int (nI q))]) (S' := [.int (M2 37 (nI j).toNatClampNeg), .int (nI j), .ref 37]) (σ' := lm_T M2 v G) rfl ⟨(vp_in_nI (by omega) (by omega)), trivial, trivial⟩ ?_
            rw [show (nI j).toNatClampNeg = j from nI_clamp (by omega)]
            rw [show M2 37 j = msk (heS F (sPl s) j) q from k3]
            refine lm_G_sg 5 (pc' := 102) (L' := [some (.ref 28), some (.int (nI j)), some (.int (if fWh F j = 1 then 2 * fE F else fE F)), some (.int (nI q))]) (S' := []) (σ' := lm_T (lm_wr M2 37 ((nI j).toNatClampNeg) ((msk (heS F (sPl s) j) q) ||| (1 <<< ((nI q) &&& 31)))) v G) rfl ⟨(vp_in_nI (by omega) (by omega)), trivial, trivial⟩ ?_
            rw [show (nI j).toNatClampNeg = j from nI_clamp (by omega)]
            refine lm_G_sg 1 (pc' := 105) (L' := [some (.ref 28), some (.int (nI j)), some (.int (if fWh F j = 1 then 2 * fE F else fE F)), some (.int ((nI q) + 1))]) (S' := []) (σ' := lm_T (lm_wr M2 37 j ((msk (heS F (sPl s) j) q) ||| (1 <<< ((nI q) &&& 31)))) v G) rfl trivial ?_
            rw [nI_1]
            refine lm_G_sg 1 (pc' := 54) (L' := [some (.ref 28), some (.int (nI j)), some (.int (if fWh F j = 1 then 2 * fE F else fE F)), some (.int (nI (q + 1)))]) (S' := []) (σ' := lm_T (lm_wr M2 37 j ((msk (heS F (sPl s) j) q) ||| (1 <<< ((nI q) &&& 31)))) v G) rfl trivial ?_
            exact ih2 _ (⟨fun u hu => by rw [wr_at (by omega)]; exact k1 u hu, Fr_wr k2 rfl, by rw [wr_same, msk_t (f := (heS F (sPl s) j)) (by unfold heS; rw [decide_eq_true (Int32.not_lt.mp h5), decide_eq_true e]; rfl)]⟩)
      ·
        revert hI2
        revert zz
        intro M2 hI2
        replace hI2 : Ag j (M2 37) (heardS F (sPl s)) ∧ Fr (frO 37) M M2 ∧ M2 37 j = msk (heS F (sPl s) j) (fN F) := hI2
        show lm_G X d 57 106 0 0 54 [some (.ref 28), some (.int (nI j)), some (.int (if fWh F j = 1 then 2 * fE F else fE F)), some (.int (nI (fN F)))] [] (lm_T M2 v G) Q
        obtain ⟨k1, k2, k3⟩ := hI2
        refine lm_G_sg 4 (pc' := 62) (L' := [some (.ref 28), some (.int (nI j)), some (.int (if fWh F j = 1 then 2 * fE F else fE F)), some (.int (nI (fN F)))]) (S' := [.int (M2 14 0), .int (nI (fN F))]) (σ' := lm_T M2 v G) rfl trivial ?_
        rw [show M2 14 0 = nI (fN F) from (congrFun (k2 14 rfl) 0).trans h.n]
        refine lm_G_br (b := (nI (fN F)) ≤ (nI (fN F))) (t := 108) (S' := []) rfl (fun hc => ?_) (fun hc => absurd (nI_le (Nat.le_refl _) (by omega)) hc)
        refine lm_G_sg 1 (pc' := 111) (L' := [some (.ref 28), some (.int ((nI j) + 1)), some (.int (if fWh F j = 1 then 2 * fE F else fE F)), some (.int (nI (fN F)))]) (S' := []) (σ' := lm_T M2 v G) rfl trivial ?_
        rw [nI_1]
        refine lm_G_sg 1 (pc' := 2) (L' := [some (.ref 28), some (.int (nI (j + 1))), some (.int (if fWh F j = 1 then 2 * fE F else fE F)), some (.int (nI (fN F)))]) (S' := []) (σ' := lm_T M2 v G) rfl trivial ?_
        refine lm_G_jk (L := [some (.ref 28), some (.int (nI (j + 1))), none, none]) ⟨rfl, rfl, trivial⟩ ?_
        exact ih _ (⟨fun u hu => if w : u = j then (by subst w; exact k3) else k1 u (by omega), k2⟩)
      ·
        try dsimp only
        exact ⟨fun u hu => by rw [wr_at (by omega)]; exact i1 u hu, Fr_wr i2 rfl, wr_same⟩
    ·
      refine lm_G_sg 4 (pc' := 33) (L' := [some (.ref 28), some (.int (nI j)), none, none]) (S' := [.int (M1 14 9), .int 2]) (σ' := lm_T M1 v G) rfl trivial ?_
      rw [show M1 14 9 = fE F from (congrFun (i2 14 rfl) 9).trans h.e]
      refine lm_G_sg 8 (pc' := 52) (L' := [some (.ref 28), some (.int (nI j)), some (.int (2 * (fE F))), none]) (S' := []) (σ' := lm_T (lm_wr M1 37 ((nI j).toNatClampNeg) 0) v G) rfl ⟨(vp_in_nI (by omega) (by omega)), trivial, trivial⟩ ?_
      rw [show (nI j).toNatClampNeg = j from nI_clamp (by omega)]
      refine lm_G_sg 2 (pc' := 54) (L' := [some (.ref 28), some (.int (nI j)), some (.int (2 * (fE F))), some (.int 0)]) (S' := []) (σ' := lm_T (lm_wr M1 37 j 0) v G) rfl trivial ?_
      have er : 2 * fE F = (if fWh F j = 1 then 2 * fE F else fE F) := by rw [if_pos ((h.w01 j hj).resolve_left h3)]
      rw [er]
      refine lm_ind (α := (Nat → Fn)) (St := fun (q : Nat) zz => (fun (M2 : Nat → Fn) => lm_G X d 57 106 0 0 54 [some (.ref 28), some (.int (nI j)), some (.int (if fWh F j = 1 then 2 * fE F else fE F)), some (.int (nI q))] [] (lm_T M2 v G) Q) zz) (Inv := fun (q : Nat) zz => (fun (M2 : Nat → Fn) => Ag j (M2 37) (heardS F (sPl s)) ∧ Fr (frO 37) M M2 ∧ M2 37 j = msk (heS F (sPl s) j) q) zz) (fN F) (fun q zz hj2 hI2 ih2 => ?_) (fun zz hI2 => ?_) (0) (lm_wr M1 37 j 0) (by omega) ?_
      ·
        revert ih2 hI2
        revert zz
        intro M2 hI2 ih2
        replace hI2 : Ag j (M2 37) (heardS F (sPl s)) ∧ Fr (frO 37) M M2 ∧ M2 37 j = msk (heS F (sPl s) j) q := hI2
        replace ih2 : ∀ (M2 : Nat → Fn) (_ : Ag j (M2 37) (heardS F (sPl s)) ∧ Fr (frO 37) M M2 ∧ M2 37 j = msk (heS F (sPl s) j) (q + 1)), lm_G X d 57 106 0 0 54 [some (.ref 28), some (.int (nI j)), some (.int (if fWh F j = 1 then 2 * fE F else fE F)), some (.int (nI (q + 1)))] [] (lm_T M2 v G) Q := fun M2 q => ih2 M2 q
        show lm_G X d 57 106 0 0 54 [some (.ref 28), some (.int (nI j)), some (.int (if fWh F j = 1 then 2 * fE F else fE F)), some (.int (nI q))] [] (lm_T M2 v G) Q
        obtain ⟨k1, k2, k3⟩ := hI2
        refine lm_G_sg 4 (pc' := 62) (L' := [some (.ref 28), some (.int (nI j)), some (.int (if fWh F j = 1 then 2 * fE F else fE F)), some (.int (nI q))]) (S' := [.int (M2 14 0), .int (nI q)]) (σ' := lm_T M2 v G) rfl trivial ?_
        rw [show M2 14 0 = nI (fN F) from (congrFun (k2 14 rfl) 0).trans h.n]
        refine lm_G_br (b := (nI (fN F)) ≤ (nI q)) (t := 108) (S' := []) rfl (fun hc => absurd hc (nI_ge hj2 (by omega))) (fun hc => ?_)
        refine lm_G_sg 2 (pc' := 67) (L' := [some (.ref 28), some (.int (nI j)), some (.int (if fWh F j = 1 then 2 * fE F else fE F)), some (.int (nI q))]) (S' := [.int (nI j), .int (nI q)]) (σ' := lm_T M2 v G) rfl trivial ?_
        refine lm_G_br (b := (nI q) = (nI j)) (t := 102) (S' := []) rfl (fun h4 => ?_) (fun h4 => ?_)
        ·
          have e : q = j := (nI_eq (by omega) (by omega)).mp h4
          refine lm_G_sg 1 (pc' := 105) (L' := [some (.ref 28), some (.int (nI j)), some (.int (if fWh F j = 1 then 2 * fE F else fE F)), some (.int ((nI q) + 1))]) (S' := []) (σ' := lm_T M2 v G) rfl trivial ?_
          rw [nI_1]
          refine lm_G_sg 1 (pc' := 54) (L' := [some (.ref 28), some (.int (nI j)), some (.int (if fWh F j = 1 then 2 * fE F else fE F)), some (.int (nI (q + 1)))]) (S' := []) (σ' := lm_T M2 v G) rfl trivial ?_
          exact ih2 _ (⟨k1, k2, by rw [k3, msk_f (f := (heS F (sPl s) j)) (by unfold heS; simp [e])]⟩)
        ·
          have e : j ≠ q := fun w => h4 (by rw [w])
          refine lm_G_sg 4 (pc' := 76) (L' := [some (.ref 28), some (.int (nI j)), some (.int (if fWh F j = 1 then 2 * fE F else fE F)), some (.int (nI q))]) (S' := [.int (M2 30 (nI j).toNatClampNeg)]) (σ' := lm_T M2 v G) rfl ⟨(vp_in_nI (by omega) (by omega)), trivial, trivial⟩ ?_
          rw [show (nI j).toNatClampNeg = j from nI_clamp (by omega)]
          rw [show M2 30 j = sPl s j from (congrFun (k2 30 rfl) j).trans (h.pl j (by omega))]
          refine lm_G_sg 4 (pc' := 82) (L' := [some (.ref 28), some (.int (nI j)), some (.int (if fWh F j = 1 then 2 * fE F else fE F)), some (.int (nI q))]) (S' := [.int (M2 30 (nI q).toNatClampNeg), .int (sPl s j)]) (σ' := lm_T M2 v G) rfl ⟨(vp_in_nI (by omega) (by omega)), trivial, trivial⟩ ?_
          rw [show (nI q).toNatClampNeg = q from nI_clamp (by omega)]
          rw [show M2 30 q = sPl s q from (congrFun (k2 30 rfl) q).trans (h.pl q (by omega))]
          refine lm_G_sg 3 (pc' := 87) (L' := [some (.ref 28), some (.int (nI j)), some (.int (if fWh F j = 1 then 2 * fE F else fE F)), some (.int (nI q))]) (S' := [.int (if fWh F j = 1 then 2 * fE F else fE F), .int (absI ((sPl s j) - (sPl s q)))]) (σ' := lm_T M2 v G) rfl ⟨trivial, (Nat.le_of_ble_eq_true rfl), trivial⟩ ?_
          refine lm_G_br (b := (if fWh F j = 1 then 2 * fE F else fE F) < (absI ((sPl s j) - (sPl s q)))) (t := 102) (S' := []) rfl (fun h5 => ?_) (fun h5 => ?_)
          ·
            refine lm_G_sg 1 (pc' := 105) (L' := [some (.ref 28), some (.int (nI j)), some (.int (if fWh F j = 1 then 2 * fE F else fE F)), some (.int ((nI q) + 1))]) (S' := []) (σ' := lm_T M2 v G) rfl trivial ?_
            rw [nI_1]
            refine lm_G_sg 1 (pc' := 54) (L' := [some (.ref 28), some (.int (nI j)), some (.int (if fWh F j = 1 then 2 * fE F else fE F)), some (.int (nI (q + 1)))]) (S' := []) (σ' := lm_T M2 v G) rfl trivial ?_
            exact ih2 _ (⟨k1, k2, by rw [k3, msk_f (f := (heS F (sPl s) j)) (by unfold heS; rw [decide_eq_false (Int32.not_le.mpr h5)]; simp)]⟩)
          ·
            refine lm_G_sg 5 (pc' := 97) (L' := [some (.ref 28), some (.int (nI j)), some (.int (if fWh F j = 1 then 2 * fE F else fE F)), some (.int (nI q))]) (S' := [.int (M2 37 (nI j).toNatClampNeg), .int (nI j), .ref 37]) (σ' := lm_T M2 v G) rfl ⟨(vp_in_nI (by omega) (by omega)), trivial, trivial⟩ ?_
            rw [show (nI j).toNatClampNeg = j from nI_clamp (by omega)]
            rw [show M2 37 j = msk (heS F (sPl s) j) q from k3]
            refine lm_G_sg 5 (pc' := 102) (L' := [some (.ref 28), some (.int (nI j)), some (.int (if fWh F j = 1 then 2 * fE F else fE F)), some (.int (nI q))]) (S' := []) (σ' := lm_T (lm_wr M2 37 ((nI j).toNatClampNeg) ((msk (heS F (sPl s) j) q) ||| (1 <<< ((nI q) &&& 31)))) v G) rfl ⟨(vp_in_nI (by omega) (by omega)), trivial, trivial⟩ ?_
            rw [show (nI j).toNatClampNeg = j from nI_clamp (by omega)]
            refine lm_G_sg 1 (pc' := 105) (L' := [some (.ref 28), some (.int (nI j)), some (.int (if fWh F j = 1 then 2 * fE F else fE F)), some (.int ((nI q) + 1))]) (S' := []) (σ' := lm_T (lm_wr M2 37 j ((msk (heS F (sPl s) j) q) ||| (1 <<< ((nI q) &&& 31)))) v G) rfl trivial ?_
            rw [nI_1]
            refine lm_G_sg 1 (pc' := 54) (L' := [some (.ref 28), some (.int (nI j)), some (.int (if fWh F j = 1 then 2 * fE F else fE F)), some (.int (nI (q + 1)))]) (S' := []) (σ' := lm_T (lm_wr M2 37 j ((msk (heS F (sPl s) j) q) ||| (1 <<< ((nI q) &&& 31)))) v G) rfl trivial ?_
            exact ih2 _ (⟨fun u hu => by rw [wr_at (by omega)]; exact k1 u hu, Fr_wr k2 rfl, by rw [wr_same, msk_t (f := (heS F (sPl s) j)) (by unfold heS; rw [decide_eq_true (Int32.not_lt.mp h5), decide_eq_true e]; rfl)]⟩)
      ·
        revert hI2
        revert zz
        intro M2 hI2
        replace hI2 : Ag j (M2 37) (heardS F (sPl s)) ∧ Fr (frO 37) M M2 ∧ M2 37 j = msk (heS F (sPl s) j) (fN F) := hI2
        show lm_G X d 57 106 0 0 54 [some (.ref 28), some (.int (nI j)), some (.int (if fWh F j = 1 then 2 * fE F else fE F)), some (.int (nI (fN F)))] [] (lm_T M2 v G) Q
        obtain ⟨k1, k2, k3⟩ := hI2
        refine lm_G_sg 4 (pc' := 62) (L' := [some (.ref 28), some (.int (nI j)), some (.int (if fWh F j = 1 then 2 * fE F else fE F)), some (.int (nI (fN F)))]) (S' := [.int (M2 14 0), .int (nI (fN F))]) (σ' := lm_T M2 v G) rfl trivial ?_
        rw [show M2 14 0 = nI (fN F) from (congrFun (k2 14 rfl) 0).trans h.n]
        refine lm_G_br (b := (nI (fN F)) ≤ (nI (fN F))) (t := 108) (S' := []) rfl (fun hc => ?_) (fun hc => absurd (nI_le (Nat.le_refl _) (by omega)) hc)
        refine lm_G_sg 1 (pc' := 111) (L' := [some (.ref 28), some (.int ((nI j) + 1)), some (.int (if fWh F j = 1 then 2 * fE F else fE F)), some (.int (nI (fN F)))]) (S' := []) (σ' := lm_T M2 v G) rfl trivial ?_
        rw [nI_1]
        refine lm_G_sg 1 (pc' := 2) (L' := [some (.ref 28), some (.int (nI (j + 1))), some (.int (if fWh F j = 1 then 2 * fE F else fE F)), some (.int (nI (fN F)))]) (S' := []) (σ' := lm_T M2 v G) rfl trivial ?_
        refine lm_G_jk (L := [some (.ref 28), some (.int (nI (j + 1))), none, none]) ⟨rfl, rfl, trivial⟩ ?_
        exact ih _ (⟨fun u hu => if w : u = j then (by subst w; exact k3) else k1 u (by omega), k2⟩)
      ·
        try dsimp only
        exact ⟨fun u hu => by rw [wr_at (by omega)]; exact i1 u hu, Fr_wr i2 rfl, wr_same⟩
  ·
    revert hI
    revert zz
    intro M1 hI
    replace hI : Ag (fN F) (M1 37) (heardS F (sPl s)) ∧ Fr (frO 37) M M1 := hI
    show lm_G X d 57 106 0 0 2 [some (.ref 28), some (.int (nI (fN F))), none, none] [] (lm_T M1 v G) Q
    obtain ⟨i1, i2⟩ := hI
    refine lm_G_sg 4 (pc' := 10) (L' := [some (.ref 28), some (.int (nI (fN F))), none, none]) (S' := [.int (M1 14 0), .int (nI (fN F))]) (σ' := lm_T M1 v G) rfl trivial ?_
    rw [show M1 14 0 = nI (fN F) from (congrFun (i2 14 rfl) 0).trans h.n]
    refine lm_G_br (b := (nI (fN F)) ≤ (nI (fN F))) (t := 114) (S' := []) rfl (fun hc => ?_) (fun hc => absurd (nI_le (Nat.le_refl _) (by omega)) hc)
    exact lm_G_re rfl trivial (Nat.zero_le _) (Nat.zero_le _) (hQ _ i1 i2)
  ·
    try dsimp only
    exact ⟨fun u hu => by omega, Fr_rf _ _⟩
set_option maxRecDepth 10000 in
theorem c_putAt28 {X : lm_X} {d v : Nat} {M : Nat → Nat → Int32} {G : Nat → Nat → Int64} {Q : lm_O → lm_S → Prop} {F : Fa} {s : Sc} {p : Nat} {x : Int32} (hF : okF F) (h : RC 28 M F s) (hp : p < fN F) (hQ : ∀ M1, RC 28 M1 F (plS s p x) → FrW 28 M M1 → M1 28 13 = M 28 13 → Q (.inl none) (lm_T M1 v G)) : lm_Q X (d + 1) 64 [.ref 28, .int (nI p), .int x] (lm_T M v G) Q := by
  have hn := hF.n
  have hm := hF.m
  show lm_G X (d + 1) 64 106 0 0 0 [some (.ref 28), some (.int (nI p)), some (.int x)] [] (lm_T M v G) Q
  refine lm_G_sg 5 (pc' := 7) (L' := [some (.ref 28), some (.int (nI p)), some (.int x)]) (S' := []) (σ' := lm_T (lm_wr M 30 ((nI p).toNatClampNeg) x) v G) rfl ⟨(vp_in_nI (by omega) (by omega)), trivial, trivial⟩ ?_
  rw [show (nI p).toNatClampNeg = p from nI_clamp (by omega)]
  refine lm_G_sg 1 (pc' := 8) (L' := [some (.ref 28), some (.int (nI p)), some (.int x)]) (S' := [.ref 28]) (σ' := lm_T (lm_wr M 30 p x) v G) rfl trivial ?_
  have h0 : PC 28 (lm_wr M 30 p x) F (plS s p x) := ⟨KC_of h.1 rfl rfl rfl rfl rfl rfl rfl, h.hr, h.br, Ag_upd h.pl p x, h.co, h.hu, h.hd, h.id, h.ow⟩
  refine lm_G_ca (j := 57) (as := [.ref 28]) (rest := []) rfl (Or.inl rfl) (Nat.le_of_ble_eq_true rfl) (Nat.le_of_ble_eq_true rfl) (Nat.le_of_ble_eq_true rfl) (Nat.le_of_ble_eq_true rfl) rfl ?_
  refine c_findHeard28 hF h0 (fun M1 k1 k2 => ?_)
  show lm_G X (d + 1) 64 106 0 0 11 [some (.ref 28), some (.int (nI p)), some (.int x)] [] (lm_T M1 v G) Q
  have k3 : PC 28 M1 F (plS s p x) := by
    refine ⟨KC_of h0.1 (k2 14 rfl) (k2 16 rfl) (k2 19 rfl) (k2 20 rfl) (k2 22 rfl) (k2 23 rfl) (k2 24 rfl), ?_⟩
    rw [k2 28 rfl, k2 (28 + 1) rfl, k2 (28 + 2) rfl, k2 (28 + 3) rfl, k2 (28 + 4) rfl, k2 (28 + 5) rfl, k2 (28 + 6) rfl, k2 (28 + 7) rfl]
    exact h0.2
  exact lm_G_re rfl trivial (Nat.zero_le _) (Nat.zero_le _) (hQ _ (PC_RC k3 (by rw [k2 (28 + 8) rfl]; exact h.hs) k1) ⟨fun a ha => (k2 a (by unfold frO; unfold frW at ha; revert ha; by_cases w : a = 37 <;> simp [w])).trans (wr_row (fun e => by subst e; cases ha)), fun k _ _ => by rw [k2 28 rfl]; rfl⟩ (by rw [k2 28 rfl]; rfl))
set_option maxRecDepth 10000 in
theorem c_boj38 {X : lm_X} {d v : Nat} {M : Nat → Nat → Int32} {G : Nat → Nat → Int64} {Q : lm_O → lm_S → Prop} {F : Fa} {s : Sc} {p : Nat} (hF : okF F) (h : RC 38 M F s) (hp : p < fN F) (h0 : sHu s p = -1) (hQ : ∀ M1, RC 38 M1 F (bojS F s p) → FrC 38 M M1 → M1 38 13 = M 38 13 → Q (.inl none) (lm_T M1 v G)) : lm_Q X (d + 3) 77 [.ref 38, .int (nI p)] (lm_T M v G) Q := by
  have hn := hF.n
  have hm := hF.m
  show lm_G X (d + 3) 77 106 0 0 0 [some (.ref 38), some (.int (nI p)), none, none] [] (lm_T M v G) Q
  refine lm_G_sg 2 (pc' := 2) (L' := [some (.ref 38), some (.int (nI p)), some (.int 0), none]) (S' := []) (σ' := lm_T M v G) rfl trivial ?_
  refine lm_ind (α := Unit) (St := fun (j : Nat) zz => lm_G X (d + 3) 77 106 0 0 2 [some (.ref 38), some (.int (nI p)), some (.int (nI j)), none] [] (lm_T M v G) Q) (Inv := fun (j : Nat) zz => fstS (begS F s p) j = none) (fM F) (fun j zz hj hI ih => ?_) (fun zz hI => ?_) (0) () (by omega) ?_
  ·
    replace hI : fstS (begS F s p) j = none := hI
    replace ih : ∀ (_ : fstS (begS F s p) (j + 1) = none), lm_G X (d + 3) 77 106 0 0 2 [some (.ref 38), some (.int (nI p)), some (.int (nI (j + 1))), none] [] (lm_T M v G) Q := fun q => ih () q
    show lm_G X (d + 3) 77 106 0 0 2 [some (.ref 38), some (.int (nI p)), some (.int (nI j)), none] [] (lm_T M v G) Q
    refine lm_G_sg 4 (pc' := 10) (L' := [some (.ref 38), some (.int (nI p)), some (.int (nI j)), none]) (S' := [.int (M 14 6), .int (nI j)]) (σ' := lm_T M v G) rfl trivial ?_
    rw [show M 14 6 = nI (fM F) from h.m]
    refine lm_G_br (b := (nI (fM F)) ≤ (nI j)) (t := 45) (S' := []) rfl (fun hc => absurd hc (nI_ge hj (by omega))) (fun hc => ?_)
    refine lm_G_sg 4 (pc' := 19) (L' := [some (.ref 38), some (.int (nI p)), some (.int (nI j)), none]) (S' := [.int (M 45 (nI j).toNatClampNeg)]) (σ' := lm_T M v G) rfl ⟨(vp_in_nI (by omega) (by omega)), trivial, trivial⟩ ?_
    rw [show (nI j).toNatClampNeg = j from nI_clamp (by omega)]
    rw [show M 45 j = sOw s j from h.ow j (by omega)]
    refine lm_G_sg 1 (pc' := 20) (L' := [some (.ref 38), some (.int (nI p)), some (.int (nI j)), none]) (S' := [.int (nI p), .int (sOw s j)]) (σ' := lm_T M v G) rfl trivial ?_
    refine lm_G_br (b := ¬ (sOw s j) = (nI p)) (t := 39) (S' := []) rfl (fun h5 => ?_) (fun h5 => ?_)
    ·
      refine lm_G_sg 1 (pc' := 42) (L' := [some (.ref 38), some (.int (nI p)), some (.int ((nI j) + 1)), none]) (S' := []) (σ' := lm_T M v G) rfl trivial ?_
      rw [nI_1]
      refine lm_G_sg 1 (pc' := 2) (L' := [some (.ref 38), some (.int (nI p)), some (.int (nI (j + 1))), none]) (S' := []) (σ' := lm_T M v G) rfl trivial ?_
      exact ih  (by rw [fst_nx hI]; simp [begS, h5])
    ·
      refine lm_G_sg 4 (pc' := 29) (L' := [some (.ref 38), some (.int (nI p)), some (.int (nI j)), none]) (S' := [.int (M 46 (nI j).toNatClampNeg)]) (σ' := lm_T M v G) rfl ⟨(vp_in_nI (by omega) (by omega)), trivial, trivial⟩ ?_
      rw [show (nI j).toNatClampNeg = j from nI_clamp (by omega)]
      rw [show M 46 j = humS F (sHu s) (nI j) from h.hs j (by omega)]
      refine lm_G_br (b := ¬ (humS F (sHu s) (nI j)) = 0) (t := 39) (S' := []) rfl (fun h6 => ?_) (fun h6 => ?_)
      ·
        refine lm_G_sg 1 (pc' := 42) (L' := [some (.ref 38), some (.int (nI p)), some (.int ((nI j) + 1)), none]) (S' := []) (σ' := lm_T M v G) rfl trivial ?_
        rw [nI_1]
        refine lm_G_sg 1 (pc' := 2) (L' := [some (.ref 38), some (.int (nI p)), some (.int (nI (j + 1))), none]) (S' := []) (σ' := lm_T M v G) rfl trivial ?_
        exact ih  (by rw [fst_nx hI]; simp [begS, h6])
      ·
        refine lm_G_sg 3 (pc' := 35) (L' := [some (.ref 38), some (.int (nI p)), some (.int (nI j)), none]) (S' := [.int (nI j), .int (nI p), .ref 38]) (σ' := lm_T M v G) rfl trivial ?_
        refine lm_G_ca (j := 67) (as := [.ref 38, .int (nI p), .int (nI j)]) (rest := []) rfl (Or.inl rfl) (Nat.le_of_ble_eq_true rfl) (Nat.le_of_ble_eq_true rfl) (Nat.le_of_ble_eq_true rfl) (Nat.le_of_ble_eq_true rfl) rfl ?_
        refine c_start38 hF h hp hj ?_
        show lm_G X (d + 3) 77 106 0 0 38 [some (.ref 38), some (.int (nI p)), some (.int (nI j)), none] [] (lm_T (lm_wr (lm_wr M 42 p (nI j)) 46 j (humS F (sHu s) (nI j) ||| bit1 (nI p))) v G) Q
        have hx : fstS (begS F s p) (j + 1) = some j := by rw [fst_nx hI]; simp [begS, Classical.not_not.mp h5, Classical.not_not.mp h6]
        rw [boj_1 (fst_some hx hj)] at hQ
        exact lm_G_re rfl trivial (Nat.zero_le _) (Nat.zero_le _) (hQ _ (RC_hums38 hF h hp hj h0) (FrC_wr (FrC_wr (FrC_rf _ _) rfl (by decide)) rfl (by decide)) rfl)
  ·
    replace hI : fstS (begS F s p) (fM F) = none := hI
    show lm_G X (d + 3) 77 106 0 0 2 [some (.ref 38), some (.int (nI p)), some (.int (nI (fM F))), none] [] (lm_T M v G) Q
    refine lm_G_sg 4 (pc' := 10) (L' := [some (.ref 38), some (.int (nI p)), some (.int (nI (fM F))), none]) (S' := [.int (M 14 6), .int (nI (fM F))]) (σ' := lm_T M v G) rfl trivial ?_
    rw [show M 14 6 = nI (fM F) from h.m]
    refine lm_G_br (b := (nI (fM F)) ≤ (nI (fM F))) (t := 45) (S' := []) rfl (fun hc => ?_) (fun hc => absurd (nI_le (Nat.le_refl _) (by omega)) hc)
    have eq := boj_2 hI
    refine lm_G_sg 2 (pc' := 47) (L' := [some (.ref 38), some (.int (nI p)), some (.int 0), none]) (S' := []) (σ' := lm_T M v G) rfl trivial ?_
    refine lm_ind (α := (Nat → Fn)) (St := fun (j : Nat) zz => (fun (M1 : Nat → Fn) => lm_G X (d + 3) 77 106 0 0 47 [some (.ref 38), some (.int (nI p)), some (.int (nI j)), none] [] (lm_T M1 v G) Q) zz) (Inv := fun (j : Nat) zz => (fun (M1 : Nat → Fn) => fstS (joinS F s p) j = none ∧ Fr frR M M1) zz) (fM F) (fun j zz hj2 hI2 ih2 => ?_) (fun zz hI2 => ?_) (0) M (by omega) ?_
    ·
      revert ih2 hI2
      revert zz
      intro M1 hI2 ih2
      replace hI2 : fstS (joinS F s p) j = none ∧ Fr frR M M1 := hI2
      replace ih2 : ∀ (M1 : Nat → Fn) (_ : fstS (joinS F s p) (j + 1) = none ∧ Fr frR M M1), lm_G X (d + 3) 77 106 0 0 47 [some (.ref 38), some (.int (nI p)), some (.int (nI (j + 1))), none] [] (lm_T M1 v G) Q := fun M1 q => ih2 M1 q
      show lm_G X (d + 3) 77 106 0 0 47 [some (.ref 38), some (.int (nI p)), some (.int (nI j)), none] [] (lm_T M1 v G) Q
      obtain ⟨i1, i2⟩ := hI2
      have h1 := RC_R38 h i2
      refine lm_G_sg 4 (pc' := 55) (L' := [some (.ref 38), some (.int (nI p)), some (.int (nI j)), none]) (S' := [.int (M1 14 6), .int (nI j)]) (σ' := lm_T M1 v G) rfl trivial ?_
      rw [show M1 14 6 = nI (fM F) from h1.m]
      refine lm_G_br (b := (nI (fM F)) ≤ (nI j)) (t := 113) (S' := []) rfl (fun hc => absurd hc (nI_ge hj2 (by omega))) (fun hc => ?_)
      refine lm_G_sg 4 (pc' := 64) (L' := [some (.ref 38), some (.int (nI p)), some (.int (nI j)), none]) (S' := [.int (M1 46 (nI j).toNatClampNeg)]) (σ' := lm_T M1 v G) rfl ⟨(vp_in_nI (by omega) (by omega)), trivial, trivial⟩ ?_
      rw [show (nI j).toNatClampNeg = j from nI_clamp (by omega)]
      rw [show M1 46 j = humS F (sHu s) (nI j) from h1.hs j (by omega)]
      refine lm_G_sg 4 (pc' := 70) (L' := [some (.ref 38), some (.int (nI p)), some (.int (nI j)), none]) (S' := [.int (M1 47 (nI p).toNatClampNeg), .int (humS F (sHu s) (nI j))]) (σ' := lm_T M1 v G) rfl ⟨(vp_in_nI (by omega) (by omega)), trivial, trivial⟩ ?_
      rw [show (nI p).toNatClampNeg = p from nI_clamp (by omega)]
      rw [show M1 47 p = heardS F (sPl s) p from h1.he p (by omega)]
      refine lm_G_sg 1 (pc' := 71) (L' := [some (.ref 38), some (.int (nI p)), some (.int (nI j)), none]) (S' := [.int ((humS F (sHu s) (nI j)) &&& (heardS F (sPl s) p))]) (σ' := lm_T M1 v G) rfl trivial ?_
      refine lm_G_br (b := ((humS F (sHu s) (nI j)) &&& (heardS F (sPl s) p)) = 0) (t := 78) (S' := []) rfl (fun h5 => ?_) (fun h5 => ?_)
      ·
        refine lm_G_sg 3 (pc' := 81) (L' := [some (.ref 38), some (.int (nI p)), some (.int (nI j)), some (.int 0)]) (S' := [.int 0]) (σ' := lm_T M1 v G) rfl trivial ?_
        refine lm_G_br (b := 0 = 0) (t := 107) (S' := []) rfl (fun h7 => ?_) (fun h7 => absurd rfl h7)
        refine lm_G_sg 1 (pc' := 110) (L' := [some (.ref 38), some (.int (nI p)), some (.int ((nI j) + 1)), some (.int 0)]) (S' := []) (σ' := lm_T M1 v G) rfl trivial ?_
        rw [nI_1]
        refine lm_G_sg 1 (pc' := 47) (L' := [some (.ref 38), some (.int (nI p)), some (.int (nI (j + 1))), some (.int 0)]) (S' := []) (σ' := lm_T M1 v G) rfl trivial ?_
        refine lm_G_jk (L := [some (.ref 38), some (.int (nI p)), some (.int (nI (j + 1))), none]) ⟨rfl, rfl, rfl, trivial⟩ ?_
        exact ih2 _ (⟨by rw [fst_nx i1]; simp [joinS, h5], i2⟩)
      ·
        refine lm_G_sg 4 (pc' := 81) (L' := [some (.ref 38), some (.int (nI p)), some (.int (nI j)), some (.int 1)]) (S' := [.int 1]) (σ' := lm_T M1 v G) rfl trivial ?_
        refine lm_G_br (b := 1 = 0) (t := 107) (S' := []) rfl (fun h7 => absurd h7 (by decide)) (fun h7 => ?_)
        refine lm_G_sg 7 (pc' := 91) (L' := [some (.ref 38), some (.int (nI p)), some (.int (nI j)), some (.int 1)]) (S' := [.int (nI j), .int (nI p), .ref 38, .int (nI j), .int (nI p), .int 1, .ref 38]) (σ' := lm_T M1 v G) rfl trivial ?_
        refine lm_G_ca (j := 79) (as := [.ref 38, .int (nI p), .int (nI j)]) (rest := [.int (nI j), .int (nI p), .int 1, .ref 38]) rfl (Or.inl rfl) (Nat.le_of_ble_eq_true rfl) (Nat.le_of_ble_eq_true rfl) (Nat.le_of_ble_eq_true rfl) (Nat.le_of_ble_eq_true rfl) rfl ?_
        refine c_nearest38 hF h1 hp hj2 ?_
        show lm_G X (d + 3) 77 106 0 0 94 [some (.ref 38), some (.int (nI p)), some (.int (nI j)), some (.int 1)] [.int (nearS F s p (nI j) 30 (fN F)), .int (nI j), .int (nI p), .int 1, .ref 38] (lm_T M1 v G) Q
        refine lm_G_ca (j := 78) (as := [.ref 38, .int 1, .int (nI p), .int (nI j), .int (nearS F s p (nI j) 30 (fN F))]) (rest := []) rfl (Or.inl rfl) (Nat.le_of_ble_eq_true rfl) (Nat.le_of_ble_eq_true rfl) (Nat.le_of_ble_eq_true rfl) (Nat.le_of_ble_eq_true rfl) rfl ?_
        refine c_ruleGives1_38 hF h1 hp hj2 (fun M2 f2 => ?_)
        show lm_G X (d + 3) 77 106 0 0 97 [some (.ref 38), some (.int (nI p)), some (.int (nI j)), some (.int 1)] [.int (if fR1 F = [] then 0 else reckS (vsS F s p j (nearS F s p (nI j) 30 (fN F))) (fR1 F))] (lm_T M2 v G) Q
        refine lm_G_br (b := (if fR1 F = [] then 0 else reckS (vsS F s p j (nearS F s p (nI j) 30 (fN F))) (fR1 F)) ≤ 0) (t := 107) (S' := []) rfl (fun h8 => ?_) (fun h8 => ?_)
        ·
          refine lm_G_sg 1 (pc' := 110) (L' := [some (.ref 38), some (.int (nI p)), some (.int ((nI j) + 1)), some (.int 1)]) (S' := []) (σ' := lm_T M2 v G) rfl trivial ?_
          rw [nI_1]
          refine lm_G_sg 1 (pc' := 47) (L' := [some (.ref 38), some (.int (nI p)), some (.int (nI (j + 1))), some (.int 1)]) (S' := []) (σ' := lm_T M2 v G) rfl trivial ?_
          have e : joinS F s p j = false := by
            unfold joinS
            by_cases w : fR1 F = []
            · simp [w]
            · rw [if_neg w] at h8
              simp [w, h8]
          refine lm_G_jk (L := [some (.ref 38), some (.int (nI p)), some (.int (nI (j + 1))), none]) ⟨rfl, rfl, rfl, trivial⟩ ?_
          exact ih2 _ (⟨by rw [fst_nx i1, e]; rfl, Fr_tr i2 f2⟩)
        ·
          have e : joinS F s p j = true := by
            unfold joinS
            by_cases w : fR1 F = []
            · rw [if_pos w] at h8
              exact absurd (by decide) h8
            · rw [if_neg w] at h8
              simp [w, Int32.not_le.mp h8, h5]
          have f3 := Fr_tr i2 f2
          have h3 := RC_R38 h f3
          refine lm_G_sg 3 (pc' := 103) (L' := [some (.ref 38), some (.int (nI p)), some (.int (nI j)), some (.int 1)]) (S' := [.int (nI j), .int (nI p), .ref 38]) (σ' := lm_T M2 v G) rfl trivial ?_
          refine lm_G_ca (j := 67) (as := [.ref 38, .int (nI p), .int (nI j)]) (rest := []) rfl (Or.inl rfl) (Nat.le_of_ble_eq_true rfl) (Nat.le_of_ble_eq_true rfl) (Nat.le_of_ble_eq_true rfl) (Nat.le_of_ble_eq_true rfl) rfl ?_
          refine c_start38 hF h3 hp hj2 ?_
          show lm_G X (d + 3) 77 106 0 0 106 [some (.ref 38), some (.int (nI p)), some (.int (nI j)), some (.int 1)] [] (lm_T (lm_wr (lm_wr M2 42 p (nI j)) 46 j (humS F (sHu s) (nI j) ||| bit1 (nI p))) v G) Q
          have hx : fstS (joinS F s p) (j + 1) = some j := by rw [fst_nx i1, e]; rfl
          rw [eq, bj2_s (fst_some hx hj2)] at hQ
          exact lm_G_re rfl trivial (Nat.zero_le _) (Nat.zero_le _) (hQ _ (RC_hums38 hF h3 hp hj2 h0) (FrC_wr (FrC_wr (FrC_R f3 rfl) rfl (by decide)) rfl (by decide)) (by show M2 38 13 = M 38 13; rw [f3 38 rfl]))
    ·
      revert hI2
      revert zz
      intro M1 hI2
      replace hI2 : fstS (joinS F s p) (fM F) = none ∧ Fr frR M M1 := hI2
      show lm_G X (d + 3) 77 106 0 0 47 [some (.ref 38), some (.int (nI p)), some (.int (nI (fM F))), none] [] (lm_T M1 v G) Q
      obtain ⟨i1, i2⟩ := hI2
      have h1 := RC_R38 h i2
      refine lm_G_sg 4 (pc' := 55) (L' := [some (.ref 38), some (.int (nI p)), some (.int (nI (fM F))), none]) (S' := [.int (M1 14 6), .int (nI (fM F))]) (σ' := lm_T M1 v G) rfl trivial ?_
      rw [show M1 14 6 = nI (fM F) from h1.m]
      refine lm_G_br (b := (nI (fM F)) ≤ (nI (fM F))) (t := 113) (S' := []) rfl (fun hc => ?_) (fun hc => absurd (nI_le (Nat.le_refl _) (by omega)) hc)
      rw [eq, bj2_n i1] at hQ
      exact lm_G_re rfl trivial (Nat.zero_le _) (Nat.zero_le _) (hQ _ h1 (FrC_R i2 rfl) (by rw [i2 38 rfl]))
    ·
      try dsimp only
      exact ⟨rfl, Fr_rf _ _⟩
  ·
    try dsimp only
    rfl
set_option maxRecDepth 10000 in
theorem c_passHour38 {X : lm_X} {d v : Nat} {M : Nat → Nat → Int32} {G : Nat → Nat → Int64} {Q : lm_O → lm_S → Prop} {F : Fa} {s : Sc} {lf : Nat → Bool} (hF : okF F) (h : RC 38 M F s) (hs : okS F s) (hl : ∀ p, p < fN F → decide (nI p = M 38 12) = lf p) (hQ : ∀ M1, RC 38 M1 F (hourS F lf s) → FrC 38 M M1 → M1 38 13 = M 38 13 + (hourD F s) → Q (.inl none) (lm_T M1 v G)) : lm_Q X (d + 5) 74 [.ref 38] (lm_T M v G) Q := by
  have hn := hF.n
  have hm := hF.m
  show lm_G X (d + 5) 74 106 0 0 0 [some (.ref 38), none, none, none] [] (lm_T M v G) Q
  refine lm_G_sg 1 (pc' := 1) (L' := [some (.ref 38), none, none, none]) (S' := [.ref 38]) (σ' := lm_T M v G) rfl trivial ?_
  refine lm_G_ca (j := 75) (as := [.ref 38]) (rest := []) rfl (Or.inl rfl) (Nat.le_of_ble_eq_true rfl) (Nat.le_of_ble_eq_true rfl) (Nat.le_of_ble_eq_true rfl) (Nat.le_of_ble_eq_true rfl) rfl ?_
  refine c_ask38 hF h hs (fun M1 f1 => ?_)
  show lm_G X (d + 5) 74 106 0 0 4 [some (.ref 38), none, none, none] [.int (msk (stopW F s) (fN F))] (lm_T M1 v G) Q
  have h1 := RC_R38 h f1
  refine lm_G_sg 3 (pc' := 7) (L' := [some (.ref 38), some (.int (msk (stopW F s) (fN F))), some (.int 0), none]) (S' := []) (σ' := lm_T M1 v G) rfl trivial ?_
  refine lm_ind (α := (Nat → Fn)) (St := fun (j : Nat) zz => (fun (M2 : Nat → Fn) => lm_G X (d + 5) 74 106 0 0 7 [some (.ref 38), some (.int (msk (stopW F s) (fN F))), some (.int (nI j)), none] [] (lm_T M2 v G) Q) zz) (Inv := fun (j : Nat) zz => (fun (M2 : Nat → Fn) => RC 38 M2 F (allS F (bitW (msk (stopW F s) (fN F))) s j) ∧ FrC 38 M1 M2 ∧ M2 38 13 = M1 38 13 + allD F (bitW (msk (stopW F s) (fN F))) s j) zz) (fM F) (fun j zz hj hI ih => ?_) (fun zz hI => ?_) (0) M1 (by omega) ?_
  ·
    revert ih hI
    revert zz
    intro M2 hI ih
    replace hI : RC 38 M2 F (allS F (bitW (msk (stopW F s) (fN F))) s j) ∧ FrC 38 M1 M2 ∧ M2 38 13 = M1 38 13 + allD F (bitW (msk (stopW F s) (fN F))) s j := hI
    replace ih : ∀ (M2 : Nat → Fn) (_ : RC 38 M2 F (allS F (bitW (msk (stopW F s) (fN F))) s (j + 1)) ∧ FrC 38 M1 M2 ∧ M2 38 13 = M1 38 13 + allD F (bitW (msk (stopW F s) (fN F))) s (j + 1)), lm_G X (d + 5) 74 106 0 0 7 [some (.ref 38), some (.int (msk (stopW F s) (fN F))), some (.int (nI (j + 1))), none] [] (lm_T M2 v G) Q := fun M2 q => ih M2 q
    show lm_G X (d + 5) 74 106 0 0 7 [some (.ref 38), some (.int (msk (stopW F s) (fN F))), some (.int (nI j)), none] [] (lm_T M2 v G) Q
    obtain ⟨h2, f2, t2⟩ := hI
    refine lm_G_sg 4 (pc' := 15) (L' := [some (.ref 38), some (.int (msk (stopW F s) (fN F))), some (.int (nI j)), none]) (S' := [.int (M2 14 6), .int (nI j)]) (σ' := lm_T M2 v G) rfl trivial ?_
    rw [show M2 14 6 = nI (fM F) from h2.m]
    refine lm_G_br (b := (nI (fM F)) ≤ (nI j)) (t := 30) (S' := []) rfl (fun hc => absurd hc (nI_ge hj (by omega))) (fun hc => ?_)
    refine lm_G_sg 3 (pc' := 21) (L' := [some (.ref 38), some (.int (msk (stopW F s) (fN F))), some (.int (nI j)), none]) (S' := [.int (nI j), .int (msk (stopW F s) (fN F)), .ref 38]) (σ' := lm_T M2 v G) rfl trivial ?_
    refine lm_G_ca (j := 72) (as := [.ref 38, .int (msk (stopW F s) (fN F)), .int (nI j)]) (rest := []) rfl (Or.inl rfl) (Nat.le_of_ble_eq_true rfl) (Nat.le_of_ble_eq_true rfl) (Nat.le_of_ble_eq_true rfl) (Nat.le_of_ble_eq_true rfl) rfl ?_
    refine c_stopT38 hF h2 hj (fun M3 h3 f3 t3 => ?_)
    show lm_G X (d + 5) 74 106 0 0 24 [some (.ref 38), some (.int (msk (stopW F s) (fN F))), some (.int (nI j)), none] [] (lm_T M3 v G) Q
    refine lm_G_sg 1 (pc' := 27) (L' := [some (.ref 38), some (.int (msk (stopW F s) (fN F))), some (.int ((nI j) + 1)), none]) (S' := []) (σ' := lm_T M3 v G) rfl trivial ?_
    rw [nI_1]
    refine lm_G_sg 1 (pc' := 7) (L' := [some (.ref 38), some (.int (msk (stopW F s) (fN F))), some (.int (nI (j + 1))), none]) (S' := []) (σ' := lm_T M3 v G) rfl trivial ?_
    exact ih _ (⟨h3, FrC_tr f2 f3, by rw [t3, t2, Int32.add_assoc]; rfl⟩)
  ·
    revert hI
    revert zz
    intro M2 hI
    replace hI : RC 38 M2 F (allS F (bitW (msk (stopW F s) (fN F))) s (fM F)) ∧ FrC 38 M1 M2 ∧ M2 38 13 = M1 38 13 + allD F (bitW (msk (stopW F s) (fN F))) s (fM F) := hI
    show lm_G X (d + 5) 74 106 0 0 7 [some (.ref 38), some (.int (msk (stopW F s) (fN F))), some (.int (nI (fM F))), none] [] (lm_T M2 v G) Q
    obtain ⟨h2, f2, t2⟩ := hI
    refine lm_G_sg 4 (pc' := 15) (L' := [some (.ref 38), some (.int (msk (stopW F s) (fN F))), some (.int (nI (fM F))), none]) (S' := [.int (M2 14 6), .int (nI (fM F))]) (σ' := lm_T M2 v G) rfl trivial ?_
    rw [show M2 14 6 = nI (fM F) from h2.m]
    refine lm_G_br (b := (nI (fM F)) ≤ (nI (fM F))) (t := 30) (S' := []) rfl (fun hc => ?_) (fun hc => absurd (nI_le (Nat.le_refl _) (by omega)) hc)
    have hc2 := all_congr (F := F) (W := (bitW (msk (stopW F s) (fN F)))) (V := (stopW F s)) (fun q hq => bitW_mskn (by omega) hq) s (fM F)
    rw [hc2.1] at h2
    rw [hc2.2, f1 38 rfl] at t2
    have g2 : FrC 38 M M2 := FrC_tr (FrC_R f1 rfl) f2
    refine lm_G_sg 2 (pc' := 32) (L' := [some (.ref 38), some (.int (msk (stopW F s) (fN F))), some (.int 0), none]) (S' := []) (σ' := lm_T M2 v G) rfl trivial ?_
    refine lm_ind (α := (Nat → Fn)) (St := fun (j : Nat) zz => (fun (M3 : Nat → Fn) => lm_G X (d + 5) 74 106 0 0 32 [some (.ref 38), some (.int (msk (stopW F s) (fN F))), some (.int (nI j)), none] [] (lm_T M3 v G) Q) zz) (Inv := fun (j : Nat) zz => (fun (M3 : Nat → Fn) => RC 38 M3 F (begA F (stopW F s) lf (allS F (stopW F s) s (fM F)) j) ∧ FrC 38 M M3 ∧ M3 38 13 = M 38 13 + hourD F s) zz) (fN F) (fun j zz hj2 hI2 ih2 => ?_) (fun zz hI2 => ?_) (0) M2 (by omega) ?_
    ·
      revert ih2 hI2
      revert zz
      intro M3 hI2 ih2
      replace hI2 : RC 38 M3 F (begA F (stopW F s) lf (allS F (stopW F s) s (fM F)) j) ∧ FrC 38 M M3 ∧ M3 38 13 = M 38 13 + hourD F s := hI2
      replace ih2 : ∀ (M3 : Nat → Fn) (_ : RC 38 M3 F (begA F (stopW F s) lf (allS F (stopW F s) s (fM F)) (j + 1)) ∧ FrC 38 M M3 ∧ M3 38 13 = M 38 13 + hourD F s), lm_G X (d + 5) 74 106 0 0 32 [some (.ref 38), some (.int (msk (stopW F s) (fN F))), some (.int (nI (j + 1))), none] [] (lm_T M3 v G) Q := fun M3 q => ih2 M3 q
      show lm_G X (d + 5) 74 106 0 0 32 [some (.ref 38), some (.int (msk (stopW F s) (fN F))), some (.int (nI j)), none] [] (lm_T M3 v G) Q
      obtain ⟨h3, f3, t3⟩ := hI2
      have eb : (bitW (msk (stopW F s) (fN F))) j = (stopW F s) j := bitW_mskn (by omega) hj2
      refine lm_G_sg 4 (pc' := 40) (L' := [some (.ref 38), some (.int (msk (stopW F s) (fN F))), some (.int (nI j)), none]) (S' := [.int (M3 14 0), .int (nI j)]) (σ' := lm_T M3 v G) rfl trivial ?_
      rw [show M3 14 0 = nI (fN F) from h3.n]
      refine lm_G_br (b := (nI (fN F)) ≤ (nI j)) (t := 99) (S' := []) rfl (fun hc => absurd hc (nI_ge hj2 (by omega))) (fun hc => ?_)
      refine lm_G_sg 6 (pc' := 49) (L' := [some (.ref 38), some (.int (msk (stopW F s) (fN F))), some (.int (nI j)), none]) (S' := [.int 1, .int (((msk (stopW F s) (fN F)) >>> ((nI j) &&& 31)) &&& 1)]) (σ' := lm_T M3 v G) rfl trivial ?_
      refine lm_G_br (b := ¬ (((msk (stopW F s) (fN F)) >>> ((nI j) &&& 31)) &&& 1) = 1) (t := 56) (S' := []) rfl (fun h9 => ?_) (fun h9 => ?_)
      ·
        have ew : stopW F s j = false := by rw [← eb]; exact decide_eq_false h9
        refine lm_G_sg 6 (pc' := 64) (L' := [some (.ref 38), some (.int (msk (stopW F s) (fN F))), some (.int (nI j)), some (.int 0)]) (S' := [.int (M3 42 (nI j).toNatClampNeg)]) (σ' := lm_T M3 v G) rfl ⟨(vp_in_nI (by omega) (by omega)), trivial, trivial⟩ ?_
        rw [show (nI j).toNatClampNeg = j from nI_clamp (by omega)]
        rw [show M3 42 j = sHu (begA F (stopW F s) lf (allS F (stopW F s) s (fM F)) j) j from h3.hu j (by omega)]
        refine lm_G_sg 1 (pc' := 65) (L' := [some (.ref 38), some (.int (msk (stopW F s) (fN F))), some (.int (nI j)), some (.int 0)]) (S' := [.int (-1), .int (sHu (begA F (stopW F s) lf (allS F (stopW F s) s (fM F)) j) j)]) (σ' := lm_T M3 v G) rfl trivial ?_
        refine lm_G_br (b := ¬ (sHu (begA F (stopW F s) lf (allS F (stopW F s) s (fM F)) j) j) = (-1)) (t := 93) (S' := []) rfl (fun h4 => ?_) (fun h4 => ?_)
        ·
          refine lm_G_sg 1 (pc' := 96) (L' := [some (.ref 38), some (.int (msk (stopW F s) (fN F))), some (.int ((nI j) + 1)), some (.int 0)]) (S' := []) (σ' := lm_T M3 v G) rfl trivial ?_
          rw [nI_1]
          refine lm_G_sg 1 (pc' := 32) (L' := [some (.ref 38), some (.int (msk (stopW F s) (fN F))), some (.int (nI (j + 1))), some (.int 0)]) (S' := []) (σ' := lm_T M3 v G) rfl trivial ?_
          have e1 : begA F (stopW F s) lf (allS F (stopW F s) s (fM F)) (j + 1) = (begA F (stopW F s) lf (allS F (stopW F s) s (fM F)) j) := by
            simp only [begA]
            rw [decide_eq_false h4]
            rfl
          rw [e1] at ih2
          refine lm_G_jk (L := [some (.ref 38), some (.int (msk (stopW F s) (fN F))), some (.int (nI (j + 1))), none]) ⟨rfl, rfl, rfl, trivial⟩ ?_
          exact ih2 _ (⟨h3, f3, t3⟩)
        ·
          refine lm_G_sg 1 (pc' := 69) (L' := [some (.ref 38), some (.int (msk (stopW F s) (fN F))), some (.int (nI j)), some (.int 0)]) (S' := [.int 0]) (σ' := lm_T M3 v G) rfl trivial ?_
          refine lm_G_br (b := ¬ 0 = 0) (t := 93) (S' := []) rfl (fun h5 => absurd rfl h5) (fun h5 => ?_)
          refine lm_G_sg 3 (pc' := 77) (L' := [some (.ref 38), some (.int (msk (stopW F s) (fN F))), some (.int (nI j)), some (.int 0)]) (S' := [.int (M3 38 12), .int (nI j)]) (σ' := lm_T M3 v G) rfl trivial ?_
          rw [f3.2 12 (by decide) (by decide)]
          refine lm_G_br (b := (nI j) = (M 38 12)) (t := 93) (S' := []) rfl (fun h5 => ?_) (fun h5 => ?_)
          ·
            refine lm_G_sg 1 (pc' := 96) (L' := [some (.ref 38), some (.int (msk (stopW F s) (fN F))), some (.int ((nI j) + 1)), some (.int 0)]) (S' := []) (σ' := lm_T M3 v G) rfl trivial ?_
            rw [nI_1]
            refine lm_G_sg 1 (pc' := 32) (L' := [some (.ref 38), some (.int (msk (stopW F s) (fN F))), some (.int (nI (j + 1))), some (.int 0)]) (S' := []) (σ' := lm_T M3 v G) rfl trivial ?_
            have el : lf j = true := by rw [← hl j hj2]; exact decide_eq_true h5
            have e1 : begA F (stopW F s) lf (allS F (stopW F s) s (fM F)) (j + 1) = (begA F (stopW F s) lf (allS F (stopW F s) s (fM F)) j) := by
              simp only [begA]
              rw [el]
              simp
            rw [e1] at ih2
            refine lm_G_jk (L := [some (.ref 38), some (.int (msk (stopW F s) (fN F))), some (.int (nI (j + 1))), none]) ⟨rfl, rfl, rfl, trivial⟩ ?_
            exact ih2 _ (⟨h3, f3, t3⟩)
          ·
            have el : lf j = false := by rw [← hl j hj2]; exact decide_eq_false h5
            refine lm_G_sg 2 (pc' := 82) (L' := [some (.ref 38), some (.int (msk (stopW F s) (fN F))), some (.int (nI j)), some (.int 0)]) (S' := [.int (nI j), .ref 38]) (σ' := lm_T M3 v G) rfl trivial ?_
            refine lm_G_ca (j := 58) (as := [.ref 38, .int (nI j)]) (rest := []) rfl (Or.inl rfl) (Nat.le_of_ble_eq_true rfl) (Nat.le_of_ble_eq_true rfl) (Nat.le_of_ble_eq_true rfl) (Nat.le_of_ble_eq_true rfl) rfl ?_
            refine c_isRested38 hF h3 hj2 ?_
            show lm_G X (d + 5) 74 106 0 0 85 [some (.ref 38), some (.int (msk (stopW F s) (fN F))), some (.int (nI j)), some (.int 0)] [.int (b2i (decide (fRe F j ≤ sId (begA F (stopW F s) lf (allS F (stopW F s) s (fM F)) j) j)))] (lm_T M3 v G) Q
            refine lm_G_br (b := (b2i (decide (fRe F j ≤ sId (begA F (stopW F s) lf (allS F (stopW F s) s (fM F)) j) j))) = 0) (t := 93) (S' := []) rfl (fun h6 => ?_) (fun h6 => ?_)
            ·
              refine lm_G_sg 1 (pc' := 96) (L' := [some (.ref 38), some (.int (msk (stopW F s) (fN F))), some (.int ((nI j) + 1)), some (.int 0)]) (S' := []) (σ' := lm_T M3 v G) rfl trivial ?_
              rw [nI_1]
              refine lm_G_sg 1 (pc' := 32) (L' := [some (.ref 38), some (.int (msk (stopW F s) (fN F))), some (.int (nI (j + 1))), some (.int 0)]) (S' := []) (σ' := lm_T M3 v G) rfl trivial ?_
              have e1 : begA F (stopW F s) lf (allS F (stopW F s) s (fM F)) (j + 1) = (begA F (stopW F s) lf (allS F (stopW F s) s (fM F)) j) := by
                simp only [begA]
                rw [b2i_0 h6]
                simp
              rw [e1] at ih2
              refine lm_G_jk (L := [some (.ref 38), some (.int (msk (stopW F s) (fN F))), some (.int (nI (j + 1))), none]) ⟨rfl, rfl, rfl, trivial⟩ ?_
              exact ih2 _ (⟨h3, f3, t3⟩)
            ·
              refine lm_G_sg 2 (pc' := 90) (L' := [some (.ref 38), some (.int (msk (stopW F s) (fN F))), some (.int (nI j)), some (.int 0)]) (S' := [.int (nI j), .ref 38]) (σ' := lm_T M3 v G) rfl trivial ?_
              refine lm_G_ca (j := 77) (as := [.ref 38, .int (nI j)]) (rest := []) rfl (Or.inl rfl) (Nat.le_of_ble_eq_true rfl) (Nat.le_of_ble_eq_true rfl) (Nat.le_of_ble_eq_true rfl) (Nat.le_of_ble_eq_true rfl) rfl ?_
              refine c_boj38 hF h3 hj2 (Classical.not_not.mp h4) (fun M4 h7 f7 t7 => ?_)
              show lm_G X (d + 5) 74 106 0 0 93 [some (.ref 38), some (.int (msk (stopW F s) (fN F))), some (.int (nI j)), some (.int 0)] [] (lm_T M4 v G) Q
              refine lm_G_sg 1 (pc' := 96) (L' := [some (.ref 38), some (.int (msk (stopW F s) (fN F))), some (.int ((nI j) + 1)), some (.int 0)]) (S' := []) (σ' := lm_T M4 v G) rfl trivial ?_
              rw [nI_1]
              refine lm_G_sg 1 (pc' := 32) (L' := [some (.ref 38), some (.int (msk (stopW F s) (fN F))), some (.int (nI (j + 1))), some (.int 0)]) (S' := []) (σ' := lm_T M4 v G) rfl trivial ?_
              have e1 : begA F (stopW F s) lf (allS F (stopW F s) s (fM F)) (j + 1) = bojS F (begA F (stopW F s) lf (allS F (stopW F s) s (fM F)) j) j := by
                simp only [begA]
                rw [ew, el, decide_eq_true (Classical.not_not.mp h4), b2i_1 h6]
                rfl
              rw [e1] at ih2
              refine lm_G_jk (L := [some (.ref 38), some (.int (msk (stopW F s) (fN F))), some (.int (nI (j + 1))), none]) ⟨rfl, rfl, rfl, trivial⟩ ?_
              exact ih2 _ (⟨h7, FrC_tr f3 f7, t7.trans t3⟩)
      ·
        have ew : stopW F s j = true := by rw [← eb]; exact decide_eq_true (Classical.not_not.mp h9)
        refine lm_G_sg 7 (pc' := 64) (L' := [some (.ref 38), some (.int (msk (stopW F s) (fN F))), some (.int (nI j)), some (.int 1)]) (S' := [.int (M3 42 (nI j).toNatClampNeg)]) (σ' := lm_T M3 v G) rfl ⟨(vp_in_nI (by omega) (by omega)), trivial, trivial⟩ ?_
        rw [show (nI j).toNatClampNeg = j from nI_clamp (by omega)]
        rw [show M3 42 j = sHu (begA F (stopW F s) lf (allS F (stopW F s) s (fM F)) j) j from h3.hu j (by omega)]
        refine lm_G_sg 1 (pc' := 65) (L' := [some (.ref 38), some (.int (msk (stopW F s) (fN F))), some (.int (nI j)), some (.int 1)]) (S' := [.int (-1), .int (sHu (begA F (stopW F s) lf (allS F (stopW F s) s (fM F)) j) j)]) (σ' := lm_T M3 v G) rfl trivial ?_
        refine lm_G_br (b := ¬ (sHu (begA F (stopW F s) lf (allS F (stopW F s) s (fM F)) j) j) = (-1)) (t := 93) (S' := []) rfl (fun h4 => ?_) (fun h4 => ?_)
        ·
          refine lm_G_sg 1 (pc' := 96) (L' := [some (.ref 38), some (.int (msk (stopW F s) (fN F))), some (.int ((nI j) + 1)), some (.int 1)]) (S' := []) (σ' := lm_T M3 v G) rfl trivial ?_
          rw [nI_1]
          refine lm_G_sg 1 (pc' := 32) (L' := [some (.ref 38), some (.int (msk (stopW F s) (fN F))), some (.int (nI (j + 1))), some (.int 1)]) (S' := []) (σ' := lm_T M3 v G) rfl trivial ?_
          have e1 : begA F (stopW F s) lf (allS F (stopW F s) s (fM F)) (j + 1) = (begA F (stopW F s) lf (allS F (stopW F s) s (fM F)) j) := by
            simp only [begA]
            rw [decide_eq_false h4]
            rfl
          rw [e1] at ih2
          refine lm_G_jk (L := [some (.ref 38), some (.int (msk (stopW F s) (fN F))), some (.int (nI (j + 1))), none]) ⟨rfl, rfl, rfl, trivial⟩ ?_
          exact ih2 _ (⟨h3, f3, t3⟩)
        ·
          refine lm_G_sg 1 (pc' := 69) (L' := [some (.ref 38), some (.int (msk (stopW F s) (fN F))), some (.int (nI j)), some (.int 1)]) (S' := [.int 1]) (σ' := lm_T M3 v G) rfl trivial ?_
          refine lm_G_br (b := ¬ 1 = 0) (t := 93) (S' := []) rfl (fun h5 => ?_) (fun h5 => absurd (by decide) h5)
          refine lm_G_sg 1 (pc' := 96) (L' := [some (.ref 38), some (.int (msk (stopW F s) (fN F))), some (.int ((nI j) + 1)), some (.int 1)]) (S' := []) (σ' := lm_T M3 v G) rfl trivial ?_
          rw [nI_1]
          refine lm_G_sg 1 (pc' := 32) (L' := [some (.ref 38), some (.int (msk (stopW F s) (fN F))), some (.int (nI (j + 1))), some (.int 1)]) (S' := []) (σ' := lm_T M3 v G) rfl trivial ?_
          have e1 : begA F (stopW F s) lf (allS F (stopW F s) s (fM F)) (j + 1) = (begA F (stopW F s) lf (allS F (stopW F s) s (fM F)) j) := by
            simp only [begA]
            rw [ew]
            simp
          rw [e1] at ih2
          refine lm_G_jk (L := [some (.ref 38), some (.int (msk (stopW F s) (fN F))), some (.int (nI (j + 1))), none]) ⟨rfl, rfl, rfl, trivial⟩ ?_
          exact ih2 _ (⟨h3, f3, t3⟩)
    ·
      revert hI2
      revert zz
      intro M3 hI2
      replace hI2 : RC 38 M3 F (begA F (stopW F s) lf (allS F (stopW F s) s (fM F)) (fN F)) ∧ FrC 38 M M3 ∧ M3 38 13 = M 38 13 + hourD F s := hI2
      show lm_G X (d + 5) 74 106 0 0 32 [some (.ref 38), some (.int (msk (stopW F s) (fN F))), some (.int (nI (fN F))), none] [] (lm_T M3 v G) Q
      obtain ⟨h3, f3, t3⟩ := hI2
      refine lm_G_sg 4 (pc' := 40) (L' := [some (.ref 38), some (.int (msk (stopW F s) (fN F))), some (.int (nI (fN F))), none]) (S' := [.int (M3 14 0), .int (nI (fN F))]) (σ' := lm_T M3 v G) rfl trivial ?_
      rw [show M3 14 0 = nI (fN F) from h3.n]
      refine lm_G_br (b := (nI (fN F)) ≤ (nI (fN F))) (t := 99) (S' := []) rfl (fun hc => ?_) (fun hc => absurd (nI_le (Nat.le_refl _) (by omega)) hc)
      refine lm_G_sg 2 (pc' := 101) (L' := [some (.ref 38), some (.int (msk (stopW F s) (fN F))), some (.int 0), none]) (S' := []) (σ' := lm_T M3 v G) rfl trivial ?_
      refine lm_ind (α := (Nat → Fn)) (St := fun (j : Nat) zz => (fun (M4 : Nat → Fn) => lm_G X (d + 5) 74 106 0 0 101 [some (.ref 38), some (.int (msk (stopW F s) (fN F))), some (.int (nI j)), none] [] (lm_T M4 v G) Q) zz) (Inv := fun (j : Nat) zz => (fun (M4 : Nat → Fn) => RC 38 M4 F (tickS (begA F (stopW F s) lf (allS F (stopW F s) s (fM F)) (fN F)) j) ∧ FrC 38 M M4 ∧ M4 38 13 = M 38 13 + hourD F s) zz) (fN F) (fun j zz hj3 hI3 ih3 => ?_) (fun zz hI3 => ?_) (0) M3 (by omega) ?_
      ·
        revert ih3 hI3
        revert zz
        intro M4 hI3 ih3
        replace hI3 : RC 38 M4 F (tickS (begA F (stopW F s) lf (allS F (stopW F s) s (fM F)) (fN F)) j) ∧ FrC 38 M M4 ∧ M4 38 13 = M 38 13 + hourD F s := hI3
        replace ih3 : ∀ (M4 : Nat → Fn) (_ : RC 38 M4 F (tickS (begA F (stopW F s) lf (allS F (stopW F s) s (fM F)) (fN F)) (j + 1)) ∧ FrC 38 M M4 ∧ M4 38 13 = M 38 13 + hourD F s), lm_G X (d + 5) 74 106 0 0 101 [some (.ref 38), some (.int (msk (stopW F s) (fN F))), some (.int (nI (j + 1))), none] [] (lm_T M4 v G) Q := fun M4 q => ih3 M4 q
        show lm_G X (d + 5) 74 106 0 0 101 [some (.ref 38), some (.int (msk (stopW F s) (fN F))), some (.int (nI j)), none] [] (lm_T M4 v G) Q
        obtain ⟨h4, f4, t4⟩ := hI3
        refine lm_G_sg 4 (pc' := 109) (L' := [some (.ref 38), some (.int (msk (stopW F s) (fN F))), some (.int (nI j)), none]) (S' := [.int (M4 14 0), .int (nI j)]) (σ' := lm_T M4 v G) rfl trivial ?_
        rw [show M4 14 0 = nI (fN F) from h4.n]
        refine lm_G_br (b := (nI (fN F)) ≤ (nI j)) (t := 160) (S' := []) rfl (fun hc => absurd hc (nI_ge hj3 (by omega))) (fun hc => ?_)
        refine lm_G_sg 4 (pc' := 118) (L' := [some (.ref 38), some (.int (msk (stopW F s) (fN F))), some (.int (nI j)), none]) (S' := [.int (M4 42 (nI j).toNatClampNeg)]) (σ' := lm_T M4 v G) rfl ⟨(vp_in_nI (by omega) (by omega)), trivial, trivial⟩ ?_
        rw [show (nI j).toNatClampNeg = j from nI_clamp (by omega)]
        rw [show M4 42 j = sHu (tickS (begA F (stopW F s) lf (allS F (stopW F s) s (fM F)) (fN F)) j) j from h4.hu j (by omega)]
        refine lm_G_sg 1 (pc' := 119) (L' := [some (.ref 38), some (.int (msk (stopW F s) (fN F))), some (.int (nI j)), none]) (S' := [.int (-1), .int (sHu (tickS (begA F (stopW F s) lf (allS F (stopW F s) s (fM F)) (fN F)) j) j)]) (σ' := lm_T M4 v G) rfl trivial ?_
        refine lm_G_br (b := (sHu (tickS (begA F (stopW F s) lf (allS F (stopW F s) s (fM F)) (fN F)) j) j) = (-1)) (t := 135) (S' := []) rfl (fun h5 => ?_) (fun h5 => ?_)
        ·
          refine lm_G_sg 7 (pc' := 146) (L' := [some (.ref 38), some (.int (msk (stopW F s) (fN F))), some (.int (nI j)), none]) (S' := [.int (M4 44 (nI j).toNatClampNeg), .int (nI j), .ref 44]) (σ' := lm_T M4 v G) rfl ⟨(vp_in_nI (by omega) (by omega)), trivial, trivial⟩ ?_
          rw [show (nI j).toNatClampNeg = j from nI_clamp (by omega)]
          rw [show M4 44 j = sId (tickS (begA F (stopW F s) lf (allS F (stopW F s) s (fM F)) (fN F)) j) j from h4.id j (by omega)]
          refine lm_G_sg 5 (pc' := 154) (L' := [some (.ref 38), some (.int (msk (stopW F s) (fN F))), some (.int (nI j)), none]) (S' := []) (σ' := lm_T (lm_wr M4 44 ((nI j).toNatClampNeg) (if 99 < ((sId (tickS (begA F (stopW F s) lf (allS F (stopW F s) s (fM F)) (fN F)) j) j) + 1) then 99 else ((sId (tickS (begA F (stopW F s) lf (allS F (stopW F s) s (fM F)) (fN F)) j) j) + 1))) v G) rfl ⟨trivial, (Nat.le_of_ble_eq_true rfl), (vp_in_nI (by omega) (by omega)), trivial, trivial⟩ ?_
          rw [show (nI j).toNatClampNeg = j from nI_clamp (by omega)]
          refine lm_G_sg 1 (pc' := 157) (L' := [some (.ref 38), some (.int (msk (stopW F s) (fN F))), some (.int ((nI j) + 1)), none]) (S' := []) (σ' := lm_T (lm_wr M4 44 j (if 99 < ((sId (tickS (begA F (stopW F s) lf (allS F (stopW F s) s (fM F)) (fN F)) j) j) + 1) then 99 else ((sId (tickS (begA F (stopW F s) lf (allS F (stopW F s) s (fM F)) (fN F)) j) j) + 1))) v G) rfl trivial ?_
          rw [nI_1]
          refine lm_G_sg 1 (pc' := 101) (L' := [some (.ref 38), some (.int (msk (stopW F s) (fN F))), some (.int (nI (j + 1))), none]) (S' := []) (σ' := lm_T (lm_wr M4 44 j (if 99 < ((sId (tickS (begA F (stopW F s) lf (allS F (stopW F s) s (fM F)) (fN F)) j) j) + 1) then 99 else ((sId (tickS (begA F (stopW F s) lf (allS F (stopW F s) s (fM F)) (fN F)) j) j) + 1))) v G) rfl trivial ?_
          exact ih3 _ (⟨RC_tick238 h4 h5, FrC_wr f4 rfl (by decide), t4⟩)
        ·
          refine lm_G_sg 5 (pc' := 129) (L' := [some (.ref 38), some (.int (msk (stopW F s) (fN F))), some (.int (nI j)), none]) (S' := [.int (M4 43 (nI j).toNatClampNeg), .int (nI j), .ref 43]) (σ' := lm_T M4 v G) rfl ⟨(vp_in_nI (by omega) (by omega)), trivial, trivial⟩ ?_
          rw [show (nI j).toNatClampNeg = j from nI_clamp (by omega)]
          rw [show M4 43 j = sHd (tickS (begA F (stopW F s) lf (allS F (stopW F s) s (fM F)) (fN F)) j) j from h4.hd j (by omega)]
          refine lm_G_sg 3 (pc' := 132) (L' := [some (.ref 38), some (.int (msk (stopW F s) (fN F))), some (.int (nI j)), none]) (S' := []) (σ' := lm_T (lm_wr M4 43 ((nI j).toNatClampNeg) ((sHd (tickS (begA F (stopW F s) lf (allS F (stopW F s) s (fM F)) (fN F)) j) j) + 1)) v G) rfl ⟨(vp_in_nI (by omega) (by omega)), trivial, trivial⟩ ?_
          rw [show (nI j).toNatClampNeg = j from nI_clamp (by omega)]
          refine lm_G_sg 2 (pc' := 157) (L' := [some (.ref 38), some (.int (msk (stopW F s) (fN F))), some (.int ((nI j) + 1)), none]) (S' := []) (σ' := lm_T (lm_wr M4 43 j ((sHd (tickS (begA F (stopW F s) lf (allS F (stopW F s) s (fM F)) (fN F)) j) j) + 1)) v G) rfl trivial ?_
          rw [nI_1]
          refine lm_G_sg 1 (pc' := 101) (L' := [some (.ref 38), some (.int (msk (stopW F s) (fN F))), some (.int (nI (j + 1))), none]) (S' := []) (σ' := lm_T (lm_wr M4 43 j ((sHd (tickS (begA F (stopW F s) lf (allS F (stopW F s) s (fM F)) (fN F)) j) j) + 1)) v G) rfl trivial ?_
          exact ih3 _ (⟨RC_tick138 h4 h5, FrC_wr f4 rfl (by decide), t4⟩)
      ·
        revert hI3
        revert zz
        intro M4 hI3
        replace hI3 : RC 38 M4 F (tickS (begA F (stopW F s) lf (allS F (stopW F s) s (fM F)) (fN F)) (fN F)) ∧ FrC 38 M M4 ∧ M4 38 13 = M 38 13 + hourD F s := hI3
        show lm_G X (d + 5) 74 106 0 0 101 [some (.ref 38), some (.int (msk (stopW F s) (fN F))), some (.int (nI (fN F))), none] [] (lm_T M4 v G) Q
        obtain ⟨h4, f4, t4⟩ := hI3
        refine lm_G_sg 4 (pc' := 109) (L' := [some (.ref 38), some (.int (msk (stopW F s) (fN F))), some (.int (nI (fN F))), none]) (S' := [.int (M4 14 0), .int (nI (fN F))]) (σ' := lm_T M4 v G) rfl trivial ?_
        rw [show M4 14 0 = nI (fN F) from h4.n]
        refine lm_G_br (b := (nI (fN F)) ≤ (nI (fN F))) (t := 160) (S' := []) rfl (fun hc => ?_) (fun hc => absurd (nI_le (Nat.le_refl _) (by omega)) hc)
        refine lm_G_sg 3 (pc' := 165) (L' := [some (.ref 38), some (.int (msk (stopW F s) (fN F))), some (.int (nI (fN F))), none]) (S' := [.int (M4 38 2), .ref 38]) (σ' := lm_T M4 v G) rfl trivial ?_
        rw [show M4 38 2 = sHr (tickS (begA F (stopW F s) lf (allS F (stopW F s) s (fM F)) (fN F)) (fN F)) from h4.hr]
        refine lm_G_sg 3 (pc' := 170) (L' := [some (.ref 38), some (.int (msk (stopW F s) (fN F))), some (.int (nI (fN F))), none]) (S' := []) (σ' := lm_T (lm_wr M4 38 2 ((sHr (tickS (begA F (stopW F s) lf (allS F (stopW F s) s (fM F)) (fN F)) (fN F))) + 1)) v G) rfl ⟨trivial, trivial, trivial⟩ ?_
        exact lm_G_re rfl trivial (Nat.zero_le _) (Nat.zero_le _) (hQ _ (RC_hour38 h4) (FrC_wb f4 rfl (Or.inl rfl)) (by rw [wr_at (by decide)]; exact t4))
      ·
        try dsimp only
        exact ⟨h3, f3, t3⟩
    ·
      try dsimp only
      exact ⟨h2, g2, t2⟩
  ·
    try dsimp only
    exact ⟨h1, FrC_rf _ _, by simp [allD]⟩
set_option maxRecDepth 10000 in
theorem c_passHours38 {X : lm_X} {d v : Nat} {M : Nat → Nat → Int32} {G : Nat → Nat → Int64} {Q : lm_O → lm_S → Prop} {F : Fa} {s : Sc} {lf : Nat → Bool} {n : Nat} (hF : okF F) (h : RC 38 M F s) (hs : okS F s) (hl : ∀ p, p < fN F → decide (nI p = M 38 12) = lf p) (hn2 : n < 2 ^ 31) (hQ : ∀ M1, RC 38 M1 F (hrsS F lf s n) → FrC 38 M M1 → M1 38 13 = M 38 13 + (hrsD F lf s n) → Q (.inl none) (lm_T M1 v G)) : lm_Q X (d + 6) 73 [.ref 38, .int (nI n)] (lm_T M v G) Q := by
  have hn := hF.n
  have hm := hF.m
  show lm_G X (d + 6) 73 106 0 0 0 [some (.ref 38), some (.int (nI n)), none] [] (lm_T M v G) Q
  refine lm_G_sg 2 (pc' := 2) (L' := [some (.ref 38), some (.int (nI n)), some (.int 0)]) (S' := []) (σ' := lm_T M v G) rfl trivial ?_
  refine lm_ind (α := (Nat → Fn)) (St := fun (j : Nat) zz => (fun (M1 : Nat → Fn) => lm_G X (d + 6) 73 106 0 0 2 [some (.ref 38), some (.int (nI n)), some (.int (nI j))] [] (lm_T M1 v G) Q) zz) (Inv := fun (j : Nat) zz => (fun (M1 : Nat → Fn) => RC 38 M1 F (hrsS F lf s j) ∧ FrC 38 M M1 ∧ M1 38 13 = M 38 13 + hrsD F lf s j) zz) (n) (fun j zz hj hI ih => ?_) (fun zz hI => ?_) (0) M (by omega) ?_
  ·
    revert ih hI
    revert zz
    intro M1 hI ih
    replace hI : RC 38 M1 F (hrsS F lf s j) ∧ FrC 38 M M1 ∧ M1 38 13 = M 38 13 + hrsD F lf s j := hI
    replace ih : ∀ (M1 : Nat → Fn) (_ : RC 38 M1 F (hrsS F lf s (j + 1)) ∧ FrC 38 M M1 ∧ M1 38 13 = M 38 13 + hrsD F lf s (j + 1)), lm_G X (d + 6) 73 106 0 0 2 [some (.ref 38), some (.int (nI n)), some (.int (nI (j + 1)))] [] (lm_T M1 v G) Q := fun M1 q => ih M1 q
    show lm_G X (d + 6) 73 106 0 0 2 [some (.ref 38), some (.int (nI n)), some (.int (nI j))] [] (lm_T M1 v G) Q
    obtain ⟨h1, f1, t1⟩ := hI
    refine lm_G_sg 2 (pc' := 4) (L' := [some (.ref 38), some (.int (nI n)), some (.int (nI j))]) (S' := [.int (nI n), .int (nI j)]) (σ' := lm_T M1 v G) rfl trivial ?_
    refine lm_G_br (b := (nI n) ≤ (nI j)) (t := 17) (S' := []) rfl (fun hc => absurd hc (nI_ge hj (by omega))) (fun hc => ?_)
    refine lm_G_sg 1 (pc' := 8) (L' := [some (.ref 38), some (.int (nI n)), some (.int (nI j))]) (S' := [.ref 38]) (σ' := lm_T M1 v G) rfl trivial ?_
    refine lm_G_ca (j := 74) (as := [.ref 38]) (rest := []) rfl (Or.inl rfl) (Nat.le_of_ble_eq_true rfl) (Nat.le_of_ble_eq_true rfl) (Nat.le_of_ble_eq_true rfl) (Nat.le_of_ble_eq_true rfl) rfl ?_
    refine c_passHour38 hF h1 (ok_hrs hs _) (lf := lf) (by intro q hq; rw [f1.2 12 (by decide) (by decide)]; exact hl q hq) (fun M2 h2 f2 t2 => ?_)
    show lm_G X (d + 6) 73 106 0 0 11 [some (.ref 38), some (.int (nI n)), some (.int (nI j))] [] (lm_T M2 v G) Q
    refine lm_G_sg 1 (pc' := 14) (L' := [some (.ref 38), some (.int (nI n)), some (.int ((nI j) + 1))]) (S' := []) (σ' := lm_T M2 v G) rfl trivial ?_
    rw [nI_1]
    refine lm_G_sg 1 (pc' := 2) (L' := [some (.ref 38), some (.int (nI n)), some (.int (nI (j + 1)))]) (S' := []) (σ' := lm_T M2 v G) rfl trivial ?_
    exact ih _ (⟨h2, FrC_tr f1 f2, by rw [t2, t1, Int32.add_assoc]; rfl⟩)
  ·
    revert hI
    revert zz
    intro M1 hI
    replace hI : RC 38 M1 F (hrsS F lf s n) ∧ FrC 38 M M1 ∧ M1 38 13 = M 38 13 + hrsD F lf s n := hI
    show lm_G X (d + 6) 73 106 0 0 2 [some (.ref 38), some (.int (nI n)), some (.int (nI n))] [] (lm_T M1 v G) Q
    obtain ⟨h1, f1, t1⟩ := hI
    refine lm_G_sg 2 (pc' := 4) (L' := [some (.ref 38), some (.int (nI n)), some (.int (nI n))]) (S' := [.int (nI n), .int (nI n)]) (σ' := lm_T M1 v G) rfl trivial ?_
    refine lm_G_br (b := (nI n) ≤ (nI n)) (t := 17) (S' := []) rfl (fun hc => ?_) (fun hc => absurd (nI_le (Nat.le_refl _) (by omega)) hc)
    exact lm_G_re rfl trivial (Nat.zero_le _) (Nat.zero_le _) (hQ _ h1 f1 t1)
  ·
    try dsimp only
    exact ⟨h, FrC_rf _ _, by simp [hrsD]⟩
set_option maxRecDepth 10000 in
theorem c_behind38 {X : lm_X} {d v : Nat} {M : Nat → Nat → Int32} {G : Nat → Nat → Int64} {Q : lm_O → lm_S → Prop} {F : Fa} {s : Sc} {lf : Nat → Bool} {n : Nat} {x : Int32} (hF : okF F) (h : RC 38 M F s) (hs : okS F s) (hl : ∀ p, p < fN F → decide (nI p = M 38 12) = lf p) (hn2 : n < 2 ^ 31) (hQ : ∀ M1, RC 38 M1 F (hrsS F lf s n) → FrC 38 M M1 → Q (.inl (some (.int (cnt (ownS F (sOw (hrsS F lf s n)) x))))) (lm_T M1 v G)) : lm_Q X (d + 6) 62 [.ref 38, .int x, .int (nI n)] (lm_T M v G) Q := by
  have hn := hF.n
  have hm := hF.m
  show lm_G X (d + 6) 62 106 0 0 0 [some (.ref 38), some (.int x), some (.int (nI n)), none] [] (lm_T M v G) Q
  refine lm_G_sg 2 (pc' := 2) (L' := [some (.ref 38), some (.int x), some (.int (nI n)), some (.int 0)]) (S' := []) (σ' := lm_T M v G) rfl trivial ?_
  refine lm_ind (α := (Nat → Fn)) (St := fun (j : Nat) zz => (fun (M1 : Nat → Fn) => lm_G X (d + 6) 62 106 0 0 2 [some (.ref 38), some (.int x), some (.int (nI n)), some (.int (nI j))] [] (lm_T M1 v G) Q) zz) (Inv := fun (j : Nat) zz => (fun (M1 : Nat → Fn) => RC 38 M1 F (hrsS F lf s j) ∧ FrC 38 M M1 ∧ M1 38 13 = M 38 13 + hrsD F lf s j) zz) (n) (fun j zz hj hI ih => ?_) (fun zz hI => ?_) (0) M (by omega) ?_
  ·
    revert ih hI
    revert zz
    intro M1 hI ih
    replace hI : RC 38 M1 F (hrsS F lf s j) ∧ FrC 38 M M1 ∧ M1 38 13 = M 38 13 + hrsD F lf s j := hI
    replace ih : ∀ (M1 : Nat → Fn) (_ : RC 38 M1 F (hrsS F lf s (j + 1)) ∧ FrC 38 M M1 ∧ M1 38 13 = M 38 13 + hrsD F lf s (j + 1)), lm_G X (d + 6) 62 106 0 0 2 [some (.ref 38), some (.int x), some (.int (nI n)), some (.int (nI (j + 1)))] [] (lm_T M1 v G) Q := fun M1 q => ih M1 q
    show lm_G X (d + 6) 62 106 0 0 2 [some (.ref 38), some (.int x), some (.int (nI n)), some (.int (nI j))] [] (lm_T M1 v G) Q
    obtain ⟨h1, f1, t1⟩ := hI
    refine lm_G_sg 2 (pc' := 4) (L' := [some (.ref 38), some (.int x), some (.int (nI n)), some (.int (nI j))]) (S' := [.int (nI n), .int (nI j)]) (σ' := lm_T M1 v G) rfl trivial ?_
    refine lm_G_br (b := (nI n) ≤ (nI j)) (t := 17) (S' := []) rfl (fun hc => absurd hc (nI_ge hj (by omega))) (fun hc => ?_)
    refine lm_G_sg 1 (pc' := 8) (L' := [some (.ref 38), some (.int x), some (.int (nI n)), some (.int (nI j))]) (S' := [.ref 38]) (σ' := lm_T M1 v G) rfl trivial ?_
    refine lm_G_ca (j := 74) (as := [.ref 38]) (rest := []) rfl (Or.inl rfl) (Nat.le_of_ble_eq_true rfl) (Nat.le_of_ble_eq_true rfl) (Nat.le_of_ble_eq_true rfl) (Nat.le_of_ble_eq_true rfl) rfl ?_
    refine c_passHour38 hF h1 (ok_hrs hs _) (lf := lf) (by intro q hq; rw [f1.2 12 (by decide) (by decide)]; exact hl q hq) (fun M2 h2 f2 t2 => ?_)
    show lm_G X (d + 6) 62 106 0 0 11 [some (.ref 38), some (.int x), some (.int (nI n)), some (.int (nI j))] [] (lm_T M2 v G) Q
    refine lm_G_sg 1 (pc' := 14) (L' := [some (.ref 38), some (.int x), some (.int (nI n)), some (.int ((nI j) + 1))]) (S' := []) (σ' := lm_T M2 v G) rfl trivial ?_
    rw [nI_1]
    refine lm_G_sg 1 (pc' := 2) (L' := [some (.ref 38), some (.int x), some (.int (nI n)), some (.int (nI (j + 1)))]) (S' := []) (σ' := lm_T M2 v G) rfl trivial ?_
    exact ih _ (⟨h2, FrC_tr f1 f2, by rw [t2, t1, Int32.add_assoc]; rfl⟩)
  ·
    revert hI
    revert zz
    intro M1 hI
    replace hI : RC 38 M1 F (hrsS F lf s n) ∧ FrC 38 M M1 ∧ M1 38 13 = M 38 13 + hrsD F lf s n := hI
    show lm_G X (d + 6) 62 106 0 0 2 [some (.ref 38), some (.int x), some (.int (nI n)), some (.int (nI n))] [] (lm_T M1 v G) Q
    obtain ⟨h1, f1, t1⟩ := hI
    refine lm_G_sg 2 (pc' := 4) (L' := [some (.ref 38), some (.int x), some (.int (nI n)), some (.int (nI n))]) (S' := [.int (nI n), .int (nI n)]) (σ' := lm_T M1 v G) rfl trivial ?_
    refine lm_G_br (b := (nI n) ≤ (nI n)) (t := 17) (S' := []) rfl (fun hc => ?_) (fun hc => absurd (nI_le (Nat.le_refl _) (by omega)) hc)
    refine lm_G_sg 2 (pc' := 19) (L' := [some (.ref 38), some (.int x), some (.int (nI n)), some (.int (nI n))]) (S' := [.int x, .ref 38]) (σ' := lm_T M1 v G) rfl trivial ?_
    refine lm_G_ca (j := 61) (as := [.ref 38, .int x]) (rest := []) rfl (Or.inl rfl) (Nat.le_of_ble_eq_true rfl) (Nat.le_of_ble_eq_true rfl) (Nat.le_of_ble_eq_true rfl) (Nat.le_of_ble_eq_true rfl) rfl ?_
    refine c_howMany38 hF h1 ?_
    show lm_G X (d + 6) 62 106 0 0 22 [some (.ref 38), some (.int x), some (.int (nI n)), some (.int (nI n))] [.int (cnt (ownS F (sOw (hrsS F lf s n)) x))] (lm_T M1 v G) Q
    exact lm_G_re rfl trivial (Nat.zero_le _) (Nat.zero_le _) (hQ _ h1 f1)
  ·
    try dsimp only
    exact ⟨h, FrC_rf _ _, by simp [hrsD]⟩
set_option maxRecDepth 10000 in
theorem c_findHummers38 {X : lm_X} {d v : Nat} {M : Nat → Nat → Int32} {G : Nat → Nat → Int64} {Q : lm_O → lm_S → Prop} {F : Fa} {s : Sc} (hF : okF F) (h : PC 38 M F s) (hQ : ∀ M1, Ag (fM F) (M1 46) (fun t => humS F (sHu s) (nI t)) → Fr (frO 46) M M1 → Q (.inl none) (lm_T M1 v G)) : lm_Q X d 56 [.ref 38] (lm_T M v G) Q := by
  have hn := hF.n
  have hm := hF.m
  show lm_G X d 56 106 0 0 0 [some (.ref 38), none, none] [] (lm_T M v G) Q
  refine lm_G_sg 2 (pc' := 2) (L' := [some (.ref 38), some (.int 0), none]) (S' := []) (σ' := lm_T M v G) rfl trivial ?_
  refine lm_ind (α := (Nat → Fn)) (St := fun (j : Nat) zz => (fun (M1 : Nat → Fn) => lm_G X d 56 106 0 0 2 [some (.ref 38), some (.int (nI j)), none] [] (lm_T M1 v G) Q) zz) (Inv := fun (j : Nat) zz => (fun (M1 : Nat → Fn) => Ag j (M1 46) (fun t => humS F (sHu s) (nI t)) ∧ Fr (frO 46) M M1) zz) (6) (fun j zz hj hI ih => ?_) (fun zz hI => ?_) (0) M (by omega) ?_
  ·
    revert ih hI
    revert zz
    intro M1 hI ih
    replace hI : Ag j (M1 46) (fun t => humS F (sHu s) (nI t)) ∧ Fr (frO 46) M M1 := hI
    replace ih : ∀ (M1 : Nat → Fn) (_ : Ag (j + 1) (M1 46) (fun t => humS F (sHu s) (nI t)) ∧ Fr (frO 46) M M1), lm_G X d 56 106 0 0 2 [some (.ref 38), some (.int (nI (j + 1))), none] [] (lm_T M1 v G) Q := fun M1 q => ih M1 q
    show lm_G X d 56 106 0 0 2 [some (.ref 38), some (.int (nI j)), none] [] (lm_T M1 v G) Q
    obtain ⟨i1, i2⟩ := hI
    refine lm_G_sg 2 (pc' := 5) (L' := [some (.ref 38), some (.int (nI j)), none]) (S' := [.int 6, .int (nI j)]) (σ' := lm_T M1 v G) rfl trivial ?_
    refine lm_G_br (b := 6 ≤ (nI j)) (t := 62) (S' := []) rfl (fun hc => absurd hc (nI_ge (b := 6) hj (by omega))) (fun hc => ?_)
    refine lm_G_sg 5 (pc' := 15) (L' := [some (.ref 38), some (.int (nI j)), none]) (S' := []) (σ' := lm_T (lm_wr M1 46 ((nI j).toNatClampNeg) 0) v G) rfl ⟨(vp_in_nI (by omega) (by omega)), trivial, trivial⟩ ?_
    rw [show (nI j).toNatClampNeg = j from nI_clamp (by omega)]
    refine lm_G_sg 2 (pc' := 17) (L' := [some (.ref 38), some (.int (nI j)), some (.int 0)]) (S' := []) (σ' := lm_T (lm_wr M1 46 j 0) v G) rfl trivial ?_
    refine lm_ind (α := (Nat → Fn)) (St := fun (q : Nat) zz => (fun (M2 : Nat → Fn) => lm_G X d 56 106 0 0 17 [some (.ref 38), some (.int (nI j)), some (.int (nI q))] [] (lm_T M2 v G) Q) zz) (Inv := fun (q : Nat) zz => (fun (M2 : Nat → Fn) => Ag j (M2 46) (fun t => humS F (sHu s) (nI t)) ∧ Fr (frO 46) M M2 ∧ M2 46 j = msk (fun p => decide (sHu s p = nI j)) q) zz) (fN F) (fun q zz hj2 hI2 ih2 => ?_) (fun zz hI2 => ?_) (0) (lm_wr M1 46 j 0) (by omega) ?_
    ·
      revert ih2 hI2
      revert zz
      intro M2 hI2 ih2
      replace hI2 : Ag j (M2 46) (fun t => humS F (sHu s) (nI t)) ∧ Fr (frO 46) M M2 ∧ M2 46 j = msk (fun p => decide (sHu s p = nI j)) q := hI2
      replace ih2 : ∀ (M2 : Nat → Fn) (_ : Ag j (M2 46) (fun t => humS F (sHu s) (nI t)) ∧ Fr (frO 46) M M2 ∧ M2 46 j = msk (fun p => decide (sHu s p = nI j)) (q + 1)), lm_G X d 56 106 0 0 17 [some (.ref 38), some (.int (nI j)), some (.int (nI (q + 1)))] [] (lm_T M2 v G) Q := fun M2 q => ih2 M2 q
      show lm_G X d 56 106 0 0 17 [some (.ref 38), some (.int (nI j)), some (.int (nI q))] [] (lm_T M2 v G) Q
      obtain ⟨k1, k2, k3⟩ := hI2
      refine lm_G_sg 4 (pc' := 25) (L' := [some (.ref 38), some (.int (nI j)), some (.int (nI q))]) (S' := [.int (M2 14 0), .int (nI q)]) (σ' := lm_T M2 v G) rfl trivial ?_
      rw [show M2 14 0 = nI (fN F) from (congrFun (k2 14 rfl) 0).trans h.n]
      refine lm_G_br (b := (nI (fN F)) ≤ (nI q)) (t := 56) (S' := []) rfl (fun hc => absurd hc (nI_ge hj2 (by omega))) (fun hc => ?_)
      refine lm_G_sg 4 (pc' := 34) (L' := [some (.ref 38), some (.int (nI j)), some (.int (nI q))]) (S' := [.int (M2 42 (nI q).toNatClampNeg)]) (σ' := lm_T M2 v G) rfl ⟨(vp_in_nI (by omega) (by omega)), trivial, trivial⟩ ?_
      rw [show (nI q).toNatClampNeg = q from nI_clamp (by omega)]
      rw [show M2 42 q = sHu s q from (congrFun (k2 42 rfl) q).trans (h.hu q (by omega))]
      refine lm_G_sg 1 (pc' := 35) (L' := [some (.ref 38), some (.int (nI j)), some (.int (nI q))]) (S' := [.int (nI j), .int (sHu s q)]) (σ' := lm_T M2 v G) rfl trivial ?_
      refine lm_G_br (b := ¬ (sHu s q) = (nI j)) (t := 50) (S' := []) rfl (fun h4 => ?_) (fun h4 => ?_)
      ·
        refine lm_G_sg 1 (pc' := 53) (L' := [some (.ref 38), some (.int (nI j)), some (.int ((nI q) + 1))]) (S' := []) (σ' := lm_T M2 v G) rfl trivial ?_
        rw [nI_1]
        refine lm_G_sg 1 (pc' := 17) (L' := [some (.ref 38), some (.int (nI j)), some (.int (nI (q + 1)))]) (S' := []) (σ' := lm_T M2 v G) rfl trivial ?_
        exact ih2 _ (⟨k1, k2, by rw [k3, msk_f (f := (fun p => decide (sHu s p = nI j))) (decide_eq_false h4)]⟩)
      ·
        refine lm_G_sg 5 (pc' := 45) (L' := [some (.ref 38), some (.int (nI j)), some (.int (nI q))]) (S' := [.int (M2 46 (nI j).toNatClampNeg), .int (nI j), .ref 46]) (σ' := lm_T M2 v G) rfl ⟨(vp_in_nI (by omega) (by omega)), trivial, trivial⟩ ?_
        rw [show (nI j).toNatClampNeg = j from nI_clamp (by omega)]
        rw [show M2 46 j = msk (fun p => decide (sHu s p = nI j)) q from k3]
        refine lm_G_sg 5 (pc' := 50) (L' := [some (.ref 38), some (.int (nI j)), some (.int (nI q))]) (S' := []) (σ' := lm_T (lm_wr M2 46 ((nI j).toNatClampNeg) ((msk (fun p => decide (sHu s p = nI j)) q) ||| (1 <<< ((nI q) &&& 31)))) v G) rfl ⟨(vp_in_nI (by omega) (by omega)), trivial, trivial⟩ ?_
        rw [show (nI j).toNatClampNeg = j from nI_clamp (by omega)]
        refine lm_G_sg 1 (pc' := 53) (L' := [some (.ref 38), some (.int (nI j)), some (.int ((nI q) + 1))]) (S' := []) (σ' := lm_T (lm_wr M2 46 j ((msk (fun p => decide (sHu s p = nI j)) q) ||| (1 <<< ((nI q) &&& 31)))) v G) rfl trivial ?_
        rw [nI_1]
        refine lm_G_sg 1 (pc' := 17) (L' := [some (.ref 38), some (.int (nI j)), some (.int (nI (q + 1)))]) (S' := []) (σ' := lm_T (lm_wr M2 46 j ((msk (fun p => decide (sHu s p = nI j)) q) ||| (1 <<< ((nI q) &&& 31)))) v G) rfl trivial ?_
        exact ih2 _ (⟨fun u hu => by rw [wr_at (by omega)]; exact k1 u hu, Fr_wr k2 rfl, by rw [wr_same, msk_t (f := (fun p => decide (sHu s p = nI j))) (decide_eq_true (Classical.not_not.mp h4))]⟩)
    ·
      revert hI2
      revert zz
      intro M2 hI2
      replace hI2 : Ag j (M2 46) (fun t => humS F (sHu s) (nI t)) ∧ Fr (frO 46) M M2 ∧ M2 46 j = msk (fun p => decide (sHu s p = nI j)) (fN F) := hI2
      show lm_G X d 56 106 0 0 17 [some (.ref 38), some (.int (nI j)), some (.int (nI (fN F)))] [] (lm_T M2 v G) Q
      obtain ⟨k1, k2, k3⟩ := hI2
      refine lm_G_sg 4 (pc' := 25) (L' := [some (.ref 38), some (.int (nI j)), some (.int (nI (fN F)))]) (S' := [.int (M2 14 0), .int (nI (fN F))]) (σ' := lm_T M2 v G) rfl trivial ?_
      rw [show M2 14 0 = nI (fN F) from (congrFun (k2 14 rfl) 0).trans h.n]
      refine lm_G_br (b := (nI (fN F)) ≤ (nI (fN F))) (t := 56) (S' := []) rfl (fun hc => ?_) (fun hc => absurd (nI_le (Nat.le_refl _) (by omega)) hc)
      refine lm_G_sg 1 (pc' := 59) (L' := [some (.ref 38), some (.int ((nI j) + 1)), some (.int (nI (fN F)))]) (S' := []) (σ' := lm_T M2 v G) rfl trivial ?_
      rw [nI_1]
      refine lm_G_sg 1 (pc' := 2) (L' := [some (.ref 38), some (.int (nI (j + 1))), some (.int (nI (fN F)))]) (S' := []) (σ' := lm_T M2 v G) rfl trivial ?_
      refine lm_G_jk (L := [some (.ref 38), some (.int (nI (j + 1))), none]) ⟨rfl, rfl, trivial⟩ ?_
      exact ih _ (⟨fun u hu => if w : u = j then (by subst w; exact k3) else k1 u (by omega), k2⟩)
    ·
      try dsimp only
      exact ⟨fun u hu => by rw [wr_at (by omega)]; exact i1 u hu, Fr_wr i2 rfl, wr_same⟩
  ·
    revert hI
    revert zz
    intro M1 hI
    replace hI : Ag 6 (M1 46) (fun t => humS F (sHu s) (nI t)) ∧ Fr (frO 46) M M1 := hI
    show lm_G X d 56 106 0 0 2 [some (.ref 38), some (.int (nI 6)), none] [] (lm_T M1 v G) Q
    obtain ⟨i1, i2⟩ := hI
    refine lm_G_sg 2 (pc' := 5) (L' := [some (.ref 38), some (.int (nI 6)), none]) (S' := [.int 6, .int (nI 6)]) (σ' := lm_T M1 v G) rfl trivial ?_
    refine lm_G_br (b := 6 ≤ (nI 6)) (t := 62) (S' := []) rfl (fun hc => ?_) (fun hc => absurd (nI_le (a := 6) (Nat.le_refl _) (by omega)) hc)
    exact lm_G_re rfl trivial (Nat.zero_le _) (Nat.zero_le _) (hQ _ (Ag_mn i1 (by omega)) i2)
  ·
    try dsimp only
    exact ⟨fun u hu => by omega, Fr_rf _ _⟩
set_option maxRecDepth 10000 in
theorem c_findHeard38 {X : lm_X} {d v : Nat} {M : Nat → Nat → Int32} {G : Nat → Nat → Int64} {Q : lm_O → lm_S → Prop} {F : Fa} {s : Sc} (hF : okF F) (h : PC 38 M F s) (hQ : ∀ M1, Ag (fN F) (M1 47) (heardS F (sPl s)) → Fr (frO 47) M M1 → Q (.inl none) (lm_T M1 v G)) : lm_Q X d 57 [.ref 38] (lm_T M v G) Q := by
  have hn := hF.n
  have hm := hF.m
  show lm_G X d 57 106 0 0 0 [some (.ref 38), none, none, none] [] (lm_T M v G) Q
  refine lm_G_sg 2 (pc' := 2) (L' := [some (.ref 38), some (.int 0), none, none]) (S' := []) (σ' := lm_T M v G) rfl trivial ?_
  refine lm_ind (α := (Nat → Fn)) (St := fun (j : Nat) zz => (fun (M1 : Nat → Fn) => lm_G X d 57 106 0 0 2 [some (.ref 38), some (.int (nI j)), none, none] [] (lm_T M1 v G) Q) zz) (Inv := fun (j : Nat) zz => (fun (M1 : Nat → Fn) => Ag j (M1 47) (heardS F (sPl s)) ∧ Fr (frO 47) M M1) zz) (fN F) (fun j zz hj hI ih => ?_) (fun zz hI => ?_) (0) M (by omega) ?_
  ·
    revert ih hI
    revert zz
    intro M1 hI ih
    replace hI : Ag j (M1 47) (heardS F (sPl s)) ∧ Fr (frO 47) M M1 := hI
    replace ih : ∀ (M1 : Nat → Fn) (_ : Ag (j + 1) (M1 47) (heardS F (sPl s)) ∧ Fr (frO 47) M M1), lm_G X d 57 106 0 0 2 [some (.ref 38), some (.int (nI (j + 1))), none, none] [] (lm_T M1 v G) Q := fun M1 q => ih M1 q
    show lm_G X d 57 106 0 0 2 [some (.ref 38), some (.int (nI j)), none, none] [] (lm_T M1 v G) Q
    obtain ⟨i1, i2⟩ := hI
    refine lm_G_sg 4 (pc' := 10) (L' := [some (.ref 38), some (.int (nI j)), none, none]) (S' := [.int (M1 14 0), .int (nI j)]) (σ' := lm_T M1 v G) rfl trivial ?_
    rw [show M1 14 0 = nI (fN F) from (congrFun (i2 14 rfl) 0).trans h.n]
    refine lm_G_br (b := (nI (fN F)) ≤ (nI j)) (t := 114) (S' := []) rfl (fun hc => absurd hc (nI_ge hj (by omega))) (fun hc => ?_)
    refine lm_G_sg 5 (pc' := 22) (L' := [some (.ref 38), some (.int (nI j)), none, none]) (S' := [.int (M1 19 (nI j).toNatClampNeg)]) (σ' := lm_T M1 v G) rfl ⟨(vp_in_nI (by omega) (by omega)), trivial, trivial⟩ ?_
    rw [show (nI j).toNatClampNeg = j from nI_clamp (by omega)]
    rw [show M1 19 j = fWh F j from (congrFun (i2 19 rfl) j).trans (h.wh j (by omega))]
    refine lm_G_br (b := (fWh F j) = 0) (t := 37) (S' := []) rfl (fun h3 => ?_) (fun h3 => ?_)
    ·
      refine lm_G_sg 3 (pc' := 44) (L' := [some (.ref 38), some (.int (nI j)), none, none]) (S' := [.int (M1 14 9)]) (σ' := lm_T M1 v G) rfl trivial ?_
      rw [show M1 14 9 = fE F from (congrFun (i2 14 rfl) 9).trans h.e]
      refine lm_G_sg 6 (pc' := 52) (L' := [some (.ref 38), some (.int (nI j)), some (.int (fE F)), none]) (S' := []) (σ' := lm_T (lm_wr M1 47 ((nI j).toNatClampNeg) 0) v G) rfl ⟨(vp_in_nI (by omega) (by omega)), trivial, trivial⟩ ?_
      rw [show (nI j).toNatClampNeg = j from nI_clamp (by omega)]
      refine lm_G_sg 2 (pc' := 54) (L' := [some (.ref 38), some (.int (nI j)), some (.int (fE F)), some (.int 0)]) (S' := []) (σ' := lm_T (lm_wr M1 47 j 0) v G) rfl trivial ?_
      have er : fE F = (if fWh F j = 1 then 2 * fE F else fE F) := by rw [if_neg (by rw [h3]; decide)]
      rw [er]
      refine lm_ind (α := (Nat → Fn)) (St := fun (q : Nat) zz => (fun (M2 : Nat → Fn) => lm_G X d 57 106 0 0 54 [some (.ref 38), some (.int (nI j)), some (.int (if fWh F j = 1 then 2 * fE F else fE F)), some (.int (nI q))] [] (lm_T M2 v G) Q) zz) (Inv := fun (q : Nat) zz => (fun (M2 : Nat → Fn) => Ag j (M2 47) (heardS F (sPl s)) ∧ Fr (frO 47) M M2 ∧ M2 47 j = msk (heS F (sPl s) j) q) zz) (fN F) (fun q zz hj2 hI2 ih2 => ?_) (fun zz hI2 => ?_) (0) (lm_wr M1 47 j 0) (by omega) ?_
      ·
        revert ih2 hI2
        revert zz
        intro M2 hI2 ih2
        replace hI2 : Ag j (M2 47) (heardS F (sPl s)) ∧ Fr (frO 47) M M2 ∧ M2 47 j = msk (heS F (sPl s) j) q := hI2
        replace ih2 : ∀ (M2 : Nat → Fn) (_ : Ag j (M2 47) (heardS F (sPl s)) ∧ Fr (frO 47) M M2 ∧ M2 47 j = msk (heS F (sPl s) j) (q + 1)), lm_G X d 57 106 0 0 54 [some (.ref 38), some (.int (nI j)), some (.int (if fWh F j = 1 then 2 * fE F else fE F)), some (.int (nI (q + 1)))] [] (lm_T M2 v G) Q := fun M2 q => ih2 M2 q
        show lm_G X d 57 106 0 0 54 [some (.ref 38), some (.int (nI j)), some (.int (if fWh F j = 1 then 2 * fE F else fE F)), some (.int (nI q))] [] (lm_T M2 v G) Q
        obtain ⟨k1, k2, k3⟩ := hI2
        refine lm_G_sg 4 (pc' := 62) (L' := [some (.ref 38), some (.int (nI j)), some (.int (if fWh F j = 1 then 2 * fE F else fE F)), some (.int (nI q))]) (S' := [.int (M2 14 0), .int (nI q)]) (σ' := lm_T M2 v G) rfl trivial ?_
        rw [show M2 14 0 = nI (fN F) from (congrFun (k2 14 rfl) 0).trans h.n]
        refine lm_G_br (b := (nI (fN F)) ≤ (nI q)) (t := 108) (S' := []) rfl (fun hc => absurd hc (nI_ge hj2 (by omega))) (fun hc => ?_)
        refine lm_G_sg 2 (pc' := 67) (L' := [some (.ref 38), some (.int (nI j)), some (.int (if fWh F j = 1 then 2 * fE F else fE F)), some (.int (nI q))]) (S' := [.int (nI j), .int (nI q)]) (σ' := lm_T M2 v G) rfl trivial ?_
        refine lm_G_br (b := (nI q) = (nI j)) (t := 102) (S' := []) rfl (fun h4 => ?_) (fun h4 => ?_)
        ·
          have e : q = j := (nI_eq (by omega) (by omega)).mp h4
          refine lm_G_sg 1 (pc' := 105) (L' := [some (.ref 38), some (.int (nI j)), some (.int (if fWh F j = 1 then 2 * fE F else fE F)), some (.int ((nI q) + 1))]) (S' := []) (σ' := lm_T M2 v G) rfl trivial ?_
          rw [nI_1]
          refine lm_G_sg 1 (pc' := 54) (L' := [some (.ref 38), some (.int (nI j)), some (.int (if fWh F j = 1 then 2 * fE F else fE F)), some (.int (nI (q + 1)))]) (S' := []) (σ' := lm_T M2 v G) rfl trivial ?_
          exact ih2 _ (⟨k1, k2, by rw [k3, msk_f (f := (heS F (sPl s) j)) (by unfold heS; simp [e])]⟩)
        ·
          have e : j ≠ q := fun w => h4 (by rw [w])
          refine lm_G_sg 4 (pc' := 76) (L' := [some (.ref 38), some (.int (nI j)), some (.int (if fWh F j = 1 then 2 * fE F else fE F)), some (.int (nI q))]) (S' := [.int (M2 40 (nI j).toNatClampNeg)]) (σ' := lm_T M2 v G) rfl ⟨(vp_in_nI (by omega) (by omega)), trivial, trivial⟩ ?_
          rw [show (nI j).toNatClampNeg = j from nI_clamp (by omega)]
          rw [show M2 40 j = sPl s j from (congrFun (k2 40 rfl) j).trans (h.pl j (by omega))]
          refine lm_G_sg 4 (pc' := 82) (L' := [some (.ref 38), some (.int (nI j)), some (.int (if fWh F j = 1 then 2 * fE F else fE F)), some (.int (nI q))]) (S' := [.int (M2 40 (nI q).toNatClampNeg), .int (sPl s j)]) (σ' := lm_T M2 v G) rfl ⟨(vp_in_nI (by omega) (by omega)), trivial, trivial⟩ ?_
          rw [show (nI q).toNatClampNeg = q from nI_clamp (by omega)]
          rw [show M2 40 q = sPl s q from (congrFun (k2 40 rfl) q).trans (h.pl q (by omega))]
          refine lm_G_sg 3 (pc' := 87) (L' := [some (.ref 38), some (.int (nI j)), some (.int (if fWh F j = 1 then 2 * fE F else fE F)), some (.int (nI q))]) (S' := [.int (if fWh F j = 1 then 2 * fE F else fE F), .int (absI ((sPl s j) - (sPl s q)))]) (σ' := lm_T M2 v G) rfl ⟨trivial, (Nat.le_of_ble_eq_true rfl), trivial⟩ ?_
          refine lm_G_br (b := (if fWh F j = 1 then 2 * fE F else fE F) < (absI ((sPl s j) - (sPl s q)))) (t := 102) (S' := []) rfl (fun h5 => ?_) (fun h5 => ?_)
          ·
            refine lm_G_sg 1 (pc' := 105) (L' := [some (.ref 38), some (.int (nI j)), some (.int (if fWh F j = 1 then 2 * fE F else fE F)), some (.int ((nI q) + 1))]) (S' := []) (σ' := lm_T M2 v G) rfl trivial ?_
            rw [nI_1]
            refine lm_G_sg 1 (pc' := 54) (L' := [some (.ref 38), some (.int (nI j)), some (.int (if fWh F j = 1 then 2 * fE F else fE F)), some (.int (nI (q + 1)))]) (S' := []) (σ' := lm_T M2 v G) rfl trivial ?_
            exact ih2 _ (⟨k1, k2, by rw [k3, msk_f (f := (heS F (sPl s) j)) (by unfold heS; rw [decide_eq_false (Int32.not_le.mpr h5)]; simp)]⟩)
          ·
            refine lm_G_sg 5 (pc' := 97) (L' := [some (.ref 38), some (.int (nI j)), some (.int (if fWh F j = 1 then 2 * fE F else fE F)), some (.int (nI q))]) (S' := [.int (M2 47 (nI j).toNatClampNeg), .int (nI j), .ref 47]) (σ' := lm_T M2 v G) rfl ⟨(vp_in_nI (by omega) (by omega)), trivial, trivial⟩ ?_
            rw [show (nI j).toNatClampNeg = j from nI_clamp (by omega)]
            rw [show M2 47 j = msk (heS F (sPl s) j) q from k3]
            refine lm_G_sg 5 (pc' := 102) (L' := [some (.ref 38), some (.int (nI j)), some (.int (if fWh F j = 1 then 2 * fE F else fE F)), some (.int (nI q))]) (S' := []) (σ' := lm_T (lm_wr M2 47 ((nI j).toNatClampNeg) ((msk (heS F (sPl s) j) q) ||| (1 <<< ((nI q) &&& 31)))) v G) rfl ⟨(vp_in_nI (by omega) (by omega)), trivial, trivial⟩ ?_
            rw [show (nI j).toNatClampNeg = j from nI_clamp (by omega)]
            refine lm_G_sg 1 (pc' := 105) (L' := [some (.ref 38), some (.int (nI j)), some (.int (if fWh F j = 1 then 2 * fE F else fE F)), some (.int ((nI q) + 1))]) (S' := []) (σ' := lm_T (lm_wr M2 47 j ((msk (heS F (sPl s) j) q) ||| (1 <<< ((nI q) &&& 31)))) v G) rfl trivial ?_
            rw [nI_1]
            refine lm_G_sg 1 (pc' := 54) (L' := [some (.ref 38), some (.int (nI j)), some (.int (if fWh F j = 1 then 2 * fE F else fE F)), some (.int (nI (q + 1)))]) (S' := []) (σ' := lm_T (lm_wr M2 47 j ((msk (heS F (sPl s) j) q) ||| (1 <<< ((nI q) &&& 31)))) v G) rfl trivial ?_
            exact ih2 _ (⟨fun u hu => by rw [wr_at (by omega)]; exact k1 u hu, Fr_wr k2 rfl, by rw [wr_same, msk_t (f := (heS F (sPl s) j)) (by unfold heS; rw [decide_eq_true (Int32.not_lt.mp h5), decide_eq_true e]; rfl)]⟩)
      ·
        revert hI2
        revert zz
        intro M2 hI2
        replace hI2 : Ag j (M2 47) (heardS F (sPl s)) ∧ Fr (frO 47) M M2 ∧ M2 47 j = msk (heS F (sPl s) j) (fN F) := hI2
        show lm_G X d 57 106 0 0 54 [some (.ref 38), some (.int (nI j)), some (.int (if fWh F j = 1 then 2 * fE F else fE F)), some (.int (nI (fN F)))] [] (lm_T M2 v G) Q
        obtain ⟨k1, k2, k3⟩ := hI2
        refine lm_G_sg 4 (pc' := 62) (L' := [some (.ref 38), some (.int (nI j)), some (.int (if fWh F j = 1 then 2 * fE F else fE F)), some (.int (nI (fN F)))]) (S' := [.int (M2 14 0), .int (nI (fN F))]) (σ' := lm_T M2 v G) rfl trivial ?_
        rw [show M2 14 0 = nI (fN F) from (congrFun (k2 14 rfl) 0).trans h.n]
        refine lm_G_br (b := (nI (fN F)) ≤ (nI (fN F))) (t := 108) (S' := []) rfl (fun hc => ?_) (fun hc => absurd (nI_le (Nat.le_refl _) (by omega)) hc)
        refine lm_G_sg 1 (pc' := 111) (L' := [some (.ref 38), some (.int ((nI j) + 1)), some (.int (if fWh F j = 1 then 2 * fE F else fE F)), some (.int (nI (fN F)))]) (S' := []) (σ' := lm_T M2 v G) rfl trivial ?_
        rw [nI_1]
        refine lm_G_sg 1 (pc' := 2) (L' := [some (.ref 38), some (.int (nI (j + 1))), some (.int (if fWh F j = 1 then 2 * fE F else fE F)), some (.int (nI (fN F)))]) (S' := []) (σ' := lm_T M2 v G) rfl trivial ?_
        refine lm_G_jk (L := [some (.ref 38), some (.int (nI (j + 1))), none, none]) ⟨rfl, rfl, trivial⟩ ?_
        exact ih _ (⟨fun u hu => if w : u = j then (by subst w; exact k3) else k1 u (by omega), k2⟩)
      ·
        try dsimp only
        exact ⟨fun u hu => by rw [wr_at (by omega)]; exact i1 u hu, Fr_wr i2 rfl, wr_same⟩
    ·
      refine lm_G_sg 4 (pc' := 33) (L' := [some (.ref 38), some (.int (nI j)), none, none]) (S' := [.int (M1 14 9), .int 2]) (σ' := lm_T M1 v G) rfl trivial ?_
      rw [show M1 14 9 = fE F from (congrFun (i2 14 rfl) 9).trans h.e]
      refine lm_G_sg 8 (pc' := 52) (L' := [some (.ref 38), some (.int (nI j)), some (.int (2 * (fE F))), none]) (S' := []) (σ' := lm_T (lm_wr M1 47 ((nI j).toNatClampNeg) 0) v G) rfl ⟨(vp_in_nI (by omega) (by omega)), trivial, trivial⟩ ?_
      rw [show (nI j).toNatClampNeg = j from nI_clamp (by omega)]
      refine lm_G_sg 2 (pc' := 54) (L' := [some (.ref 38), some (.int (nI j)), some (.int (2 * (fE F))), some (.int 0)]) (S' := []) (σ' := lm_T (lm_wr M1 47 j 0) v G) rfl trivial ?_
      have er : 2 * fE F = (if fWh F j = 1 then 2 * fE F else fE F) := by rw [if_pos ((h.w01 j hj).resolve_left h3)]
      rw [er]
      refine lm_ind (α := (Nat → Fn)) (St := fun (q : Nat) zz => (fun (M2 : Nat → Fn) => lm_G X d 57 106 0 0 54 [some (.ref 38), some (.int (nI j)), some (.int (if fWh F j = 1 then 2 * fE F else fE F)), some (.int (nI q))] [] (lm_T M2 v G) Q) zz) (Inv := fun (q : Nat) zz => (fun (M2 : Nat → Fn) => Ag j (M2 47) (heardS F (sPl s)) ∧ Fr (frO 47) M M2 ∧ M2 47 j = msk (heS F (sPl s) j) q) zz) (fN F) (fun q zz hj2 hI2 ih2 => ?_) (fun zz hI2 => ?_) (0) (lm_wr M1 47 j 0) (by omega) ?_
      ·
        revert ih2 hI2
        revert zz
        intro M2 hI2 ih2
        replace hI2 : Ag j (M2 47) (heardS F (sPl s)) ∧ Fr (frO 47) M M2 ∧ M2 47 j = msk (heS F (sPl s) j) q := hI2
        replace ih2 : ∀ (M2 : Nat → Fn) (_ : Ag j (M2 47) (heardS F (sPl s)) ∧ Fr (frO 47) M M2 ∧ M2 47 j = msk (heS F (sPl s) j) (q + 1)), lm_G X d 57 106 0 0 54 [some (.ref 38), some (.int (nI j)), some (.int (if fWh F j = 1 then 2 * fE F else fE F)), some (.int (nI (q + 1)))] [] (lm_T M2 v G) Q := fun M2 q => ih2 M2 q
        show lm_G X d 57 106 0 0 54 [some (.ref 38), some (.int (nI j)), some (.int (if fWh F j = 1 then 2 * fE F else fE F)), some (.int (nI q))] [] (lm_T M2 v G) Q
        obtain ⟨k1, k2, k3⟩ := hI2
        refine lm_G_sg 4 (pc' := 62) (L' := [some (.ref 38), some (.int (nI j)), some (.int (if fWh F j = 1 then 2 * fE F else fE F)), some (.int (nI q))]) (S' := [.int (M2 14 0), .int (nI q)]) (σ' := lm_T M2 v G) rfl trivial ?_
        rw [show M2 14 0 = nI (fN F) from (congrFun (k2 14 rfl) 0).trans h.n]
        refine lm_G_br (b := (nI (fN F)) ≤ (nI q)) (t := 108) (S' := []) rfl (fun hc => absurd hc (nI_ge hj2 (by omega))) (fun hc => ?_)
        refine lm_G_sg 2 (pc' := 67) (L' := [some (.ref 38), some (.int (nI j)), some (.int (if fWh F j = 1 then 2 * fE F else fE F)), some (.int (nI q))]) (S' := [.int (nI j), .int (nI q)]) (σ' := lm_T M2 v G) rfl trivial ?_
        refine lm_G_br (b := (nI q) = (nI j)) (t := 102) (S' := []) rfl (fun h4 => ?_) (fun h4 => ?_)
        ·
          have e : q = j := (nI_eq (by omega) (by omega)).mp h4
          refine lm_G_sg 1 (pc' := 105) (L' := [some (.ref 38), some (.int (nI j)), some (.int (if fWh F j = 1 then 2 * fE F else fE F)), some (.int ((nI q) + 1))]) (S' := []) (σ' := lm_T M2 v G) rfl trivial ?_
          rw [nI_1]
          refine lm_G_sg 1 (pc' := 54) (L' := [some (.ref 38), some (.int (nI j)), some (.int (if fWh F j = 1 then 2 * fE F else fE F)), some (.int (nI (q + 1)))]) (S' := []) (σ' := lm_T M2 v G) rfl trivial ?_
          exact ih2 _ (⟨k1, k2, by rw [k3, msk_f (f := (heS F (sPl s) j)) (by unfold heS; simp [e])]⟩)
        ·
          have e : j ≠ q := fun w => h4 (by rw [w])
          refine lm_G_sg 4 (pc' := 76) (L' := [some (.ref 38), some (.int (nI j)), some (.int (if fWh F j = 1 then 2 * fE F else fE F)), some (.int (nI q))]) (S' := [.int (M2 40 (nI j).toNatClampNeg)]) (σ' := lm_T M2 v G) rfl ⟨(vp_in_nI (by omega) (by omega)), trivial, trivial⟩ ?_
          rw [show (nI j).toNatClampNeg = j from nI_clamp (by omega)]
          rw [show M2 40 j = sPl s j from (congrFun (k2 40 rfl) j).trans (h.pl j (by omega))]
          refine lm_G_sg 4 (pc' := 82) (L' := [some (.ref 38), some (.int (nI j)), some (.int (if fWh F j = 1 then 2 * fE F else fE F)), some (.int (nI q))]) (S' := [.int (M2 40 (nI q).toNatClampNeg), .int (sPl s j)]) (σ' := lm_T M2 v G) rfl ⟨(vp_in_nI (by omega) (by omega)), trivial, trivial⟩ ?_
          rw [show (nI q).toNatClampNeg = q from nI_clamp (by omega)]
          rw [show M2 40 q = sPl s q from (congrFun (k2 40 rfl) q).trans (h.pl q (by omega))]
          refine lm_G_sg 3 (pc' := 87) (L' := [some (.ref 38), some (.int (nI j)), some (.int (if fWh F j = 1 then 2 * fE F else fE F)), some (.int (nI q))]) (S' := [.int (if fWh F j = 1 then 2 * fE F else fE F), .int (absI ((sPl s j) - (sPl s q)))]) (σ' := lm_T M2 v G) rfl ⟨trivial, (Nat.le_of_ble_eq_true rfl), trivial⟩ ?_
          refine lm_G_br (b := (if fWh F j = 1 then 2 * fE F else fE F) < (absI ((sPl s j) - (sPl s q)))) (t := 102) (S' := []) rfl (fun h5 => ?_) (fun h5 => ?_)
          ·
            refine lm_G_sg 1 (pc' := 105) (L' := [some (.ref 38), some (.int (nI j)), some (.int (if fWh F j = 1 then 2 * fE F else fE F)), some (.int ((nI q) + 1))]) (S' := []) (σ' := lm_T M2 v G) rfl trivial ?_
            rw [nI_1]
            refine lm_G_sg 1 (pc' := 54) (L' := [some (.ref 38), some (.int (nI j)), some (.int (if fWh F j = 1 then 2 * fE F else fE F)), some (.int (nI (q + 1)))]) (S' := []) (σ' := lm_T M2 v G) rfl trivial ?_
            exact ih2 _ (⟨k1, k2, by rw [k3, msk_f (f := (heS F (sPl s) j)) (by unfold heS; rw [decide_eq_false (Int32.not_le.mpr h5)]; simp)]⟩)
          ·
            refine lm_G_sg 5 (pc' := 97) (L' := [some (.ref 38), some (.int (nI j)), some (.int (if fWh F j = 1 then 2 * fE F else fE F)), some (.int (nI q))]) (S' := [.int (M2 47 (nI j).toNatClampNeg), .int (nI j), .ref 47]) (σ' := lm_T M2 v G) rfl ⟨(vp_in_nI (by omega) (by omega)), trivial, trivial⟩ ?_
            rw [show (nI j).toNatClampNeg = j from nI_clamp (by omega)]
            rw [show M2 47 j = msk (heS F (sPl s) j) q from k3]
            refine lm_G_sg 5 (pc' := 102) (L' := [some (.ref 38), some (.int (nI j)), some (.int (if fWh F j = 1 then 2 * fE F else fE F)), some (.int (nI q))]) (S' := []) (σ' := lm_T (lm_wr M2 47 ((nI j).toNatClampNeg) ((msk (heS F (sPl s) j) q) ||| (1 <<< ((nI q) &&& 31)))) v G) rfl ⟨(vp_in_nI (by omega) (by omega)), trivial, trivial⟩ ?_
            rw [show (nI j).toNatClampNeg = j from nI_clamp (by omega)]
            refine lm_G_sg 1 (pc' := 105) (L' := [some (.ref 38), some (.int (nI j)), some (.int (if fWh F j = 1 then 2 * fE F else fE F)), some (.int ((nI q) + 1))]) (S' := []) (σ' := lm_T (lm_wr M2 47 j ((msk (heS F (sPl s) j) q) ||| (1 <<< ((nI q) &&& 31)))) v G) rfl trivial ?_
            rw [nI_1]
            refine lm_G_sg 1 (pc' := 54) (L' := [some (.ref 38), some (.int (nI j)), some (.int (if fWh F j = 1 then 2 * fE F else fE F)), some (.int (nI (q + 1)))]) (S' := []) (σ' := lm_T (lm_wr M2 47 j ((msk (heS F (sPl s) j) q) ||| (1 <<< ((nI q) &&& 31)))) v G) rfl trivial ?_
            exact ih2 _ (⟨fun u hu => by rw [wr_at (by omega)]; exact k1 u hu, Fr_wr k2 rfl, by rw [wr_same, msk_t (f := (heS F (sPl s) j)) (by unfold heS; rw [decide_eq_true (Int32.not_lt.mp h5), decide_eq_true e]; rfl)]⟩)
      ·
        revert hI2
        revert zz
        intro M2 hI2
        replace hI2 : Ag j (M2 47) (heardS F (sPl s)) ∧ Fr (frO 47) M M2 ∧ M2 47 j = msk (heS F (sPl s) j) (fN F) := hI2
        show lm_G X d 57 106 0 0 54 [some (.ref 38), some (.int (nI j)), some (.int (if fWh F j = 1 then 2 * fE F else fE F)), some (.int (nI (fN F)))] [] (lm_T M2 v G) Q
        obtain ⟨k1, k2, k3⟩ := hI2
        refine lm_G_sg 4 (pc' := 62) (L' := [some (.ref 38), some (.int (nI j)), some (.int (if fWh F j = 1 then 2 * fE F else fE F)), some (.int (nI (fN F)))]) (S' := [.int (M2 14 0), .int (nI (fN F))]) (σ' := lm_T M2 v G) rfl trivial ?_
        rw [show M2 14 0 = nI (fN F) from (congrFun (k2 14 rfl) 0).trans h.n]
        refine lm_G_br (b := (nI (fN F)) ≤ (nI (fN F))) (t := 108) (S' := []) rfl (fun hc => ?_) (fun hc => absurd (nI_le (Nat.le_refl _) (by omega)) hc)
        refine lm_G_sg 1 (pc' := 111) (L' := [some (.ref 38), some (.int ((nI j) + 1)), some (.int (if fWh F j = 1 then 2 * fE F else fE F)), some (.int (nI (fN F)))]) (S' := []) (σ' := lm_T M2 v G) rfl trivial ?_
        rw [nI_1]
        refine lm_G_sg 1 (pc' := 2) (L' := [some (.ref 38), some (.int (nI (j + 1))), some (.int (if fWh F j = 1 then 2 * fE F else fE F)), some (.int (nI (fN F)))]) (S' := []) (σ' := lm_T M2 v G) rfl trivial ?_
        refine lm_G_jk (L := [some (.ref 38), some (.int (nI (j + 1))), none, none]) ⟨rfl, rfl, trivial⟩ ?_
        exact ih _ (⟨fun u hu => if w : u = j then (by subst w; exact k3) else k1 u (by omega), k2⟩)
      ·
        try dsimp only
        exact ⟨fun u hu => by rw [wr_at (by omega)]; exact i1 u hu, Fr_wr i2 rfl, wr_same⟩
  ·
    revert hI
    revert zz
    intro M1 hI
    replace hI : Ag (fN F) (M1 47) (heardS F (sPl s)) ∧ Fr (frO 47) M M1 := hI
    show lm_G X d 57 106 0 0 2 [some (.ref 38), some (.int (nI (fN F))), none, none] [] (lm_T M1 v G) Q
    obtain ⟨i1, i2⟩ := hI
    refine lm_G_sg 4 (pc' := 10) (L' := [some (.ref 38), some (.int (nI (fN F))), none, none]) (S' := [.int (M1 14 0), .int (nI (fN F))]) (σ' := lm_T M1 v G) rfl trivial ?_
    rw [show M1 14 0 = nI (fN F) from (congrFun (i2 14 rfl) 0).trans h.n]
    refine lm_G_br (b := (nI (fN F)) ≤ (nI (fN F))) (t := 114) (S' := []) rfl (fun hc => ?_) (fun hc => absurd (nI_le (Nat.le_refl _) (by omega)) hc)
    exact lm_G_re rfl trivial (Nat.zero_le _) (Nat.zero_le _) (hQ _ i1 i2)
  ·
    try dsimp only
    exact ⟨fun u hu => by omega, Fr_rf _ _⟩
set_option maxRecDepth 10000 in
theorem c_putAt38 {X : lm_X} {d v : Nat} {M : Nat → Nat → Int32} {G : Nat → Nat → Int64} {Q : lm_O → lm_S → Prop} {F : Fa} {s : Sc} {p : Nat} {x : Int32} (hF : okF F) (h : RC 38 M F s) (hp : p < fN F) (hQ : ∀ M1, RC 38 M1 F (plS s p x) → FrW 38 M M1 → M1 38 13 = M 38 13 → Q (.inl none) (lm_T M1 v G)) : lm_Q X (d + 1) 64 [.ref 38, .int (nI p), .int x] (lm_T M v G) Q := by
  have hn := hF.n
  have hm := hF.m
  show lm_G X (d + 1) 64 106 0 0 0 [some (.ref 38), some (.int (nI p)), some (.int x)] [] (lm_T M v G) Q
  refine lm_G_sg 5 (pc' := 7) (L' := [some (.ref 38), some (.int (nI p)), some (.int x)]) (S' := []) (σ' := lm_T (lm_wr M 40 ((nI p).toNatClampNeg) x) v G) rfl ⟨(vp_in_nI (by omega) (by omega)), trivial, trivial⟩ ?_
  rw [show (nI p).toNatClampNeg = p from nI_clamp (by omega)]
  refine lm_G_sg 1 (pc' := 8) (L' := [some (.ref 38), some (.int (nI p)), some (.int x)]) (S' := [.ref 38]) (σ' := lm_T (lm_wr M 40 p x) v G) rfl trivial ?_
  have h0 : PC 38 (lm_wr M 40 p x) F (plS s p x) := ⟨KC_of h.1 rfl rfl rfl rfl rfl rfl rfl, h.hr, h.br, Ag_upd h.pl p x, h.co, h.hu, h.hd, h.id, h.ow⟩
  refine lm_G_ca (j := 57) (as := [.ref 38]) (rest := []) rfl (Or.inl rfl) (Nat.le_of_ble_eq_true rfl) (Nat.le_of_ble_eq_true rfl) (Nat.le_of_ble_eq_true rfl) (Nat.le_of_ble_eq_true rfl) rfl ?_
  refine c_findHeard38 hF h0 (fun M1 k1 k2 => ?_)
  show lm_G X (d + 1) 64 106 0 0 11 [some (.ref 38), some (.int (nI p)), some (.int x)] [] (lm_T M1 v G) Q
  have k3 : PC 38 M1 F (plS s p x) := by
    refine ⟨KC_of h0.1 (k2 14 rfl) (k2 16 rfl) (k2 19 rfl) (k2 20 rfl) (k2 22 rfl) (k2 23 rfl) (k2 24 rfl), ?_⟩
    rw [k2 38 rfl, k2 (38 + 1) rfl, k2 (38 + 2) rfl, k2 (38 + 3) rfl, k2 (38 + 4) rfl, k2 (38 + 5) rfl, k2 (38 + 6) rfl, k2 (38 + 7) rfl]
    exact h0.2
  exact lm_G_re rfl trivial (Nat.zero_le _) (Nat.zero_le _) (hQ _ (PC_RC k3 (by rw [k2 (38 + 8) rfl]; exact h.hs) k1) ⟨fun a ha => (k2 a (by unfold frO; unfold frW at ha; revert ha; by_cases w : a = 47 <;> simp [w])).trans (wr_row (fun e => by subst e; cases ha)), fun k _ _ => by rw [k2 38 rfl]; rfl⟩ (by rw [k2 38 rfl]; rfl))
