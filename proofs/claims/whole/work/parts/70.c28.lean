/-! ===== contracts: tokens of the class ===== -/
set_option maxRecDepth 10000 in
theorem c_isBlank {X : lm_X} {d v : Nat} {M : Nat → Nat → Int32} {G : Nat → Nat → Int64} {Q : lm_O → lm_S → Prop} {b : Nat} (hb : b < 256) (hQ : Q (.inl (some (.int (b2i (blS b))))) (lm_T M v G)) : lm_Q X d 27 [.int (sB b)] (lm_T M v G) Q := by
  show lm_G X d 27 106 0 0 0 [some (.int (sB b))] [] (lm_T M v G) Q
  obtain ⟨q1, q2⟩ := sB_bl b hb
  refine lm_G_sg 2 (pc' := 3) (L' := [some (.int (sB b))]) (S' := [.int 32, .int (sB b)]) (σ' := lm_T M v G) rfl trivial ?_
  refine lm_G_br (b := (sB b) = 32) (t := 12) (S' := []) rfl (fun h1 => ?_) (fun h1 => ?_)
  ·
    rw [show blS b = true from by unfold blS; rw [decide_eq_true (q1.mp h1)]; rfl] at hQ
    refine lm_G_sg 2 (pc' := 17) (L' := [some (.int (sB b))]) (S' := [.int 1]) (σ' := lm_T M v G) rfl trivial ?_
    exact lm_G_re rfl (by decide) (Nat.zero_le _) (Nat.zero_le _) hQ
  ·
    refine lm_G_sg 2 (pc' := 9) (L' := [some (.int (sB b))]) (S' := [.int 10, .int (sB b)]) (σ' := lm_T M v G) rfl trivial ?_
    refine lm_G_br (b := ¬ (sB b) = 10) (t := 16) (S' := []) rfl (fun h2 => ?_) (fun h2 => ?_)
    ·
      rw [show blS b = false from by unfold blS; rw [decide_eq_false (fun w => h1 (q1.mpr w)), decide_eq_false (fun w => h2 (q2.mpr w))]; rfl] at hQ
      refine lm_G_sg 1 (pc' := 17) (L' := [some (.int (sB b))]) (S' := [.int 0]) (σ' := lm_T M v G) rfl trivial ?_
      exact lm_G_re rfl (by decide) (Nat.zero_le _) (Nat.zero_le _) hQ
    ·
      rw [show blS b = true from by unfold blS; rw [decide_eq_true (q2.mp (Classical.not_not.mp h2)), Bool.or_true]] at hQ
      refine lm_G_sg 2 (pc' := 17) (L' := [some (.int (sB b))]) (S' := [.int 1]) (σ' := lm_T M v G) rfl trivial ?_
      exact lm_G_re rfl (by decide) (Nat.zero_le _) (Nat.zero_le _) hQ
set_option maxRecDepth 10000 in
theorem c_isLetter {X : lm_X} {d v : Nat} {M : Nat → Nat → Int32} {G : Nat → Nat → Int64} {Q : lm_O → lm_S → Prop} {b : Nat} (hb : b < 256) (hQ : Q (.inl (some (.int (b2i (ltS b))))) (lm_T M v G)) : lm_Q X d 28 [.int (sB b)] (lm_T M v G) Q := by
  show lm_G X d 28 106 0 0 0 [some (.int (sB b))] [] (lm_T M v G) Q
  have q := sB_ge b hb
  refine lm_G_sg 2 (pc' := 3) (L' := [some (.int (sB b))]) (S' := [.int 97, .int (sB b)]) (σ' := lm_T M v G) rfl trivial ?_
  refine lm_G_br (b := (sB b) < 97) (t := 16) (S' := []) rfl (fun h1 => ?_) (fun h1 => ?_)
  ·
    rw [show ltS b = false from Bool.eq_false_iff.mpr (fun w => Int32.not_le.mpr h1 (q.mpr (lt_iff.mp w)).1)] at hQ
    refine lm_G_sg 1 (pc' := 17) (L' := [some (.int (sB b))]) (S' := [.int 0]) (σ' := lm_T M v G) rfl trivial ?_
    exact lm_G_re rfl (by decide) (Nat.zero_le _) (Nat.zero_le _) hQ
  ·
    refine lm_G_sg 2 (pc' := 9) (L' := [some (.int (sB b))]) (S' := [.int 122, .int (sB b)]) (σ' := lm_T M v G) rfl trivial ?_
    refine lm_G_br (b := 122 < (sB b)) (t := 16) (S' := []) rfl (fun h2 => ?_) (fun h2 => ?_)
    ·
      rw [show ltS b = false from Bool.eq_false_iff.mpr (fun w => Int32.not_le.mpr h2 (q.mpr (lt_iff.mp w)).2)] at hQ
      refine lm_G_sg 1 (pc' := 17) (L' := [some (.int (sB b))]) (S' := [.int 0]) (σ' := lm_T M v G) rfl trivial ?_
      exact lm_G_re rfl (by decide) (Nat.zero_le _) (Nat.zero_le _) hQ
    ·
      rw [show ltS b = true from lt_iff.mpr (q.mp ⟨Int32.not_lt.mp h1, Int32.not_lt.mp h2⟩)] at hQ
      refine lm_G_sg 2 (pc' := 17) (L' := [some (.int (sB b))]) (S' := [.int 1]) (σ' := lm_T M v G) rfl trivial ?_
      exact lm_G_re rfl (by decide) (Nat.zero_le _) (Nat.zero_le _) hQ
set_option maxRecDepth 10000 in
theorem c_isDigit {X : lm_X} {d v : Nat} {M : Nat → Nat → Int32} {G : Nat → Nat → Int64} {Q : lm_O → lm_S → Prop} {b : Nat} (hb : b < 256) (hQ : Q (.inl (some (.int (b2i (dgS b))))) (lm_T M v G)) : lm_Q X d 29 [.int (sB b)] (lm_T M v G) Q := by
  show lm_G X d 29 106 0 0 0 [some (.int (sB b))] [] (lm_T M v G) Q
  have q := sB_dg b hb
  refine lm_G_sg 2 (pc' := 3) (L' := [some (.int (sB b))]) (S' := [.int 48, .int (sB b)]) (σ' := lm_T M v G) rfl trivial ?_
  refine lm_G_br (b := (sB b) < 48) (t := 16) (S' := []) rfl (fun h1 => ?_) (fun h1 => ?_)
  ·
    rw [show dgS b = false from Bool.eq_false_iff.mpr (fun w => Int32.not_le.mpr h1 (q.mpr (dg_iff.mp w)).1)] at hQ
    refine lm_G_sg 1 (pc' := 17) (L' := [some (.int (sB b))]) (S' := [.int 0]) (σ' := lm_T M v G) rfl trivial ?_
    exact lm_G_re rfl (by decide) (Nat.zero_le _) (Nat.zero_le _) hQ
  ·
    refine lm_G_sg 2 (pc' := 9) (L' := [some (.int (sB b))]) (S' := [.int 57, .int (sB b)]) (σ' := lm_T M v G) rfl trivial ?_
    refine lm_G_br (b := 57 < (sB b)) (t := 16) (S' := []) rfl (fun h2 => ?_) (fun h2 => ?_)
    ·
      rw [show dgS b = false from Bool.eq_false_iff.mpr (fun w => Int32.not_le.mpr h2 (q.mpr (dg_iff.mp w)).2)] at hQ
      refine lm_G_sg 1 (pc' := 17) (L' := [some (.int (sB b))]) (S' := [.int 0]) (σ' := lm_T M v G) rfl trivial ?_
      exact lm_G_re rfl (by decide) (Nat.zero_le _) (Nat.zero_le _) hQ
    ·
      rw [show dgS b = true from dg_iff.mpr (q.mp ⟨Int32.not_lt.mp h1, Int32.not_lt.mp h2⟩)] at hQ
      refine lm_G_sg 2 (pc' := 17) (L' := [some (.int (sB b))]) (S' := [.int 1]) (σ' := lm_T M v G) rfl trivial ?_
      exact lm_G_re rfl (by decide) (Nat.zero_le _) (Nat.zero_le _) hQ
set_option maxRecDepth 10000 in
theorem c_nextToken {X : lm_X} {d v : Nat} {M : Nat → Nat → Int32} {G : Nat → Nat → Int64} {Q : lm_O → lm_S → Prop} {T : Tx} {p : Nat} (hT : okT T) (hr : RDc M T) (hp : p ≤ tN T) (h8 : M 1 8 = nI p) (hQ : ∀ M1, RT M1 T p → FrR M M1 → Q (.inl none) (lm_T M1 v G)) : lm_Q X (d + 1) 26 [.ref 1] (lm_T M v G) Q := by
  show lm_G X (d + 1) 26 106 0 0 0 [some (.ref 1)] [] (lm_T M v G) Q
  have hn := hT.1
  obtain ⟨sl1, sl2⟩ := st_le hp
  obtain ⟨el1, el2, el3⟩ := en_le hp
  refine lm_G_sg 3 (pc' := 5) (L' := [some (.ref 1)]) (S' := [.int (M 1 8), .ref 1]) (σ' := lm_T M v G) rfl trivial ?_
  rw [show M 1 8 = nI p from h8]
  refine lm_G_sg 1 (pc' := 8) (L' := [some (.ref 1)]) (S' := []) (σ' := lm_T (lm_wr M 1 7 (nI p)) v G) rfl ⟨trivial, trivial, trivial⟩ ?_
  have k47 : ∀ (M2 : Nat → Fn) (i2 : M2 1 7 = nI ((stS' T p)) ∧ RDc M2 T ∧ FrR M M2), lm_G X (d + 1) 26 106 0 0 47 [some (.ref 1)] [] (lm_T M2 v G) Q := by
    intro M2 i2
    obtain ⟨s2, r2, f2⟩ := i2
    refine lm_G_sg 3 (pc' := 52) (L' := [some (.ref 1)]) (S' := [.int (M2 1 7), .ref 1]) (σ' := lm_T M2 v G) rfl trivial ?_
    rw [show M2 1 7 = nI (stS' T p) from s2]
    refine lm_G_sg 4 (pc' := 60) (L' := [some (.ref 1)]) (S' := []) (σ' := lm_T (lm_wr (lm_wr M2 1 8 (nI (stS' T p))) 1 9 0) v G) rfl ⟨trivial, trivial, trivial, trivial, trivial⟩ ?_
    have s3 : (lm_wr (lm_wr M2 1 8 (nI (stS' T p))) 1 9 0) 1 7 = nI (stS' T p) := (wr_at (by decide)).trans ((wr_at (by decide)).trans s2)
    have e3 : (lm_wr (lm_wr M2 1 8 (nI (stS' T p))) 1 9 0) 1 8 = nI (stS' T p) := (wr_at (by decide)).trans wr_same
    have u3 : (lm_wr (lm_wr M2 1 8 (nI (stS' T p))) 1 9 0) 1 9 = 0 := wr_same
    have r3 : RDc (lm_wr (lm_wr M2 1 8 (nI (stS' T p))) 1 9 0) T := ⟨(wr_at (by decide)).trans ((wr_at (by decide)).trans r2.1), r2.2⟩
    have f3 : FrR M (lm_wr (lm_wr M2 1 8 (nI (stS' T p))) 1 9 0) := FrR_w (FrR_w f2 (by decide)) (by decide)
    revert s3 e3 u3 r3 f3
    generalize lm_wr (lm_wr M2 1 8 (nI (stS' T p))) 1 9 0 = M3
    intro s3 e3 u3 r3 f3
    refine lm_G_sg 2 (pc' := 64) (L' := [some (.ref 1)]) (S' := [.int (M3 1 7)]) (σ' := lm_T M3 v G) rfl trivial ?_
    rw [show M3 1 7 = nI (stS' T p) from s3]
    refine lm_G_sg 2 (pc' := 68) (L' := [some (.ref 1)]) (S' := [.int (M3 1 3), .int (nI (stS' T p))]) (σ' := lm_T M3 v G) rfl trivial ?_
    rw [show M3 1 3 = nI (tN T) from r3.1]
    refine lm_G_br (b := (nI (stS' T p)) < (nI (tN T))) (t := 79) (S' := []) rfl (fun h1 => ?_) (fun h1 => ?_)
    rotate_left
    ·
      have k0 : knS T p = 0 := kn_0.mpr (Nat.le_of_not_lt (fun w => h1 (nI_lt w (by omega))))
      refine lm_G_sg 4 (pc' := 256) (L' := [some (.ref 1)]) (S' := []) (σ' := lm_T (lm_wr M3 1 6 0) v G) rfl ⟨trivial, trivial, trivial⟩ ?_
      exact lm_G_re rfl trivial (Nat.zero_le _) (Nat.zero_le _) (hQ _ ⟨⟨(wr_at (by decide)).trans r3.1, r3.2⟩, wr_same.trans (by rw [k0]; rfl), (wr_at (by decide)).trans s3, (wr_at (by decide)).trans (by rw [en_0 k0]; exact e3), fun w => absurd (k0.symm.trans w) (by decide)⟩ (FrR_w f3 (by decide)))
    ·
      have hl : stS' T p < tN T := (nI_ltI (by omega) (by omega)).mp h1
      have hbb := hT.2 _ hl
      refine lm_G_sg 4 (pc' := 87) (L' := [some (.ref 1)]) (S' := [.int (M3 1 7), .ref 2]) (σ' := lm_T M3 v G) rfl trivial ?_
      rw [show M3 1 7 = nI (stS' T p) from s3]
      refine lm_G_sg 1 (pc' := 88) (L' := [some (.ref 1)]) (S' := [.int (M3 2 (nI (stS' T p)).toNatClampNeg)]) (σ' := lm_T M3 v G) rfl ⟨(vp_in_nI (by omega) (by omega)), trivial, trivial⟩ ?_
      rw [show (nI (stS' T p)).toNatClampNeg = (stS' T p) from nI_clamp (by omega)]
      rw [show M3 2 (stS' T p) = sB (tB T (stS' T p)) from r3.2 (stS' T p) (by omega)]
      refine lm_G_ca (j := 28) (as := [.int (sB (tB T (stS' T p)))]) (rest := []) rfl (Or.inl rfl) (Nat.le_of_ble_eq_true rfl) (Nat.le_of_ble_eq_true rfl) (Nat.le_of_ble_eq_true rfl) (Nat.le_of_ble_eq_true rfl) rfl ?_
      refine c_isLetter hbb ?_
      show lm_G X (d + 1) 26 106 0 0 91 [some (.ref 1)] [.int (b2i (ltS (tB T (stS' T p))))] (lm_T M3 v G) Q
      refine lm_G_br (b := (b2i (ltS (tB T (stS' T p)))) = 0) (t := 138) (S' := []) rfl (fun h4 => ?_) (fun h4 => ?_)
      rotate_left
      ·
        have k1 := kn_1 hl (b2i_1 h4)
        have ek := en_1 k1
        refine lm_G_sg 3 (pc' := 99) (L' := [some (.ref 1)]) (S' := []) (σ' := lm_T (lm_wr M3 1 6 1) v G) rfl ⟨trivial, trivial, trivial⟩ ?_
        have s4 : (lm_wr M3 1 6 1) 1 7 = nI (stS' T p) := (wr_at (by decide)).trans s3
        have e4 : (lm_wr M3 1 6 1) 1 8 = nI ((stS' T p) + 0) := (wr_at (by decide)).trans e3
        have k4 : (lm_wr M3 1 6 1) 1 6 = 1 := wr_same
        have r4 : RDc (lm_wr M3 1 6 1) T := ⟨(wr_at (by decide)).trans r3.1, r3.2⟩
        have f4 : FrR M (lm_wr M3 1 6 1) := FrR_w f3 (by decide)
        revert s4 e4 k4 r4 f4
        generalize lm_wr M3 1 6 1 = M4
        intro s4 e4 k4 r4 f4
        refine lm_ind (α := (Nat → Fn)) (St := fun (j : Nat) zz => (fun (M5 : Nat → Fn) => lm_G X (d + 1) 26 106 0 0 99 [some (.ref 1)] [] (lm_T M5 v G) Q) zz) (Inv := fun (j : Nat) zz => (fun (M5 : Nat → Fn) => M5 1 7 = nI (stS' T p) ∧ M5 1 8 = nI ((stS' T p) + j) ∧ M5 1 6 = 1 ∧ RDc M5 T ∧ FrR M M5) zz) (enS T p - (stS' T p)) (fun j zz hj hI ih => ?_) (fun zz hI => ?_) (0) M4 (by omega) ?_
        ·
          revert ih hI
          revert zz
          intro M5 hI ih
          replace hI : M5 1 7 = nI (stS' T p) ∧ M5 1 8 = nI ((stS' T p) + j) ∧ M5 1 6 = 1 ∧ RDc M5 T ∧ FrR M M5 := hI
          replace ih : ∀ (M5 : Nat → Fn) (_ : M5 1 7 = nI (stS' T p) ∧ M5 1 8 = nI ((stS' T p) + (j + 1)) ∧ M5 1 6 = 1 ∧ RDc M5 T ∧ FrR M M5), lm_G X (d + 1) 26 106 0 0 99 [some (.ref 1)] [] (lm_T M5 v G) Q := fun M5 q => ih M5 q
          show lm_G X (d + 1) 26 106 0 0 99 [some (.ref 1)] [] (lm_T M5 v G) Q
          obtain ⟨s5, e5, k5, r5, f5⟩ := hI
          have hj5 : stS' T p + j < tN T := by omega
          have hb5 := hT.2 _ hj5
          have hc5 : ltS (tB T (stS' T p + j)) = true := run_in (c := fun i => ltS (tB T i)) (n := tN T) _ (stS' T p) rfl _ (by omega) (by omega)
          refine lm_G_sg 2 (pc' := 103) (L' := [some (.ref 1)]) (S' := [.int (M5 1 8)]) (σ' := lm_T M5 v G) rfl trivial ?_
          rw [show M5 1 8 = nI ((stS' T p) + j) from e5]
          refine lm_G_sg 2 (pc' := 107) (L' := [some (.ref 1)]) (S' := [.int (M5 1 3), .int (nI ((stS' T p) + j))]) (σ' := lm_T M5 v G) rfl trivial ?_
          rw [show M5 1 3 = nI (tN T) from r5.1]
          refine lm_G_br (b := (nI (tN T)) ≤ (nI ((stS' T p) + j))) (t := 256) (S' := []) rfl (fun hc => absurd hc (nI_ge hj5 (by omega))) (fun hc => ?_)
          refine lm_G_sg 4 (pc' := 118) (L' := [some (.ref 1)]) (S' := [.int (M5 1 8), .ref 2]) (σ' := lm_T M5 v G) rfl trivial ?_
          rw [show M5 1 8 = nI ((stS' T p) + j) from e5]
          refine lm_G_sg 1 (pc' := 119) (L' := [some (.ref 1)]) (S' := [.int (M5 2 (nI ((stS' T p) + j)).toNatClampNeg)]) (σ' := lm_T M5 v G) rfl ⟨(vp_in_nI (by omega) (by omega)), trivial, trivial⟩ ?_
          rw [show (nI ((stS' T p) + j)).toNatClampNeg = ((stS' T p) + j) from nI_clamp (by omega)]
          rw [show M5 2 ((stS' T p) + j) = sB (tB T ((stS' T p) + j)) from r5.2 ((stS' T p) + j) (by omega)]
          refine lm_G_ca (j := 28) (as := [.int (sB (tB T ((stS' T p) + j)))]) (rest := []) rfl (Or.inl rfl) (Nat.le_of_ble_eq_true rfl) (Nat.le_of_ble_eq_true rfl) (Nat.le_of_ble_eq_true rfl) (Nat.le_of_ble_eq_true rfl) rfl ?_
          refine c_isLetter hb5 ?_
          show lm_G X (d + 1) 26 106 0 0 122 [some (.ref 1)] [.int (b2i (ltS (tB T ((stS' T p) + j))))] (lm_T M5 v G) Q
          refine lm_G_br (b := (b2i (ltS (tB T ((stS' T p) + j)))) = 0) (t := 256) (S' := []) rfl (fun h6 => absurd h6 (by rw [hc5]; decide)) (fun h6 => ?_)
          refine lm_G_sg 3 (pc' := 130) (L' := [some (.ref 1)]) (S' := [.int (M5 1 8), .ref 1]) (σ' := lm_T M5 v G) rfl trivial ?_
          rw [show M5 1 8 = nI ((stS' T p) + j) from e5]
          refine lm_G_sg 2 (pc' := 132) (L' := [some (.ref 1)]) (S' := [.int ((nI ((stS' T p) + j)) + 1), .ref 1]) (σ' := lm_T M5 v G) rfl trivial ?_
          rw [show (nI ((stS' T p) + j)) + 1 = nI (((stS' T p) + j) + 1) from nI_add ((stS' T p) + j) 1]
          refine lm_G_sg 2 (pc' := 99) (L' := [some (.ref 1)]) (S' := []) (σ' := lm_T (lm_wr M5 1 8 (nI (((stS' T p) + j) + 1))) v G) rfl ⟨trivial, trivial, trivial⟩ ?_
          exact ih _ (⟨(wr_at (by decide)).trans s5, wr_same, (wr_at (by decide)).trans k5, ⟨(wr_at (by decide)).trans r5.1, r5.2⟩, FrR_w f5 (by decide)⟩)
        ·
          revert hI
          revert zz
          intro M5 hI
          replace hI : M5 1 7 = nI (stS' T p) ∧ M5 1 8 = nI ((stS' T p) + (enS T p - (stS' T p))) ∧ M5 1 6 = 1 ∧ RDc M5 T ∧ FrR M M5 := hI
          show lm_G X (d + 1) 26 106 0 0 99 [some (.ref 1)] [] (lm_T M5 v G) Q
          rw [show stS' T p + (enS T p - stS' T p) = enS T p by omega] at hI
          obtain ⟨s5, e5, k5, r5, f5⟩ := hI
          refine lm_G_sg 2 (pc' := 103) (L' := [some (.ref 1)]) (S' := [.int (M5 1 8)]) (σ' := lm_T M5 v G) rfl trivial ?_
          rw [show M5 1 8 = nI (enS T p) from e5]
          refine lm_G_sg 2 (pc' := 107) (L' := [some (.ref 1)]) (S' := [.int (M5 1 3), .int (nI (enS T p))]) (σ' := lm_T M5 v G) rfl trivial ?_
          rw [show M5 1 3 = nI (tN T) from r5.1]
          refine lm_G_br (b := (nI (tN T)) ≤ (nI (enS T p))) (t := 256) (S' := []) rfl (fun h6 => ?_) (fun h6 => ?_)
          ·
            exact lm_G_re rfl trivial (Nat.zero_le _) (Nat.zero_le _) (hQ _ ⟨r5, k5.trans (by rw [k1]; rfl), s5, e5, fun w => absurd (k1.symm.trans w) (by decide)⟩ f5)
          ·
            have hl5 : enS T p < tN T := Nat.lt_of_not_le (fun w => h6 (nI_le w (by omega)))
            have hb5 := hT.2 _ hl5
            have hc5 : ltS (tB T (enS T p)) = false := by
              have := run_e (c := fun i => ltS (tB T i)) (n := tN T) _ (stS' T p) rfl (by rw [← ek]; exact hl5)
              rw [← ek] at this
              exact this
            refine lm_G_sg 4 (pc' := 118) (L' := [some (.ref 1)]) (S' := [.int (M5 1 8), .ref 2]) (σ' := lm_T M5 v G) rfl trivial ?_
            rw [show M5 1 8 = nI (enS T p) from e5]
            refine lm_G_sg 1 (pc' := 119) (L' := [some (.ref 1)]) (S' := [.int (M5 2 (nI (enS T p)).toNatClampNeg)]) (σ' := lm_T M5 v G) rfl ⟨(vp_in_nI (by omega) (by omega)), trivial, trivial⟩ ?_
            rw [show (nI (enS T p)).toNatClampNeg = (enS T p) from nI_clamp (by omega)]
            rw [show M5 2 (enS T p) = sB (tB T (enS T p)) from r5.2 (enS T p) (by omega)]
            refine lm_G_ca (j := 28) (as := [.int (sB (tB T (enS T p)))]) (rest := []) rfl (Or.inl rfl) (Nat.le_of_ble_eq_true rfl) (Nat.le_of_ble_eq_true rfl) (Nat.le_of_ble_eq_true rfl) (Nat.le_of_ble_eq_true rfl) rfl ?_
            refine c_isLetter hb5 ?_
            show lm_G X (d + 1) 26 106 0 0 122 [some (.ref 1)] [.int (b2i (ltS (tB T (enS T p))))] (lm_T M5 v G) Q
            refine lm_G_br (b := (b2i (ltS (tB T (enS T p)))) = 0) (t := 256) (S' := []) rfl (fun h7 => ?_) (fun h7 => absurd (by rw [hc5]; rfl) h7)
            exact lm_G_re rfl trivial (Nat.zero_le _) (Nat.zero_le _) (hQ _ ⟨r5, k5.trans (by rw [k1]; rfl), s5, e5, fun w => absurd (k1.symm.trans w) (by decide)⟩ f5)
        ·
          try dsimp only
          exact ⟨s4, e4, k4, r4, f4⟩
      ·
        have l4 := b2i_0 h4
        refine lm_G_sg 4 (pc' := 146) (L' := [some (.ref 1)]) (S' := [.int (M3 1 7), .ref 2]) (σ' := lm_T M3 v G) rfl trivial ?_
        rw [show M3 1 7 = nI (stS' T p) from s3]
        refine lm_G_sg 1 (pc' := 147) (L' := [some (.ref 1)]) (S' := [.int (M3 2 (nI (stS' T p)).toNatClampNeg)]) (σ' := lm_T M3 v G) rfl ⟨(vp_in_nI (by omega) (by omega)), trivial, trivial⟩ ?_
        rw [show (nI (stS' T p)).toNatClampNeg = (stS' T p) from nI_clamp (by omega)]
        rw [show M3 2 (stS' T p) = sB (tB T (stS' T p)) from r3.2 (stS' T p) (by omega)]
        refine lm_G_ca (j := 29) (as := [.int (sB (tB T (stS' T p)))]) (rest := []) rfl (Or.inl rfl) (Nat.le_of_ble_eq_true rfl) (Nat.le_of_ble_eq_true rfl) (Nat.le_of_ble_eq_true rfl) (Nat.le_of_ble_eq_true rfl) rfl ?_
        refine c_isDigit hbb ?_
        show lm_G X (d + 1) 26 106 0 0 150 [some (.ref 1)] [.int (b2i (dgS (tB T (stS' T p))))] (lm_T M3 v G) Q
        refine lm_G_br (b := (b2i (dgS (tB T (stS' T p)))) = 0) (t := 241) (S' := []) rfl (fun h5 => ?_) (fun h5 => ?_)
        rotate_left
        ·
          have k1 := kn_2 hl l4 (b2i_1 h5)
          have ek := en_2 k1
          refine lm_G_sg 3 (pc' := 158) (L' := [some (.ref 1)]) (S' := []) (σ' := lm_T (lm_wr M3 1 6 2) v G) rfl ⟨trivial, trivial, trivial⟩ ?_
          have s4 : (lm_wr M3 1 6 2) 1 7 = nI (stS' T p) := (wr_at (by decide)).trans s3
          have e4 : (lm_wr M3 1 6 2) 1 8 = nI ((stS' T p) + 0) := (wr_at (by decide)).trans e3
          have k4 : (lm_wr M3 1 6 2) 1 6 = 2 := wr_same
          have u4 : (lm_wr M3 1 6 2) 1 9 = 0 := (wr_at (by decide)).trans u3
          have r4 : RDc (lm_wr M3 1 6 2) T := ⟨(wr_at (by decide)).trans r3.1, r3.2⟩
          have f4 : FrR M (lm_wr M3 1 6 2) := FrR_w f3 (by decide)
          revert s4 e4 k4 u4 r4 f4
          generalize lm_wr M3 1 6 2 = M4
          intro s4 e4 k4 u4 r4 f4
          refine lm_ind (α := (Nat → Fn)) (St := fun (j : Nat) zz => (fun (M5 : Nat → Fn) => lm_G X (d + 1) 26 106 0 0 158 [some (.ref 1)] [] (lm_T M5 v G) Q) zz) (Inv := fun (j : Nat) zz => (fun (M5 : Nat → Fn) => M5 1 7 = nI (stS' T p) ∧ M5 1 8 = nI ((stS' T p) + j) ∧ M5 1 6 = 2 ∧ RDc M5 T ∧ FrR M M5 ∧ (j ≤ 4 → M5 1 9 = nI (nmF T (stS' T p) j))) zz) (enS T p - (stS' T p)) (fun j zz hj hI ih => ?_) (fun zz hI => ?_) (0) M4 (by omega) ?_
          ·
            revert ih hI
            revert zz
            intro M5 hI ih
            replace hI : M5 1 7 = nI (stS' T p) ∧ M5 1 8 = nI ((stS' T p) + j) ∧ M5 1 6 = 2 ∧ RDc M5 T ∧ FrR M M5 ∧ (j ≤ 4 → M5 1 9 = nI (nmF T (stS' T p) j)) := hI
            replace ih : ∀ (M5 : Nat → Fn) (_ : M5 1 7 = nI (stS' T p) ∧ M5 1 8 = nI ((stS' T p) + (j + 1)) ∧ M5 1 6 = 2 ∧ RDc M5 T ∧ FrR M M5 ∧ ((j + 1) ≤ 4 → M5 1 9 = nI (nmF T (stS' T p) (j + 1)))), lm_G X (d + 1) 26 106 0 0 158 [some (.ref 1)] [] (lm_T M5 v G) Q := fun M5 q => ih M5 q
            show lm_G X (d + 1) 26 106 0 0 158 [some (.ref 1)] [] (lm_T M5 v G) Q
            obtain ⟨s5, e5, k5, r5, f5, u5⟩ := hI
            have hj5 : stS' T p + j < tN T := by omega
            have hb5 := hT.2 _ hj5
            have hc5 : dgS (tB T (stS' T p + j)) = true := run_in (c := fun i => dgS (tB T i)) (n := tN T) _ (stS' T p) rfl _ (by omega) (by omega)
            have hd5 := dg_iff.mp hc5
            refine lm_G_sg 2 (pc' := 162) (L' := [some (.ref 1)]) (S' := [.int (M5 1 8)]) (σ' := lm_T M5 v G) rfl trivial ?_
            rw [show M5 1 8 = nI ((stS' T p) + j) from e5]
            refine lm_G_sg 2 (pc' := 166) (L' := [some (.ref 1)]) (S' := [.int (M5 1 3), .int (nI ((stS' T p) + j))]) (σ' := lm_T M5 v G) rfl trivial ?_
            rw [show M5 1 3 = nI (tN T) from r5.1]
            refine lm_G_br (b := (nI (tN T)) ≤ (nI ((stS' T p) + j))) (t := 256) (S' := []) rfl (fun hc => absurd hc (nI_ge hj5 (by omega))) (fun hc => ?_)
            refine lm_G_sg 4 (pc' := 177) (L' := [some (.ref 1)]) (S' := [.int (M5 1 8), .ref 2]) (σ' := lm_T M5 v G) rfl trivial ?_
            rw [show M5 1 8 = nI ((stS' T p) + j) from e5]
            refine lm_G_sg 1 (pc' := 178) (L' := [some (.ref 1)]) (S' := [.int (M5 2 (nI ((stS' T p) + j)).toNatClampNeg)]) (σ' := lm_T M5 v G) rfl ⟨(vp_in_nI (by omega) (by omega)), trivial, trivial⟩ ?_
            rw [show (nI ((stS' T p) + j)).toNatClampNeg = ((stS' T p) + j) from nI_clamp (by omega)]
            rw [show M5 2 ((stS' T p) + j) = sB (tB T ((stS' T p) + j)) from r5.2 ((stS' T p) + j) (by omega)]
            refine lm_G_ca (j := 29) (as := [.int (sB (tB T ((stS' T p) + j)))]) (rest := []) rfl (Or.inl rfl) (Nat.le_of_ble_eq_true rfl) (Nat.le_of_ble_eq_true rfl) (Nat.le_of_ble_eq_true rfl) (Nat.le_of_ble_eq_true rfl) rfl ?_
            refine c_isDigit hb5 ?_
            show lm_G X (d + 1) 26 106 0 0 181 [some (.ref 1)] [.int (b2i (dgS (tB T ((stS' T p) + j))))] (lm_T M5 v G) Q
            refine lm_G_br (b := (b2i (dgS (tB T ((stS' T p) + j)))) = 0) (t := 256) (S' := []) rfl (fun h6 => absurd h6 (by rw [hc5]; decide)) (fun h6 => ?_)
            refine lm_G_sg 3 (pc' := 189) (L' := [some (.ref 1)]) (S' := [.int (M5 1 8), .ref 1]) (σ' := lm_T M5 v G) rfl trivial ?_
            rw [show M5 1 8 = nI ((stS' T p) + j) from e5]
            refine lm_G_sg 2 (pc' := 193) (L' := [some (.ref 1)]) (S' := [.int (M5 1 7), .int (nI ((stS' T p) + j)), .ref 1]) (σ' := lm_T M5 v G) rfl trivial ?_
            rw [show M5 1 7 = nI (stS' T p) from s5]
            refine lm_G_sg 1 (pc' := 194) (L' := [some (.ref 1)]) (S' := [.int ((nI ((stS' T p) + j)) - (nI (stS' T p))), .ref 1]) (σ' := lm_T M5 v G) rfl trivial ?_
            rw [show (nI ((stS' T p) + j)) - (nI (stS' T p)) = nI j from by rw [nI_sub (by omega)]; congr 1; omega]
            refine lm_G_sg 1 (pc' := 195) (L' := [some (.ref 1)]) (S' := [.int 4, .int (nI j), .ref 1]) (σ' := lm_T M5 v G) rfl trivial ?_
            refine lm_G_br (b := 4 ≤ (nI j)) (t := 221) (S' := [.ref 1]) rfl (fun h7 => ?_) (fun h7 => ?_)
            rotate_left
            ·
              have j4 : j < 4 := Nat.lt_of_not_le (fun w => h7 (nI_le (a := 4) w (by omega)))
              have nl : nmF T (stS' T p) j < 10 ^ j := nm_lt j (fun i hi => run_in (c := fun i => dgS (tB T i)) (n := tN T) _ (stS' T p) rfl _ (by omega) (by omega))
              have n4 : 10 ^ j ≤ 10 ^ 3 := Nat.pow_le_pow_right (by omega) (by omega)
              refine lm_G_sg 2 (pc' := 202) (L' := [some (.ref 1)]) (S' := [.int (M5 1 9), .ref 1]) (σ' := lm_T M5 v G) rfl trivial ?_
              rw [show M5 1 9 = nI (nmF T (stS' T p) j) from u5 (by omega)]
              refine lm_G_sg 2 (pc' := 205) (L' := [some (.ref 1)]) (S' := [.int ((nI (nmF T (stS' T p) j)) * 10), .ref 1]) (σ' := lm_T M5 v G) rfl trivial ?_
              rw [show (nI (nmF T (stS' T p) j)) * 10 = nI ((nmF T (stS' T p) j) * 10) from pk_mul (nmF T (stS' T p) j) 10]
              refine lm_G_sg 4 (pc' := 213) (L' := [some (.ref 1)]) (S' := [.int (M5 1 8), .ref 2, .int (nI ((nmF T (stS' T p) j) * 10)), .ref 1]) (σ' := lm_T M5 v G) rfl trivial ?_
              rw [show M5 1 8 = nI ((stS' T p) + j) from e5]
              refine lm_G_sg 1 (pc' := 214) (L' := [some (.ref 1)]) (S' := [.int (M5 2 (nI ((stS' T p) + j)).toNatClampNeg), .int (nI ((nmF T (stS' T p) j) * 10)), .ref 1]) (σ' := lm_T M5 v G) rfl ⟨(vp_in_nI (by omega) (by omega)), trivial, trivial⟩ ?_
              rw [show (nI ((stS' T p) + j)).toNatClampNeg = ((stS' T p) + j) from nI_clamp (by omega)]
              rw [show M5 2 ((stS' T p) + j) = sB (tB T ((stS' T p) + j)) from r5.2 ((stS' T p) + j) (by omega)]
              rw [sB_d _ hb5 hd5.1 hd5.2]
              refine lm_G_sg 1 (pc' := 215) (L' := [some (.ref 1)]) (S' := [.int ((nI ((nmF T (stS' T p) j) * 10)) + (nI (tB T ((stS' T p) + j)))), .ref 1]) (σ' := lm_T M5 v G) rfl trivial ?_
              rw [show (nI ((nmF T (stS' T p) j) * 10)) + (nI (tB T ((stS' T p) + j))) = nI (((nmF T (stS' T p) j) * 10) + (tB T ((stS' T p) + j))) from nI_add ((nmF T (stS' T p) j) * 10) (tB T ((stS' T p) + j))]
              refine lm_G_sg 2 (pc' := 218) (L' := [some (.ref 1)]) (S' := [.int ((nI (((nmF T (stS' T p) j) * 10) + (tB T ((stS' T p) + j)))) - 48), .ref 1]) (σ' := lm_T M5 v G) rfl trivial ?_
              rw [show (nI (((nmF T (stS' T p) j) * 10) + (tB T ((stS' T p) + j)))) - 48 = nI (nmF T (stS' T p) (j + 1)) from by
                rw [show (48 : Int32) = nI 48 from rfl, nI_sub (by omega), nm_s]
                congr 1
                omega]
              refine lm_G_sg 5 (pc' := 233) (L' := [some (.ref 1)]) (S' := [.int (M5 1 8), .ref 1]) (σ' := lm_T (lm_wr M5 1 9 (nI (nmF T (stS' T p) (j + 1)))) v G) rfl ⟨trivial, trivial, trivial⟩ ?_
              rw [show M5 1 8 = nI ((stS' T p) + j) from e5]
              refine lm_G_sg 2 (pc' := 235) (L' := [some (.ref 1)]) (S' := [.int ((nI ((stS' T p) + j)) + 1), .ref 1]) (σ' := lm_T (lm_wr M5 1 9 (nI (nmF T (stS' T p) (j + 1)))) v G) rfl trivial ?_
              rw [show (nI ((stS' T p) + j)) + 1 = nI (((stS' T p) + j) + 1) from nI_add ((stS' T p) + j) 1]
              refine lm_G_sg 2 (pc' := 158) (L' := [some (.ref 1)]) (S' := []) (σ' := lm_T (lm_wr (lm_wr M5 1 9 (nI (nmF T (stS' T p) (j + 1)))) 1 8 (nI (((stS' T p) + j) + 1))) v G) rfl ⟨trivial, trivial, trivial⟩ ?_
              exact ih _ (⟨(wr_at (by decide)).trans ((wr_at (by decide)).trans s5), wr_same, (wr_at (by decide)).trans ((wr_at (by decide)).trans k5), ⟨(wr_at (by decide)).trans ((wr_at (by decide)).trans r5.1), r5.2⟩, FrR_w (FrR_w f5 (by decide)) (by decide), fun _ => (wr_at (by decide)).trans wr_same⟩)
            ·
              have j4 : ¬ j < 4 := fun w => nI_ge (b := 4) w (by omega) h7
              refine lm_G_sg 6 (pc' := 233) (L' := [some (.ref 1)]) (S' := [.int (M5 1 8), .ref 1]) (σ' := lm_T (lm_wr M5 1 9 (M5 1 9)) v G) rfl ⟨trivial, trivial, trivial⟩ ?_
              rw [show M5 1 8 = nI ((stS' T p) + j) from e5]
              refine lm_G_sg 2 (pc' := 235) (L' := [some (.ref 1)]) (S' := [.int ((nI ((stS' T p) + j)) + 1), .ref 1]) (σ' := lm_T (lm_wr M5 1 9 (M5 1 9)) v G) rfl trivial ?_
              rw [show (nI ((stS' T p) + j)) + 1 = nI (((stS' T p) + j) + 1) from nI_add ((stS' T p) + j) 1]
              refine lm_G_sg 2 (pc' := 158) (L' := [some (.ref 1)]) (S' := []) (σ' := lm_T (lm_wr (lm_wr M5 1 9 (M5 1 9)) 1 8 (nI (((stS' T p) + j) + 1))) v G) rfl ⟨trivial, trivial, trivial⟩ ?_
              exact ih _ (⟨(wr_at (by decide)).trans ((wr_at (by decide)).trans s5), wr_same, (wr_at (by decide)).trans ((wr_at (by decide)).trans k5), ⟨(wr_at (by decide)).trans ((wr_at (by decide)).trans r5.1), r5.2⟩, FrR_w (FrR_w f5 (by decide)) (by decide), fun w => by omega⟩)
          ·
            revert hI
            revert zz
            intro M5 hI
            replace hI : M5 1 7 = nI (stS' T p) ∧ M5 1 8 = nI ((stS' T p) + (enS T p - (stS' T p))) ∧ M5 1 6 = 2 ∧ RDc M5 T ∧ FrR M M5 ∧ ((enS T p - (stS' T p)) ≤ 4 → M5 1 9 = nI (nmF T (stS' T p) (enS T p - (stS' T p)))) := hI
            show lm_G X (d + 1) 26 106 0 0 158 [some (.ref 1)] [] (lm_T M5 v G) Q
            rw [show stS' T p + (enS T p - stS' T p) = enS T p by omega] at hI
            obtain ⟨s5, e5, k5, r5, f5, u5⟩ := hI
            refine lm_G_sg 2 (pc' := 162) (L' := [some (.ref 1)]) (S' := [.int (M5 1 8)]) (σ' := lm_T M5 v G) rfl trivial ?_
            rw [show M5 1 8 = nI (enS T p) from e5]
            refine lm_G_sg 2 (pc' := 166) (L' := [some (.ref 1)]) (S' := [.int (M5 1 3), .int (nI (enS T p))]) (σ' := lm_T M5 v G) rfl trivial ?_
            rw [show M5 1 3 = nI (tN T) from r5.1]
            refine lm_G_br (b := (nI (tN T)) ≤ (nI (enS T p))) (t := 256) (S' := []) rfl (fun h6 => ?_) (fun h6 => ?_)
            ·
              exact lm_G_re rfl trivial (Nat.zero_le _) (Nat.zero_le _) (hQ _ ⟨r5, k5.trans (by rw [k1]; rfl), s5, e5, fun _ w => u5 w⟩ f5)
            ·
              have hl5 : enS T p < tN T := Nat.lt_of_not_le (fun w => h6 (nI_le w (by omega)))
              have hb5 := hT.2 _ hl5
              have hc5 : dgS (tB T (enS T p)) = false := by
                have := run_e (c := fun i => dgS (tB T i)) (n := tN T) _ (stS' T p) rfl (by rw [← ek]; exact hl5)
                rw [← ek] at this
                exact this
              refine lm_G_sg 4 (pc' := 177) (L' := [some (.ref 1)]) (S' := [.int (M5 1 8), .ref 2]) (σ' := lm_T M5 v G) rfl trivial ?_
              rw [show M5 1 8 = nI (enS T p) from e5]
              refine lm_G_sg 1 (pc' := 178) (L' := [some (.ref 1)]) (S' := [.int (M5 2 (nI (enS T p)).toNatClampNeg)]) (σ' := lm_T M5 v G) rfl ⟨(vp_in_nI (by omega) (by omega)), trivial, trivial⟩ ?_
              rw [show (nI (enS T p)).toNatClampNeg = (enS T p) from nI_clamp (by omega)]
              rw [show M5 2 (enS T p) = sB (tB T (enS T p)) from r5.2 (enS T p) (by omega)]
              refine lm_G_ca (j := 29) (as := [.int (sB (tB T (enS T p)))]) (rest := []) rfl (Or.inl rfl) (Nat.le_of_ble_eq_true rfl) (Nat.le_of_ble_eq_true rfl) (Nat.le_of_ble_eq_true rfl) (Nat.le_of_ble_eq_true rfl) rfl ?_
              refine c_isDigit hb5 ?_
              show lm_G X (d + 1) 26 106 0 0 181 [some (.ref 1)] [.int (b2i (dgS (tB T (enS T p))))] (lm_T M5 v G) Q
              refine lm_G_br (b := (b2i (dgS (tB T (enS T p)))) = 0) (t := 256) (S' := []) rfl (fun h7 => ?_) (fun h7 => absurd (by rw [hc5]; rfl) h7)
              exact lm_G_re rfl trivial (Nat.zero_le _) (Nat.zero_le _) (hQ _ ⟨r5, k5.trans (by rw [k1]; rfl), s5, e5, fun _ w => u5 w⟩ f5)
          ·
            try dsimp only
            exact ⟨s4, e4, k4, r4, f4, fun _ => u4⟩
        ·
          have k1 := kn_3 hl l4 (b2i_0 h5)
          have ek := en_3 k1
          refine lm_G_sg 6 (pc' := 251) (L' := [some (.ref 1)]) (S' := [.int (M3 1 8), .ref 1]) (σ' := lm_T (lm_wr M3 1 6 3) v G) rfl ⟨trivial, trivial, trivial⟩ ?_
          rw [show M3 1 8 = nI (stS' T p) from e3]
          refine lm_G_sg 2 (pc' := 253) (L' := [some (.ref 1)]) (S' := [.int ((nI (stS' T p)) + 1), .ref 1]) (σ' := lm_T (lm_wr M3 1 6 3) v G) rfl trivial ?_
          rw [show (nI (stS' T p)) + 1 = nI ((stS' T p) + 1) from nI_add (stS' T p) 1]
          refine lm_G_sg 1 (pc' := 256) (L' := [some (.ref 1)]) (S' := []) (σ' := lm_T (lm_wr (lm_wr M3 1 6 3) 1 8 (nI ((stS' T p) + 1))) v G) rfl ⟨trivial, trivial, trivial⟩ ?_
          exact lm_G_re rfl trivial (Nat.zero_le _) (Nat.zero_le _) (hQ _ ⟨⟨(wr_at (by decide)).trans ((wr_at (by decide)).trans r3.1), r3.2⟩, (wr_at (by decide)).trans (wr_same.trans (by rw [k1]; rfl)), (wr_at (by decide)).trans ((wr_at (by decide)).trans s3), by rw [ek]; exact wr_same, fun w => absurd (k1.symm.trans w) (by decide)⟩ (FrR_w (FrR_w f3 (by decide)) (by decide)))
  refine lm_ind (α := (Nat → Fn)) (St := fun (j : Nat) zz => (fun (M1 : Nat → Fn) => lm_G X (d + 1) 26 106 0 0 8 [some (.ref 1)] [] (lm_T M1 v G) Q) zz) (Inv := fun (j : Nat) zz => (fun (M1 : Nat → Fn) => M1 1 7 = nI (p + j) ∧ RDc M1 T ∧ FrR M M1) zz) ((stS' T p) - p) (fun j zz hj hI ih => ?_) (fun zz hI => ?_) (0) (lm_wr M 1 7 (nI p)) (by omega) ?_
  ·
    revert ih hI
    revert zz
    intro M1 hI ih
    replace hI : M1 1 7 = nI (p + j) ∧ RDc M1 T ∧ FrR M M1 := hI
    replace ih : ∀ (M1 : Nat → Fn) (_ : M1 1 7 = nI (p + (j + 1)) ∧ RDc M1 T ∧ FrR M M1), lm_G X (d + 1) 26 106 0 0 8 [some (.ref 1)] [] (lm_T M1 v G) Q := fun M1 q => ih M1 q
    show lm_G X (d + 1) 26 106 0 0 8 [some (.ref 1)] [] (lm_T M1 v G) Q
    obtain ⟨s1, r1, f1⟩ := hI
    have hj5 : p + j < tN T := by omega
    have hb5 := hT.2 _ hj5
    have hc5 : blS (tB T (p + j)) = true := run_in (c := fun i => blS (tB T i)) (n := tN T) _ p rfl _ (by omega) (show p + j < stS' T p by omega)
    refine lm_G_sg 2 (pc' := 12) (L' := [some (.ref 1)]) (S' := [.int (M1 1 7)]) (σ' := lm_T M1 v G) rfl trivial ?_
    rw [show M1 1 7 = nI (p + j) from s1]
    refine lm_G_sg 2 (pc' := 16) (L' := [some (.ref 1)]) (S' := [.int (M1 1 3), .int (nI (p + j))]) (σ' := lm_T M1 v G) rfl trivial ?_
    rw [show M1 1 3 = nI (tN T) from r1.1]
    refine lm_G_br (b := (nI (tN T)) ≤ (nI (p + j))) (t := 47) (S' := []) rfl (fun hc => absurd hc (nI_ge hj5 (by omega))) (fun hc => ?_)
    refine lm_G_sg 4 (pc' := 27) (L' := [some (.ref 1)]) (S' := [.int (M1 1 7), .ref 2]) (σ' := lm_T M1 v G) rfl trivial ?_
    rw [show M1 1 7 = nI (p + j) from s1]
    refine lm_G_sg 1 (pc' := 28) (L' := [some (.ref 1)]) (S' := [.int (M1 2 (nI (p + j)).toNatClampNeg)]) (σ' := lm_T M1 v G) rfl ⟨(vp_in_nI (by omega) (by omega)), trivial, trivial⟩ ?_
    rw [show (nI (p + j)).toNatClampNeg = (p + j) from nI_clamp (by omega)]
    rw [show M1 2 (p + j) = sB (tB T (p + j)) from r1.2 (p + j) (by omega)]
    refine lm_G_ca (j := 27) (as := [.int (sB (tB T (p + j)))]) (rest := []) rfl (Or.inl rfl) (Nat.le_of_ble_eq_true rfl) (Nat.le_of_ble_eq_true rfl) (Nat.le_of_ble_eq_true rfl) (Nat.le_of_ble_eq_true rfl) rfl ?_
    refine c_isBlank hb5 ?_
    show lm_G X (d + 1) 26 106 0 0 31 [some (.ref 1)] [.int (b2i (blS (tB T (p + j))))] (lm_T M1 v G) Q
    refine lm_G_br (b := (b2i (blS (tB T (p + j)))) = 0) (t := 47) (S' := []) rfl (fun h6 => absurd h6 (by rw [hc5]; decide)) (fun h6 => ?_)
    refine lm_G_sg 3 (pc' := 39) (L' := [some (.ref 1)]) (S' := [.int (M1 1 7), .ref 1]) (σ' := lm_T M1 v G) rfl trivial ?_
    rw [show M1 1 7 = nI (p + j) from s1]
    refine lm_G_sg 2 (pc' := 41) (L' := [some (.ref 1)]) (S' := [.int ((nI (p + j)) + 1), .ref 1]) (σ' := lm_T M1 v G) rfl trivial ?_
    rw [show (nI (p + j)) + 1 = nI ((p + j) + 1) from nI_add (p + j) 1]
    refine lm_G_sg 2 (pc' := 8) (L' := [some (.ref 1)]) (S' := []) (σ' := lm_T (lm_wr M1 1 7 (nI ((p + j) + 1))) v G) rfl ⟨trivial, trivial, trivial⟩ ?_
    exact ih _ (⟨wr_same, ⟨(wr_at (by decide)).trans r1.1, r1.2⟩, FrR_w f1 (by decide)⟩)
  ·
    revert hI
    revert zz
    intro M1 hI
    replace hI : M1 1 7 = nI (p + ((stS' T p) - p)) ∧ RDc M1 T ∧ FrR M M1 := hI
    show lm_G X (d + 1) 26 106 0 0 8 [some (.ref 1)] [] (lm_T M1 v G) Q
    rw [show p + (stS' T p - p) = stS' T p by omega] at hI
    obtain ⟨s1, r1, f1⟩ := hI
    refine lm_G_sg 2 (pc' := 12) (L' := [some (.ref 1)]) (S' := [.int (M1 1 7)]) (σ' := lm_T M1 v G) rfl trivial ?_
    rw [show M1 1 7 = nI (stS' T p) from s1]
    refine lm_G_sg 2 (pc' := 16) (L' := [some (.ref 1)]) (S' := [.int (M1 1 3), .int (nI (stS' T p))]) (σ' := lm_T M1 v G) rfl trivial ?_
    rw [show M1 1 3 = nI (tN T) from r1.1]
    refine lm_G_br (b := (nI (tN T)) ≤ (nI (stS' T p))) (t := 47) (S' := []) rfl (fun h6 => ?_) (fun h6 => ?_)
    ·
      exact k47 _ ⟨s1, r1, f1⟩
    ·
      have hl5 : stS' T p < tN T := Nat.lt_of_not_le (fun w => h6 (nI_le w (by omega)))
      have hb5 := hT.2 _ hl5
      have hc5 : blS (tB T (stS' T p)) = false := run_e (c := fun i => blS (tB T i)) (n := tN T) _ p rfl hl5
      refine lm_G_sg 4 (pc' := 27) (L' := [some (.ref 1)]) (S' := [.int (M1 1 7), .ref 2]) (σ' := lm_T M1 v G) rfl trivial ?_
      rw [show M1 1 7 = nI (stS' T p) from s1]
      refine lm_G_sg 1 (pc' := 28) (L' := [some (.ref 1)]) (S' := [.int (M1 2 (nI (stS' T p)).toNatClampNeg)]) (σ' := lm_T M1 v G) rfl ⟨(vp_in_nI (by omega) (by omega)), trivial, trivial⟩ ?_
      rw [show (nI (stS' T p)).toNatClampNeg = (stS' T p) from nI_clamp (by omega)]
      rw [show M1 2 (stS' T p) = sB (tB T (stS' T p)) from r1.2 (stS' T p) (by omega)]
      refine lm_G_ca (j := 27) (as := [.int (sB (tB T (stS' T p)))]) (rest := []) rfl (Or.inl rfl) (Nat.le_of_ble_eq_true rfl) (Nat.le_of_ble_eq_true rfl) (Nat.le_of_ble_eq_true rfl) (Nat.le_of_ble_eq_true rfl) rfl ?_
      refine c_isBlank hb5 ?_
      show lm_G X (d + 1) 26 106 0 0 31 [some (.ref 1)] [.int (b2i (blS (tB T (stS' T p))))] (lm_T M1 v G) Q
      refine lm_G_br (b := (b2i (blS (tB T (stS' T p)))) = 0) (t := 47) (S' := []) rfl (fun h7 => ?_) (fun h7 => absurd (by rw [hc5]; rfl) h7)
      exact k47 _ ⟨s1, r1, f1⟩
  ·
    try dsimp only
    exact ⟨wr_same, ⟨(wr_at (by decide)).trans hr.1, hr.2⟩, FrR_w (FrR_rf _) (by decide)⟩
set_option maxRecDepth 10000 in
theorem c_isSign {X : lm_X} {d v : Nat} {M : Nat → Nat → Int32} {G : Nat → Nat → Int64} {Q : lm_O → lm_S → Prop} {T : Tx} {p c : Nat} (hT : okT T) (ht : RT M T p) (hp : p ≤ tN T) (hc : c < 128) (hQ : Q (.inl (some (.int (b2i (isSg T p c))))) (lm_T M v G)) : lm_Q X d 31 [.ref 1, .int (nI c)] (lm_T M v G) Q := by
  show lm_G X d 31 106 0 0 0 [some (.ref 1), some (.int (nI c))] [] (lm_T M v G) Q
  have kl := kn_le (T := T) (p := p)
  have el3 := (en_le hp).2.2
  have hn := hT.1
  refine lm_G_sg 2 (pc' := 4) (L' := [some (.ref 1), some (.int (nI c))]) (S' := [.int (M 1 6)]) (σ' := lm_T M v G) rfl trivial ?_
  rw [show M 1 6 = nI (knS T p) from ht.2.1]
  refine lm_G_sg 1 (pc' := 5) (L' := [some (.ref 1), some (.int (nI c))]) (S' := [.int 3, .int (nI (knS T p))]) (σ' := lm_T M v G) rfl trivial ?_
  refine lm_G_br (b := ¬ (nI (knS T p)) = 3) (t := 25) (S' := []) rfl (fun h1 => ?_) (fun h1 => ?_)
  ·
    have k3 : ¬ knS T p = 3 := fun w => h1 (by rw [w]; rfl)
    rw [show isSg T p c = false from by unfold isSg; rw [decide_eq_false k3]; rfl] at hQ
    refine lm_G_sg 1 (pc' := 26) (L' := [some (.ref 1), some (.int (nI c))]) (S' := [.int 0]) (σ' := lm_T M v G) rfl trivial ?_
    exact lm_G_re rfl (by decide) (Nat.zero_le _) (Nat.zero_le _) hQ
  ·
    have k3 : knS T p = 3 := (nI_eq (b := 3) (by omega) (by omega)).mp (Classical.not_not.mp h1)
    have hl := (el3 (by omega)).2
    have hbb := hT.2 _ hl
    refine lm_G_sg 4 (pc' := 16) (L' := [some (.ref 1), some (.int (nI c))]) (S' := [.int (M 1 7), .ref 2]) (σ' := lm_T M v G) rfl trivial ?_
    rw [show M 1 7 = nI (stS' T p) from ht.2.2.1]
    refine lm_G_sg 1 (pc' := 17) (L' := [some (.ref 1), some (.int (nI c))]) (S' := [.int (M 2 (nI (stS' T p)).toNatClampNeg)]) (σ' := lm_T M v G) rfl ⟨(vp_in_nI (by omega) (by omega)), trivial, trivial⟩ ?_
    rw [show (nI (stS' T p)).toNatClampNeg = (stS' T p) from nI_clamp (by omega)]
    rw [show M 2 (stS' T p) = sB (tB T (stS' T p)) from ht.1.2 (stS' T p) (by omega)]
    refine lm_G_sg 1 (pc' := 18) (L' := [some (.ref 1), some (.int (nI c))]) (S' := [.int (nI c), .int (sB (tB T (stS' T p)))]) (σ' := lm_T M v G) rfl trivial ?_
    refine lm_G_br (b := ¬ (sB (tB T (stS' T p))) = (nI c)) (t := 25) (S' := []) rfl (fun h2 => ?_) (fun h2 => ?_)
    ·
      rw [show isSg T p c = false from by unfold isSg; rw [decide_eq_false (p := tB T (stS' T p) = c) (fun w => h2 ((sB_eq _ hbb c hc).mpr w)), Bool.and_false]] at hQ
      refine lm_G_sg 1 (pc' := 26) (L' := [some (.ref 1), some (.int (nI c))]) (S' := [.int 0]) (σ' := lm_T M v G) rfl trivial ?_
      exact lm_G_re rfl (by decide) (Nat.zero_le _) (Nat.zero_le _) hQ
    ·
      rw [show isSg T p c = true from by unfold isSg; rw [decide_eq_true k3, decide_eq_true ((sB_eq _ hbb c hc).mp (Classical.not_not.mp h2))]; rfl] at hQ
      refine lm_G_sg 2 (pc' := 26) (L' := [some (.ref 1), some (.int (nI c))]) (S' := [.int 1]) (σ' := lm_T M v G) rfl trivial ?_
      exact lm_G_re rfl (by decide) (Nat.zero_le _) (Nat.zero_le _) hQ
def lgS (T : Tx) (p : Nat) : Bool := decide (knS T p = 2) && decide (4 < lnS T p)
set_option maxRecDepth 10000 in
theorem c_isLong {X : lm_X} {d v : Nat} {M : Nat → Nat → Int32} {G : Nat → Nat → Int64} {Q : lm_O → lm_S → Prop} {T : Tx} {p : Nat} (hT : okT T) (ht : RT M T p) (hp : p ≤ tN T) (hQ : Q (.inl (some (.int (b2i (lgS T p))))) (lm_T M v G)) : lm_Q X d 32 [.ref 1] (lm_T M v G) Q := by
  show lm_G X d 32 106 0 0 0 [some (.ref 1)] [] (lm_T M v G) Q
  have kl := kn_le (T := T) (p := p)
  obtain ⟨el1, el2, el3⟩ := en_le hp
  have hn := hT.1
  refine lm_G_sg 2 (pc' := 4) (L' := [some (.ref 1)]) (S' := [.int (M 1 6)]) (σ' := lm_T M v G) rfl trivial ?_
  rw [show M 1 6 = nI (knS T p) from ht.2.1]
  refine lm_G_sg 1 (pc' := 5) (L' := [some (.ref 1)]) (S' := [.int 2, .int (nI (knS T p))]) (σ' := lm_T M v G) rfl trivial ?_
  refine lm_G_br (b := ¬ (nI (knS T p)) = 2) (t := 25) (S' := []) rfl (fun h1 => ?_) (fun h1 => ?_)
  ·
    have k3 : ¬ knS T p = 2 := fun w => h1 (by rw [w]; rfl)
    rw [show lgS T p = false from by unfold lgS; rw [decide_eq_false k3]; rfl] at hQ
    refine lm_G_sg 1 (pc' := 26) (L' := [some (.ref 1)]) (S' := [.int 0]) (σ' := lm_T M v G) rfl trivial ?_
    exact lm_G_re rfl (by decide) (Nat.zero_le _) (Nat.zero_le _) hQ
  ·
    have k3 : knS T p = 2 := (nI_eq (b := 2) (by omega) (by omega)).mp (Classical.not_not.mp h1)
    refine lm_G_sg 2 (pc' := 12) (L' := [some (.ref 1)]) (S' := [.int (M 1 8)]) (σ' := lm_T M v G) rfl trivial ?_
    rw [show M 1 8 = nI (enS T p) from ht.2.2.2.1]
    refine lm_G_sg 2 (pc' := 16) (L' := [some (.ref 1)]) (S' := [.int (M 1 7), .int (nI (enS T p))]) (σ' := lm_T M v G) rfl trivial ?_
    rw [show M 1 7 = nI (stS' T p) from ht.2.2.1]
    refine lm_G_sg 1 (pc' := 17) (L' := [some (.ref 1)]) (S' := [.int ((nI (enS T p)) - (nI (stS' T p)))]) (σ' := lm_T M v G) rfl trivial ?_
    rw [show (nI (enS T p)) - (nI (stS' T p)) = nI (lnS T p) from nI_sub (by omega)]
    have ll : lnS T p ≤ 700 := by unfold lnS; omega
    refine lm_G_sg 1 (pc' := 18) (L' := [some (.ref 1)]) (S' := [.int 4, .int (nI (lnS T p))]) (σ' := lm_T M v G) rfl trivial ?_
    refine lm_G_br (b := (nI (lnS T p)) ≤ 4) (t := 25) (S' := []) rfl (fun h2 => ?_) (fun h2 => ?_)
    ·
      rw [show lgS T p = false from by unfold lgS; rw [decide_eq_false (p := 4 < lnS T p) (fun w => nI_ge (a := 4) w (by omega) h2), Bool.and_false]] at hQ
      refine lm_G_sg 1 (pc' := 26) (L' := [some (.ref 1)]) (S' := [.int 0]) (σ' := lm_T M v G) rfl trivial ?_
      exact lm_G_re rfl (by decide) (Nat.zero_le _) (Nat.zero_le _) hQ
    ·
      rw [show lgS T p = true from by unfold lgS; rw [decide_eq_true k3, decide_eq_true (Nat.lt_of_not_le (fun w => h2 (nI_le (b := 4) w (by omega))))]; rfl] at hQ
      refine lm_G_sg 2 (pc' := 26) (L' := [some (.ref 1)]) (S' := [.int 1]) (σ' := lm_T M v G) rfl trivial ?_
      exact lm_G_re rfl (by decide) (Nat.zero_le _) (Nat.zero_le _) hQ
set_option maxRecDepth 10000 in
theorem c_fail {X : lm_X} {d v : Nat} {M : Nat → Nat → Int32} {G : Nat → Nat → Int64} {Q : lm_O → lm_S → Prop} {x : Int32} (hQ : Q (.inl (some (.int 0))) (lm_T (lm_wr (lm_wr M 1 10 x) 1 11 (M 1 7)) v G)) : lm_Q X d 25 [.ref 1, .int x] (lm_T M v G) Q := by
  show lm_G X d 25 106 0 0 0 [some (.ref 1), some (.int x)] [] (lm_T M v G) Q
  refine lm_G_sg 8 (pc' := 14) (L' := [some (.ref 1), some (.int x)]) (S' := [.int 0]) (σ' := lm_T (lm_wr (lm_wr M 1 10 x) 1 11 (M 1 7)) v G) rfl ⟨trivial, trivial, trivial, trivial, trivial⟩ ?_
  exact lm_G_re rfl (by decide) (Nat.zero_le _) (Nat.zero_le _) hQ
def w0 : List Nat := [112, 101, 114, 115, 111, 110]
theorem w0_ok : ∀ j, j < 6 → (lm_wz 0).getD j 0 = nI (w0.getD j 0) ∧ w0.getD j 0 < 128 := by decide +kernel
set_option maxRecDepth 10000 in
theorem c_isWord0 {X : lm_X} {d v : Nat} {M : Nat → Nat → Int32} {G : Nat → Nat → Int64} {Q : lm_O → lm_S → Prop} {T : Tx} {p : Nat} (hT : okT T) (ht : RT M T p) (hp : p ≤ tN T) (hQ : Q (.inl (some (.int (b2i (isWd T p w0))))) (lm_T M v G)) : lm_Q X d 30 [.ref 1, .ref 1000] (lm_T M v G) Q := by
  show lm_G X d 30 106 0 0 0 [some (.ref 1), some (.ref 1000), none] [] (lm_T M v G) Q
  have kl := kn_le (T := T) (p := p)
  obtain ⟨el1, el2, el3⟩ := en_le hp
  have hn := hT.1
  refine lm_G_sg 2 (pc' := 4) (L' := [some (.ref 1), some (.ref 1000), none]) (S' := [.int (M 1 6)]) (σ' := lm_T M v G) rfl trivial ?_
  rw [show M 1 6 = nI (knS T p) from ht.2.1]
  refine lm_G_sg 1 (pc' := 5) (L' := [some (.ref 1), some (.ref 1000), none]) (S' := [.int 1, .int (nI (knS T p))]) (σ' := lm_T M v G) rfl trivial ?_
  refine lm_G_br (b := ¬ (nI (knS T p)) = 1) (t := 24) (S' := []) rfl (fun h1 => ?_) (fun h1 => ?_)
  ·
    have k3 : ¬ knS T p = 1 := fun w => h1 (by rw [w]; rfl)
    rw [show isWd T p w0 = false from by unfold isWd; rw [decide_eq_false k3]; rfl] at hQ
    refine lm_G_sg 1 (pc' := 25) (L' := [some (.ref 1), some (.ref 1000), none]) (S' := [.int 0]) (σ' := lm_T M v G) rfl trivial ?_
    exact lm_G_re rfl (by decide) (Nat.zero_le _) (Nat.zero_le _) hQ
  ·
    have k3 : knS T p = 1 := (nI_eq (b := 1) (by omega) (by omega)).mp (Classical.not_not.mp h1)
    refine lm_G_sg 2 (pc' := 12) (L' := [some (.ref 1), some (.ref 1000), none]) (S' := [.int (M 1 8)]) (σ' := lm_T M v G) rfl trivial ?_
    rw [show M 1 8 = nI (enS T p) from ht.2.2.2.1]
    refine lm_G_sg 2 (pc' := 16) (L' := [some (.ref 1), some (.ref 1000), none]) (S' := [.int (M 1 7), .int (nI (enS T p))]) (σ' := lm_T M v G) rfl trivial ?_
    rw [show M 1 7 = nI (stS' T p) from ht.2.2.1]
    refine lm_G_sg 1 (pc' := 17) (L' := [some (.ref 1), some (.ref 1000), none]) (S' := [.int ((nI (enS T p)) - (nI (stS' T p)))]) (σ' := lm_T M v G) rfl trivial ?_
    rw [show (nI (enS T p)) - (nI (stS' T p)) = nI (lnS T p) from nI_sub (by omega)]
    have ll : lnS T p ≤ 700 := by unfold lnS; omega
    refine lm_G_sg 2 (pc' := 21) (L' := [some (.ref 1), some (.ref 1000), none]) (S' := [.int (Int32.ofNat 6), .int (nI (lnS T p))]) (σ' := lm_T M v G) rfl ⟨trivial, (Nat.le_of_ble_eq_true rfl), trivial⟩ ?_
    refine lm_G_br (b := (nI (lnS T p)) = (Int32.ofNat 6)) (t := 26) (S' := []) rfl (fun h2 => ?_) (fun h2 => ?_)
    rotate_left
    ·
      have l3 : ¬ lnS T p = w0.length := fun w => h2 (by rw [w]; rfl)
      rw [show isWd T p w0 = false from by unfold isWd; rw [decide_eq_false l3, Bool.false_and, Bool.and_false]] at hQ
      refine lm_G_sg 1 (pc' := 25) (L' := [some (.ref 1), some (.ref 1000), none]) (S' := [.int 0]) (σ' := lm_T M v G) rfl trivial ?_
      exact lm_G_re rfl (by decide) (Nat.zero_le _) (Nat.zero_le _) hQ
    ·
      have l3 : lnS T p = 6 := (nI_eq (b := 6) (by omega) (by omega)).mp h2
      have le3 : enS T p - stS' T p = 6 := l3
      refine lm_G_sg 2 (pc' := 28) (L' := [some (.ref 1), some (.ref 1000), some (.int 0)]) (S' := []) (σ' := lm_T M v G) rfl trivial ?_
      refine lm_ind (α := Unit) (St := fun (j : Nat) zz => lm_G X d 30 106 0 0 28 [some (.ref 1), some (.ref 1000), some (.int (nI j))] [] (lm_T M v G) Q) (Inv := fun (j : Nat) zz => alB (fun i => decide (tB T (stS' T p + i) = w0.getD i 0)) j = true) (6) (fun j zz hj hI ih => ?_) (fun zz hI => ?_) (0) () (by omega) ?_
      ·
        replace hI : alB (fun i => decide (tB T (stS' T p + i) = w0.getD i 0)) j = true := hI
        replace ih : ∀ (_ : alB (fun i => decide (tB T (stS' T p + i) = w0.getD i 0)) (j + 1) = true), lm_G X d 30 106 0 0 28 [some (.ref 1), some (.ref 1000), some (.int (nI (j + 1)))] [] (lm_T M v G) Q := fun q => ih () q
        show lm_G X d 30 106 0 0 28 [some (.ref 1), some (.ref 1000), some (.int (nI j))] [] (lm_T M v G) Q
        have hbb := hT.2 (stS' T p + j) (by omega)
        obtain ⟨v1, v2⟩ := w0_ok j hj
        refine lm_G_sg 3 (pc' := 33) (L' := [some (.ref 1), some (.ref 1000), some (.int (nI j))]) (S' := [.int (Int32.ofNat 6), .int (nI j)]) (σ' := lm_T M v G) rfl ⟨trivial, (Nat.le_of_ble_eq_true rfl), trivial⟩ ?_
        refine lm_G_br (b := (Int32.ofNat 6) ≤ (nI j)) (t := 63) (S' := []) rfl (fun hc => absurd hc (nI_ge (b := 6) hj (by omega))) (fun hc => ?_)
        refine lm_G_sg 4 (pc' := 44) (L' := [some (.ref 1), some (.ref 1000), some (.int (nI j))]) (S' := [.int (M 1 7), .ref 2]) (σ' := lm_T M v G) rfl trivial ?_
        rw [show M 1 7 = nI (stS' T p) from ht.2.2.1]
        refine lm_G_sg 2 (pc' := 46) (L' := [some (.ref 1), some (.ref 1000), some (.int (nI j))]) (S' := [.int ((nI (stS' T p)) + (nI j)), .ref 2]) (σ' := lm_T M v G) rfl trivial ?_
        rw [show (nI (stS' T p)) + (nI j) = nI ((stS' T p) + j) from nI_add (stS' T p) j]
        refine lm_G_sg 1 (pc' := 47) (L' := [some (.ref 1), some (.ref 1000), some (.int (nI j))]) (S' := [.int (M 2 (nI ((stS' T p) + j)).toNatClampNeg)]) (σ' := lm_T M v G) rfl ⟨(vp_in_nI (by omega) (by omega)), trivial, trivial⟩ ?_
        rw [show (nI ((stS' T p) + j)).toNatClampNeg = ((stS' T p) + j) from nI_clamp (by omega)]
        rw [show M 2 ((stS' T p) + j) = sB (tB T ((stS' T p) + j)) from ht.1.2 ((stS' T p) + j) (by omega)]
        refine lm_G_sg 3 (pc' := 52) (L' := [some (.ref 1), some (.ref 1000), some (.int (nI j))]) (S' := [.int ((lm_wz 0).getD (nI j).toNatClampNeg 0), .int (sB (tB T ((stS' T p) + j)))]) (σ' := lm_T M v G) rfl ⟨(show vp_in _ 6 from vp_in_nI (by omega) (by omega)), (Nat.le_of_ble_eq_true rfl), trivial⟩ ?_
        rw [nI_clamp (n := j) (by omega), v1]
        refine lm_G_br (b := (sB (tB T ((stS' T p) + j))) = (nI (w0.getD j 0))) (t := 57) (S' := []) rfl (fun h5 => ?_) (fun h5 => ?_)
        ·
          refine lm_G_sg 1 (pc' := 60) (L' := [some (.ref 1), some (.ref 1000), some (.int ((nI j) + 1))]) (S' := []) (σ' := lm_T M v G) rfl trivial ?_
          rw [nI_1]
          refine lm_G_sg 1 (pc' := 28) (L' := [some (.ref 1), some (.ref 1000), some (.int (nI (j + 1)))]) (S' := []) (σ' := lm_T M v G) rfl trivial ?_
          exact ih  (by simp only [alB]; rw [hI, decide_eq_true ((sB_eq _ hbb _ v2).mp h5)]; rfl)
        ·
          have e5 : alB (fun i => decide (tB T (stS' T p + i) = w0.getD i 0)) 6 = false := al_f hj (decide_eq_false (fun w => h5 ((sB_eq _ hbb _ v2).mpr w)))
          rw [show isWd T p w0 = false from by unfold isWd; rw [show w0.length = 6 from rfl, e5, Bool.and_false, Bool.and_false]] at hQ
          refine lm_G_sg 1 (pc' := 56) (L' := [some (.ref 1), some (.ref 1000), some (.int (nI j))]) (S' := [.int 0]) (σ' := lm_T M v G) rfl trivial ?_
          exact lm_G_re rfl (by decide) (Nat.zero_le _) (Nat.zero_le _) hQ
      ·
        replace hI : alB (fun i => decide (tB T (stS' T p + i) = w0.getD i 0)) 6 = true := hI
        show lm_G X d 30 106 0 0 28 [some (.ref 1), some (.ref 1000), some (.int (nI 6))] [] (lm_T M v G) Q
        refine lm_G_sg 3 (pc' := 33) (L' := [some (.ref 1), some (.ref 1000), some (.int (nI 6))]) (S' := [.int (Int32.ofNat 6), .int (nI 6)]) (σ' := lm_T M v G) rfl ⟨trivial, (Nat.le_of_ble_eq_true rfl), trivial⟩ ?_
        refine lm_G_br (b := (Int32.ofNat 6) ≤ (nI 6)) (t := 63) (S' := []) rfl (fun hc => ?_) (fun hc => absurd (nI_le (a := 6) (Nat.le_refl _) (by omega)) hc)
        rw [show isWd T p w0 = true from by unfold isWd; rw [show w0.length = 6 from rfl, decide_eq_true k3, decide_eq_true l3, hI]; rfl] at hQ
        refine lm_G_sg 1 (pc' := 64) (L' := [some (.ref 1), some (.ref 1000), some (.int (nI 6))]) (S' := [.int 1]) (σ' := lm_T M v G) rfl trivial ?_
        exact lm_G_re rfl (by decide) (Nat.zero_le _) (Nat.zero_le _) hQ
      ·
        try dsimp only
        rfl
def w1 : List Nat := [119, 104, 105, 115, 116, 108, 101, 114]
theorem w1_ok : ∀ j, j < 8 → (lm_wz 1).getD j 0 = nI (w1.getD j 0) ∧ w1.getD j 0 < 128 := by decide +kernel
set_option maxRecDepth 10000 in
theorem c_isWord1 {X : lm_X} {d v : Nat} {M : Nat → Nat → Int32} {G : Nat → Nat → Int64} {Q : lm_O → lm_S → Prop} {T : Tx} {p : Nat} (hT : okT T) (ht : RT M T p) (hp : p ≤ tN T) (hQ : Q (.inl (some (.int (b2i (isWd T p w1))))) (lm_T M v G)) : lm_Q X d 30 [.ref 1, .ref 1001] (lm_T M v G) Q := by
  show lm_G X d 30 106 0 0 0 [some (.ref 1), some (.ref 1001), none] [] (lm_T M v G) Q
  have kl := kn_le (T := T) (p := p)
  obtain ⟨el1, el2, el3⟩ := en_le hp
  have hn := hT.1
  refine lm_G_sg 2 (pc' := 4) (L' := [some (.ref 1), some (.ref 1001), none]) (S' := [.int (M 1 6)]) (σ' := lm_T M v G) rfl trivial ?_
  rw [show M 1 6 = nI (knS T p) from ht.2.1]
  refine lm_G_sg 1 (pc' := 5) (L' := [some (.ref 1), some (.ref 1001), none]) (S' := [.int 1, .int (nI (knS T p))]) (σ' := lm_T M v G) rfl trivial ?_
  refine lm_G_br (b := ¬ (nI (knS T p)) = 1) (t := 24) (S' := []) rfl (fun h1 => ?_) (fun h1 => ?_)
  ·
    have k3 : ¬ knS T p = 1 := fun w => h1 (by rw [w]; rfl)
    rw [show isWd T p w1 = false from by unfold isWd; rw [decide_eq_false k3]; rfl] at hQ
    refine lm_G_sg 1 (pc' := 25) (L' := [some (.ref 1), some (.ref 1001), none]) (S' := [.int 0]) (σ' := lm_T M v G) rfl trivial ?_
    exact lm_G_re rfl (by decide) (Nat.zero_le _) (Nat.zero_le _) hQ
  ·
    have k3 : knS T p = 1 := (nI_eq (b := 1) (by omega) (by omega)).mp (Classical.not_not.mp h1)
    refine lm_G_sg 2 (pc' := 12) (L' := [some (.ref 1), some (.ref 1001), none]) (S' := [.int (M 1 8)]) (σ' := lm_T M v G) rfl trivial ?_
    rw [show M 1 8 = nI (enS T p) from ht.2.2.2.1]
    refine lm_G_sg 2 (pc' := 16) (L' := [some (.ref 1), some (.ref 1001), none]) (S' := [.int (M 1 7), .int (nI (enS T p))]) (σ' := lm_T M v G) rfl trivial ?_
    rw [show M 1 7 = nI (stS' T p) from ht.2.2.1]
    refine lm_G_sg 1 (pc' := 17) (L' := [some (.ref 1), some (.ref 1001), none]) (S' := [.int ((nI (enS T p)) - (nI (stS' T p)))]) (σ' := lm_T M v G) rfl trivial ?_
    rw [show (nI (enS T p)) - (nI (stS' T p)) = nI (lnS T p) from nI_sub (by omega)]
    have ll : lnS T p ≤ 700 := by unfold lnS; omega
    refine lm_G_sg 2 (pc' := 21) (L' := [some (.ref 1), some (.ref 1001), none]) (S' := [.int (Int32.ofNat 8), .int (nI (lnS T p))]) (σ' := lm_T M v G) rfl ⟨trivial, (Nat.le_of_ble_eq_true rfl), trivial⟩ ?_
    refine lm_G_br (b := (nI (lnS T p)) = (Int32.ofNat 8)) (t := 26) (S' := []) rfl (fun h2 => ?_) (fun h2 => ?_)
    rotate_left
    ·
      have l3 : ¬ lnS T p = w1.length := fun w => h2 (by rw [w]; rfl)
      rw [show isWd T p w1 = false from by unfold isWd; rw [decide_eq_false l3, Bool.false_and, Bool.and_false]] at hQ
      refine lm_G_sg 1 (pc' := 25) (L' := [some (.ref 1), some (.ref 1001), none]) (S' := [.int 0]) (σ' := lm_T M v G) rfl trivial ?_
      exact lm_G_re rfl (by decide) (Nat.zero_le _) (Nat.zero_le _) hQ
    ·
      have l3 : lnS T p = 8 := (nI_eq (b := 8) (by omega) (by omega)).mp h2
      have le3 : enS T p - stS' T p = 8 := l3
      refine lm_G_sg 2 (pc' := 28) (L' := [some (.ref 1), some (.ref 1001), some (.int 0)]) (S' := []) (σ' := lm_T M v G) rfl trivial ?_
      refine lm_ind (α := Unit) (St := fun (j : Nat) zz => lm_G X d 30 106 0 0 28 [some (.ref 1), some (.ref 1001), some (.int (nI j))] [] (lm_T M v G) Q) (Inv := fun (j : Nat) zz => alB (fun i => decide (tB T (stS' T p + i) = w1.getD i 0)) j = true) (8) (fun j zz hj hI ih => ?_) (fun zz hI => ?_) (0) () (by omega) ?_
      ·
        replace hI : alB (fun i => decide (tB T (stS' T p + i) = w1.getD i 0)) j = true := hI
        replace ih : ∀ (_ : alB (fun i => decide (tB T (stS' T p + i) = w1.getD i 0)) (j + 1) = true), lm_G X d 30 106 0 0 28 [some (.ref 1), some (.ref 1001), some (.int (nI (j + 1)))] [] (lm_T M v G) Q := fun q => ih () q
        show lm_G X d 30 106 0 0 28 [some (.ref 1), some (.ref 1001), some (.int (nI j))] [] (lm_T M v G) Q
        have hbb := hT.2 (stS' T p + j) (by omega)
        obtain ⟨v1, v2⟩ := w1_ok j hj
        refine lm_G_sg 3 (pc' := 33) (L' := [some (.ref 1), some (.ref 1001), some (.int (nI j))]) (S' := [.int (Int32.ofNat 8), .int (nI j)]) (σ' := lm_T M v G) rfl ⟨trivial, (Nat.le_of_ble_eq_true rfl), trivial⟩ ?_
        refine lm_G_br (b := (Int32.ofNat 8) ≤ (nI j)) (t := 63) (S' := []) rfl (fun hc => absurd hc (nI_ge (b := 8) hj (by omega))) (fun hc => ?_)
        refine lm_G_sg 4 (pc' := 44) (L' := [some (.ref 1), some (.ref 1001), some (.int (nI j))]) (S' := [.int (M 1 7), .ref 2]) (σ' := lm_T M v G) rfl trivial ?_
        rw [show M 1 7 = nI (stS' T p) from ht.2.2.1]
        refine lm_G_sg 2 (pc' := 46) (L' := [some (.ref 1), some (.ref 1001), some (.int (nI j))]) (S' := [.int ((nI (stS' T p)) + (nI j)), .ref 2]) (σ' := lm_T M v G) rfl trivial ?_
        rw [show (nI (stS' T p)) + (nI j) = nI ((stS' T p) + j) from nI_add (stS' T p) j]
        refine lm_G_sg 1 (pc' := 47) (L' := [some (.ref 1), some (.ref 1001), some (.int (nI j))]) (S' := [.int (M 2 (nI ((stS' T p) + j)).toNatClampNeg)]) (σ' := lm_T M v G) rfl ⟨(vp_in_nI (by omega) (by omega)), trivial, trivial⟩ ?_
        rw [show (nI ((stS' T p) + j)).toNatClampNeg = ((stS' T p) + j) from nI_clamp (by omega)]
        rw [show M 2 ((stS' T p) + j) = sB (tB T ((stS' T p) + j)) from ht.1.2 ((stS' T p) + j) (by omega)]
        refine lm_G_sg 3 (pc' := 52) (L' := [some (.ref 1), some (.ref 1001), some (.int (nI j))]) (S' := [.int ((lm_wz 1).getD (nI j).toNatClampNeg 0), .int (sB (tB T ((stS' T p) + j)))]) (σ' := lm_T M v G) rfl ⟨(show vp_in _ 8 from vp_in_nI (by omega) (by omega)), (Nat.le_of_ble_eq_true rfl), trivial⟩ ?_
        rw [nI_clamp (n := j) (by omega), v1]
        refine lm_G_br (b := (sB (tB T ((stS' T p) + j))) = (nI (w1.getD j 0))) (t := 57) (S' := []) rfl (fun h5 => ?_) (fun h5 => ?_)
        ·
          refine lm_G_sg 1 (pc' := 60) (L' := [some (.ref 1), some (.ref 1001), some (.int ((nI j) + 1))]) (S' := []) (σ' := lm_T M v G) rfl trivial ?_
          rw [nI_1]
          refine lm_G_sg 1 (pc' := 28) (L' := [some (.ref 1), some (.ref 1001), some (.int (nI (j + 1)))]) (S' := []) (σ' := lm_T M v G) rfl trivial ?_
          exact ih  (by simp only [alB]; rw [hI, decide_eq_true ((sB_eq _ hbb _ v2).mp h5)]; rfl)
        ·
          have e5 : alB (fun i => decide (tB T (stS' T p + i) = w1.getD i 0)) 8 = false := al_f hj (decide_eq_false (fun w => h5 ((sB_eq _ hbb _ v2).mpr w)))
          rw [show isWd T p w1 = false from by unfold isWd; rw [show w1.length = 8 from rfl, e5, Bool.and_false, Bool.and_false]] at hQ
          refine lm_G_sg 1 (pc' := 56) (L' := [some (.ref 1), some (.ref 1001), some (.int (nI j))]) (S' := [.int 0]) (σ' := lm_T M v G) rfl trivial ?_
          exact lm_G_re rfl (by decide) (Nat.zero_le _) (Nat.zero_le _) hQ
      ·
        replace hI : alB (fun i => decide (tB T (stS' T p + i) = w1.getD i 0)) 8 = true := hI
        show lm_G X d 30 106 0 0 28 [some (.ref 1), some (.ref 1001), some (.int (nI 8))] [] (lm_T M v G) Q
        refine lm_G_sg 3 (pc' := 33) (L' := [some (.ref 1), some (.ref 1001), some (.int (nI 8))]) (S' := [.int (Int32.ofNat 8), .int (nI 8)]) (σ' := lm_T M v G) rfl ⟨trivial, (Nat.le_of_ble_eq_true rfl), trivial⟩ ?_
        refine lm_G_br (b := (Int32.ofNat 8) ≤ (nI 8)) (t := 63) (S' := []) rfl (fun hc => ?_) (fun hc => absurd (nI_le (a := 8) (Nat.le_refl _) (by omega)) hc)
        rw [show isWd T p w1 = true from by unfold isWd; rw [show w1.length = 8 from rfl, decide_eq_true k3, decide_eq_true l3, hI]; rfl] at hQ
        refine lm_G_sg 1 (pc' := 64) (L' := [some (.ref 1), some (.ref 1001), some (.int (nI 8))]) (S' := [.int 1]) (σ' := lm_T M v G) rfl trivial ?_
        exact lm_G_re rfl (by decide) (Nat.zero_le _) (Nat.zero_le _) hQ
      ·
        try dsimp only
        rfl
def w2 : List Nat := [116, 117, 110, 101]
theorem w2_ok : ∀ j, j < 4 → (lm_wz 2).getD j 0 = nI (w2.getD j 0) ∧ w2.getD j 0 < 128 := by decide +kernel
set_option maxRecDepth 10000 in
theorem c_isWord2 {X : lm_X} {d v : Nat} {M : Nat → Nat → Int32} {G : Nat → Nat → Int64} {Q : lm_O → lm_S → Prop} {T : Tx} {p : Nat} (hT : okT T) (ht : RT M T p) (hp : p ≤ tN T) (hQ : Q (.inl (some (.int (b2i (isWd T p w2))))) (lm_T M v G)) : lm_Q X d 30 [.ref 1, .ref 1002] (lm_T M v G) Q := by
  show lm_G X d 30 106 0 0 0 [some (.ref 1), some (.ref 1002), none] [] (lm_T M v G) Q
  have kl := kn_le (T := T) (p := p)
  obtain ⟨el1, el2, el3⟩ := en_le hp
  have hn := hT.1
  refine lm_G_sg 2 (pc' := 4) (L' := [some (.ref 1), some (.ref 1002), none]) (S' := [.int (M 1 6)]) (σ' := lm_T M v G) rfl trivial ?_
  rw [show M 1 6 = nI (knS T p) from ht.2.1]
  refine lm_G_sg 1 (pc' := 5) (L' := [some (.ref 1), some (.ref 1002), none]) (S' := [.int 1, .int (nI (knS T p))]) (σ' := lm_T M v G) rfl trivial ?_
  refine lm_G_br (b := ¬ (nI (knS T p)) = 1) (t := 24) (S' := []) rfl (fun h1 => ?_) (fun h1 => ?_)
  ·
    have k3 : ¬ knS T p = 1 := fun w => h1 (by rw [w]; rfl)
    rw [show isWd T p w2 = false from by unfold isWd; rw [decide_eq_false k3]; rfl] at hQ
    refine lm_G_sg 1 (pc' := 25) (L' := [some (.ref 1), some (.ref 1002), none]) (S' := [.int 0]) (σ' := lm_T M v G) rfl trivial ?_
    exact lm_G_re rfl (by decide) (Nat.zero_le _) (Nat.zero_le _) hQ
  ·
    have k3 : knS T p = 1 := (nI_eq (b := 1) (by omega) (by omega)).mp (Classical.not_not.mp h1)
    refine lm_G_sg 2 (pc' := 12) (L' := [some (.ref 1), some (.ref 1002), none]) (S' := [.int (M 1 8)]) (σ' := lm_T M v G) rfl trivial ?_
    rw [show M 1 8 = nI (enS T p) from ht.2.2.2.1]
    refine lm_G_sg 2 (pc' := 16) (L' := [some (.ref 1), some (.ref 1002), none]) (S' := [.int (M 1 7), .int (nI (enS T p))]) (σ' := lm_T M v G) rfl trivial ?_
    rw [show M 1 7 = nI (stS' T p) from ht.2.2.1]
    refine lm_G_sg 1 (pc' := 17) (L' := [some (.ref 1), some (.ref 1002), none]) (S' := [.int ((nI (enS T p)) - (nI (stS' T p)))]) (σ' := lm_T M v G) rfl trivial ?_
    rw [show (nI (enS T p)) - (nI (stS' T p)) = nI (lnS T p) from nI_sub (by omega)]
    have ll : lnS T p ≤ 700 := by unfold lnS; omega
    refine lm_G_sg 2 (pc' := 21) (L' := [some (.ref 1), some (.ref 1002), none]) (S' := [.int (Int32.ofNat 4), .int (nI (lnS T p))]) (σ' := lm_T M v G) rfl ⟨trivial, (Nat.le_of_ble_eq_true rfl), trivial⟩ ?_
    refine lm_G_br (b := (nI (lnS T p)) = (Int32.ofNat 4)) (t := 26) (S' := []) rfl (fun h2 => ?_) (fun h2 => ?_)
    rotate_left
    ·
      have l3 : ¬ lnS T p = w2.length := fun w => h2 (by rw [w]; rfl)
      rw [show isWd T p w2 = false from by unfold isWd; rw [decide_eq_false l3, Bool.false_and, Bool.and_false]] at hQ
      refine lm_G_sg 1 (pc' := 25) (L' := [some (.ref 1), some (.ref 1002), none]) (S' := [.int 0]) (σ' := lm_T M v G) rfl trivial ?_
      exact lm_G_re rfl (by decide) (Nat.zero_le _) (Nat.zero_le _) hQ
    ·
      have l3 : lnS T p = 4 := (nI_eq (b := 4) (by omega) (by omega)).mp h2
      have le3 : enS T p - stS' T p = 4 := l3
      refine lm_G_sg 2 (pc' := 28) (L' := [some (.ref 1), some (.ref 1002), some (.int 0)]) (S' := []) (σ' := lm_T M v G) rfl trivial ?_
      refine lm_ind (α := Unit) (St := fun (j : Nat) zz => lm_G X d 30 106 0 0 28 [some (.ref 1), some (.ref 1002), some (.int (nI j))] [] (lm_T M v G) Q) (Inv := fun (j : Nat) zz => alB (fun i => decide (tB T (stS' T p + i) = w2.getD i 0)) j = true) (4) (fun j zz hj hI ih => ?_) (fun zz hI => ?_) (0) () (by omega) ?_
      ·
        replace hI : alB (fun i => decide (tB T (stS' T p + i) = w2.getD i 0)) j = true := hI
        replace ih : ∀ (_ : alB (fun i => decide (tB T (stS' T p + i) = w2.getD i 0)) (j + 1) = true), lm_G X d 30 106 0 0 28 [some (.ref 1), some (.ref 1002), some (.int (nI (j + 1)))] [] (lm_T M v G) Q := fun q => ih () q
        show lm_G X d 30 106 0 0 28 [some (.ref 1), some (.ref 1002), some (.int (nI j))] [] (lm_T M v G) Q
        have hbb := hT.2 (stS' T p + j) (by omega)
        obtain ⟨v1, v2⟩ := w2_ok j hj
        refine lm_G_sg 3 (pc' := 33) (L' := [some (.ref 1), some (.ref 1002), some (.int (nI j))]) (S' := [.int (Int32.ofNat 4), .int (nI j)]) (σ' := lm_T M v G) rfl ⟨trivial, (Nat.le_of_ble_eq_true rfl), trivial⟩ ?_
        refine lm_G_br (b := (Int32.ofNat 4) ≤ (nI j)) (t := 63) (S' := []) rfl (fun hc => absurd hc (nI_ge (b := 4) hj (by omega))) (fun hc => ?_)
        refine lm_G_sg 4 (pc' := 44) (L' := [some (.ref 1), some (.ref 1002), some (.int (nI j))]) (S' := [.int (M 1 7), .ref 2]) (σ' := lm_T M v G) rfl trivial ?_
        rw [show M 1 7 = nI (stS' T p) from ht.2.2.1]
        refine lm_G_sg 2 (pc' := 46) (L' := [some (.ref 1), some (.ref 1002), some (.int (nI j))]) (S' := [.int ((nI (stS' T p)) + (nI j)), .ref 2]) (σ' := lm_T M v G) rfl trivial ?_
        rw [show (nI (stS' T p)) + (nI j) = nI ((stS' T p) + j) from nI_add (stS' T p) j]
        refine lm_G_sg 1 (pc' := 47) (L' := [some (.ref 1), some (.ref 1002), some (.int (nI j))]) (S' := [.int (M 2 (nI ((stS' T p) + j)).toNatClampNeg)]) (σ' := lm_T M v G) rfl ⟨(vp_in_nI (by omega) (by omega)), trivial, trivial⟩ ?_
        rw [show (nI ((stS' T p) + j)).toNatClampNeg = ((stS' T p) + j) from nI_clamp (by omega)]
        rw [show M 2 ((stS' T p) + j) = sB (tB T ((stS' T p) + j)) from ht.1.2 ((stS' T p) + j) (by omega)]
        refine lm_G_sg 3 (pc' := 52) (L' := [some (.ref 1), some (.ref 1002), some (.int (nI j))]) (S' := [.int ((lm_wz 2).getD (nI j).toNatClampNeg 0), .int (sB (tB T ((stS' T p) + j)))]) (σ' := lm_T M v G) rfl ⟨(show vp_in _ 4 from vp_in_nI (by omega) (by omega)), (Nat.le_of_ble_eq_true rfl), trivial⟩ ?_
        rw [nI_clamp (n := j) (by omega), v1]
        refine lm_G_br (b := (sB (tB T ((stS' T p) + j))) = (nI (w2.getD j 0))) (t := 57) (S' := []) rfl (fun h5 => ?_) (fun h5 => ?_)
        ·
          refine lm_G_sg 1 (pc' := 60) (L' := [some (.ref 1), some (.ref 1002), some (.int ((nI j) + 1))]) (S' := []) (σ' := lm_T M v G) rfl trivial ?_
          rw [nI_1]
          refine lm_G_sg 1 (pc' := 28) (L' := [some (.ref 1), some (.ref 1002), some (.int (nI (j + 1)))]) (S' := []) (σ' := lm_T M v G) rfl trivial ?_
          exact ih  (by simp only [alB]; rw [hI, decide_eq_true ((sB_eq _ hbb _ v2).mp h5)]; rfl)
        ·
          have e5 : alB (fun i => decide (tB T (stS' T p + i) = w2.getD i 0)) 4 = false := al_f hj (decide_eq_false (fun w => h5 ((sB_eq _ hbb _ v2).mpr w)))
          rw [show isWd T p w2 = false from by unfold isWd; rw [show w2.length = 4 from rfl, e5, Bool.and_false, Bool.and_false]] at hQ
          refine lm_G_sg 1 (pc' := 56) (L' := [some (.ref 1), some (.ref 1002), some (.int (nI j))]) (S' := [.int 0]) (σ' := lm_T M v G) rfl trivial ?_
          exact lm_G_re rfl (by decide) (Nat.zero_le _) (Nat.zero_le _) hQ
      ·
        replace hI : alB (fun i => decide (tB T (stS' T p + i) = w2.getD i 0)) 4 = true := hI
        show lm_G X d 30 106 0 0 28 [some (.ref 1), some (.ref 1002), some (.int (nI 4))] [] (lm_T M v G) Q
        refine lm_G_sg 3 (pc' := 33) (L' := [some (.ref 1), some (.ref 1002), some (.int (nI 4))]) (S' := [.int (Int32.ofNat 4), .int (nI 4)]) (σ' := lm_T M v G) rfl ⟨trivial, (Nat.le_of_ble_eq_true rfl), trivial⟩ ?_
        refine lm_G_br (b := (Int32.ofNat 4) ≤ (nI 4)) (t := 63) (S' := []) rfl (fun hc => ?_) (fun hc => absurd (nI_le (a := 4) (Nat.le_refl _) (by omega)) hc)
        rw [show isWd T p w2 = true from by unfold isWd; rw [show w2.length = 4 from rfl, decide_eq_true k3, decide_eq_true l3, hI]; rfl] at hQ
        refine lm_G_sg 1 (pc' := 64) (L' := [some (.ref 1), some (.ref 1002), some (.int (nI 4))]) (S' := [.int 1]) (σ' := lm_T M v G) rfl trivial ?_
        exact lm_G_re rfl (by decide) (Nat.zero_le _) (Nat.zero_le _) hQ
      ·
        try dsimp only
        rfl
def w3 : List Nat := [111, 102]
theorem w3_ok : ∀ j, j < 2 → (lm_wz 3).getD j 0 = nI (w3.getD j 0) ∧ w3.getD j 0 < 128 := by decide +kernel
set_option maxRecDepth 10000 in
theorem c_isWord3 {X : lm_X} {d v : Nat} {M : Nat → Nat → Int32} {G : Nat → Nat → Int64} {Q : lm_O → lm_S → Prop} {T : Tx} {p : Nat} (hT : okT T) (ht : RT M T p) (hp : p ≤ tN T) (hQ : Q (.inl (some (.int (b2i (isWd T p w3))))) (lm_T M v G)) : lm_Q X d 30 [.ref 1, .ref 1003] (lm_T M v G) Q := by
  show lm_G X d 30 106 0 0 0 [some (.ref 1), some (.ref 1003), none] [] (lm_T M v G) Q
  have kl := kn_le (T := T) (p := p)
  obtain ⟨el1, el2, el3⟩ := en_le hp
  have hn := hT.1
  refine lm_G_sg 2 (pc' := 4) (L' := [some (.ref 1), some (.ref 1003), none]) (S' := [.int (M 1 6)]) (σ' := lm_T M v G) rfl trivial ?_
  rw [show M 1 6 = nI (knS T p) from ht.2.1]
  refine lm_G_sg 1 (pc' := 5) (L' := [some (.ref 1), some (.ref 1003), none]) (S' := [.int 1, .int (nI (knS T p))]) (σ' := lm_T M v G) rfl trivial ?_
  refine lm_G_br (b := ¬ (nI (knS T p)) = 1) (t := 24) (S' := []) rfl (fun h1 => ?_) (fun h1 => ?_)
  ·
    have k3 : ¬ knS T p = 1 := fun w => h1 (by rw [w]; rfl)
    rw [show isWd T p w3 = false from by unfold isWd; rw [decide_eq_false k3]; rfl] at hQ
    refine lm_G_sg 1 (pc' := 25) (L' := [some (.ref 1), some (.ref 1003), none]) (S' := [.int 0]) (σ' := lm_T M v G) rfl trivial ?_
    exact lm_G_re rfl (by decide) (Nat.zero_le _) (Nat.zero_le _) hQ
  ·
    have k3 : knS T p = 1 := (nI_eq (b := 1) (by omega) (by omega)).mp (Classical.not_not.mp h1)
    refine lm_G_sg 2 (pc' := 12) (L' := [some (.ref 1), some (.ref 1003), none]) (S' := [.int (M 1 8)]) (σ' := lm_T M v G) rfl trivial ?_
    rw [show M 1 8 = nI (enS T p) from ht.2.2.2.1]
    refine lm_G_sg 2 (pc' := 16) (L' := [some (.ref 1), some (.ref 1003), none]) (S' := [.int (M 1 7), .int (nI (enS T p))]) (σ' := lm_T M v G) rfl trivial ?_
    rw [show M 1 7 = nI (stS' T p) from ht.2.2.1]
    refine lm_G_sg 1 (pc' := 17) (L' := [some (.ref 1), some (.ref 1003), none]) (S' := [.int ((nI (enS T p)) - (nI (stS' T p)))]) (σ' := lm_T M v G) rfl trivial ?_
    rw [show (nI (enS T p)) - (nI (stS' T p)) = nI (lnS T p) from nI_sub (by omega)]
    have ll : lnS T p ≤ 700 := by unfold lnS; omega
    refine lm_G_sg 2 (pc' := 21) (L' := [some (.ref 1), some (.ref 1003), none]) (S' := [.int (Int32.ofNat 2), .int (nI (lnS T p))]) (σ' := lm_T M v G) rfl ⟨trivial, (Nat.le_of_ble_eq_true rfl), trivial⟩ ?_
    refine lm_G_br (b := (nI (lnS T p)) = (Int32.ofNat 2)) (t := 26) (S' := []) rfl (fun h2 => ?_) (fun h2 => ?_)
    rotate_left
    ·
      have l3 : ¬ lnS T p = w3.length := fun w => h2 (by rw [w]; rfl)
      rw [show isWd T p w3 = false from by unfold isWd; rw [decide_eq_false l3, Bool.false_and, Bool.and_false]] at hQ
      refine lm_G_sg 1 (pc' := 25) (L' := [some (.ref 1), some (.ref 1003), none]) (S' := [.int 0]) (σ' := lm_T M v G) rfl trivial ?_
      exact lm_G_re rfl (by decide) (Nat.zero_le _) (Nat.zero_le _) hQ
    ·
      have l3 : lnS T p = 2 := (nI_eq (b := 2) (by omega) (by omega)).mp h2
      have le3 : enS T p - stS' T p = 2 := l3
      refine lm_G_sg 2 (pc' := 28) (L' := [some (.ref 1), some (.ref 1003), some (.int 0)]) (S' := []) (σ' := lm_T M v G) rfl trivial ?_
      refine lm_ind (α := Unit) (St := fun (j : Nat) zz => lm_G X d 30 106 0 0 28 [some (.ref 1), some (.ref 1003), some (.int (nI j))] [] (lm_T M v G) Q) (Inv := fun (j : Nat) zz => alB (fun i => decide (tB T (stS' T p + i) = w3.getD i 0)) j = true) (2) (fun j zz hj hI ih => ?_) (fun zz hI => ?_) (0) () (by omega) ?_
      ·
        replace hI : alB (fun i => decide (tB T (stS' T p + i) = w3.getD i 0)) j = true := hI
        replace ih : ∀ (_ : alB (fun i => decide (tB T (stS' T p + i) = w3.getD i 0)) (j + 1) = true), lm_G X d 30 106 0 0 28 [some (.ref 1), some (.ref 1003), some (.int (nI (j + 1)))] [] (lm_T M v G) Q := fun q => ih () q
        show lm_G X d 30 106 0 0 28 [some (.ref 1), some (.ref 1003), some (.int (nI j))] [] (lm_T M v G) Q
        have hbb := hT.2 (stS' T p + j) (by omega)
        obtain ⟨v1, v2⟩ := w3_ok j hj
        refine lm_G_sg 3 (pc' := 33) (L' := [some (.ref 1), some (.ref 1003), some (.int (nI j))]) (S' := [.int (Int32.ofNat 2), .int (nI j)]) (σ' := lm_T M v G) rfl ⟨trivial, (Nat.le_of_ble_eq_true rfl), trivial⟩ ?_
        refine lm_G_br (b := (Int32.ofNat 2) ≤ (nI j)) (t := 63) (S' := []) rfl (fun hc => absurd hc (nI_ge (b := 2) hj (by omega))) (fun hc => ?_)
        refine lm_G_sg 4 (pc' := 44) (L' := [some (.ref 1), some (.ref 1003), some (.int (nI j))]) (S' := [.int (M 1 7), .ref 2]) (σ' := lm_T M v G) rfl trivial ?_
        rw [show M 1 7 = nI (stS' T p) from ht.2.2.1]
        refine lm_G_sg 2 (pc' := 46) (L' := [some (.ref 1), some (.ref 1003), some (.int (nI j))]) (S' := [.int ((nI (stS' T p)) + (nI j)), .ref 2]) (σ' := lm_T M v G) rfl trivial ?_
        rw [show (nI (stS' T p)) + (nI j) = nI ((stS' T p) + j) from nI_add (stS' T p) j]
        refine lm_G_sg 1 (pc' := 47) (L' := [some (.ref 1), some (.ref 1003), some (.int (nI j))]) (S' := [.int (M 2 (nI ((stS' T p) + j)).toNatClampNeg)]) (σ' := lm_T M v G) rfl ⟨(vp_in_nI (by omega) (by omega)), trivial, trivial⟩ ?_
        rw [show (nI ((stS' T p) + j)).toNatClampNeg = ((stS' T p) + j) from nI_clamp (by omega)]
        rw [show M 2 ((stS' T p) + j) = sB (tB T ((stS' T p) + j)) from ht.1.2 ((stS' T p) + j) (by omega)]
        refine lm_G_sg 3 (pc' := 52) (L' := [some (.ref 1), some (.ref 1003), some (.int (nI j))]) (S' := [.int ((lm_wz 3).getD (nI j).toNatClampNeg 0), .int (sB (tB T ((stS' T p) + j)))]) (σ' := lm_T M v G) rfl ⟨(show vp_in _ 2 from vp_in_nI (by omega) (by omega)), (Nat.le_of_ble_eq_true rfl), trivial⟩ ?_
        rw [nI_clamp (n := j) (by omega), v1]
        refine lm_G_br (b := (sB (tB T ((stS' T p) + j))) = (nI (w3.getD j 0))) (t := 57) (S' := []) rfl (fun h5 => ?_) (fun h5 => ?_)
        ·
          refine lm_G_sg 1 (pc' := 60) (L' := [some (.ref 1), some (.ref 1003), some (.int ((nI j) + 1))]) (S' := []) (σ' := lm_T M v G) rfl trivial ?_
          rw [nI_1]
          refine lm_G_sg 1 (pc' := 28) (L' := [some (.ref 1), some (.ref 1003), some (.int (nI (j + 1)))]) (S' := []) (σ' := lm_T M v G) rfl trivial ?_
          exact ih  (by simp only [alB]; rw [hI, decide_eq_true ((sB_eq _ hbb _ v2).mp h5)]; rfl)
        ·
          have e5 : alB (fun i => decide (tB T (stS' T p + i) = w3.getD i 0)) 2 = false := al_f hj (decide_eq_false (fun w => h5 ((sB_eq _ hbb _ v2).mpr w)))
          rw [show isWd T p w3 = false from by unfold isWd; rw [show w3.length = 2 from rfl, e5, Bool.and_false, Bool.and_false]] at hQ
          refine lm_G_sg 1 (pc' := 56) (L' := [some (.ref 1), some (.ref 1003), some (.int (nI j))]) (S' := [.int 0]) (σ' := lm_T M v G) rfl trivial ?_
          exact lm_G_re rfl (by decide) (Nat.zero_le _) (Nat.zero_le _) hQ
      ·
        replace hI : alB (fun i => decide (tB T (stS' T p + i) = w3.getD i 0)) 2 = true := hI
        show lm_G X d 30 106 0 0 28 [some (.ref 1), some (.ref 1003), some (.int (nI 2))] [] (lm_T M v G) Q
        refine lm_G_sg 3 (pc' := 33) (L' := [some (.ref 1), some (.ref 1003), some (.int (nI 2))]) (S' := [.int (Int32.ofNat 2), .int (nI 2)]) (σ' := lm_T M v G) rfl ⟨trivial, (Nat.le_of_ble_eq_true rfl), trivial⟩ ?_
        refine lm_G_br (b := (Int32.ofNat 2) ≤ (nI 2)) (t := 63) (S' := []) rfl (fun hc => ?_) (fun hc => absurd (nI_le (a := 2) (Nat.le_refl _) (by omega)) hc)
        rw [show isWd T p w3 = true from by unfold isWd; rw [show w3.length = 2 from rfl, decide_eq_true k3, decide_eq_true l3, hI]; rfl] at hQ
        refine lm_G_sg 1 (pc' := 64) (L' := [some (.ref 1), some (.ref 1003), some (.int (nI 2))]) (S' := [.int 1]) (σ' := lm_T M v G) rfl trivial ?_
        exact lm_G_re rfl (by decide) (Nat.zero_le _) (Nat.zero_le _) hQ
      ·
        try dsimp only
        rfl
def w4 : List Nat := [101, 97, 114, 115, 104, 111, 116]
theorem w4_ok : ∀ j, j < 7 → (lm_wz 4).getD j 0 = nI (w4.getD j 0) ∧ w4.getD j 0 < 128 := by decide +kernel
set_option maxRecDepth 10000 in
theorem c_isWord4 {X : lm_X} {d v : Nat} {M : Nat → Nat → Int32} {G : Nat → Nat → Int64} {Q : lm_O → lm_S → Prop} {T : Tx} {p : Nat} (hT : okT T) (ht : RT M T p) (hp : p ≤ tN T) (hQ : Q (.inl (some (.int (b2i (isWd T p w4))))) (lm_T M v G)) : lm_Q X d 30 [.ref 1, .ref 1004] (lm_T M v G) Q := by
  show lm_G X d 30 106 0 0 0 [some (.ref 1), some (.ref 1004), none] [] (lm_T M v G) Q
  have kl := kn_le (T := T) (p := p)
  obtain ⟨el1, el2, el3⟩ := en_le hp
  have hn := hT.1
  refine lm_G_sg 2 (pc' := 4) (L' := [some (.ref 1), some (.ref 1004), none]) (S' := [.int (M 1 6)]) (σ' := lm_T M v G) rfl trivial ?_
  rw [show M 1 6 = nI (knS T p) from ht.2.1]
  refine lm_G_sg 1 (pc' := 5) (L' := [some (.ref 1), some (.ref 1004), none]) (S' := [.int 1, .int (nI (knS T p))]) (σ' := lm_T M v G) rfl trivial ?_
  refine lm_G_br (b := ¬ (nI (knS T p)) = 1) (t := 24) (S' := []) rfl (fun h1 => ?_) (fun h1 => ?_)
  ·
    have k3 : ¬ knS T p = 1 := fun w => h1 (by rw [w]; rfl)
    rw [show isWd T p w4 = false from by unfold isWd; rw [decide_eq_false k3]; rfl] at hQ
    refine lm_G_sg 1 (pc' := 25) (L' := [some (.ref 1), some (.ref 1004), none]) (S' := [.int 0]) (σ' := lm_T M v G) rfl trivial ?_
    exact lm_G_re rfl (by decide) (Nat.zero_le _) (Nat.zero_le _) hQ
  ·
    have k3 : knS T p = 1 := (nI_eq (b := 1) (by omega) (by omega)).mp (Classical.not_not.mp h1)
    refine lm_G_sg 2 (pc' := 12) (L' := [some (.ref 1), some (.ref 1004), none]) (S' := [.int (M 1 8)]) (σ' := lm_T M v G) rfl trivial ?_
    rw [show M 1 8 = nI (enS T p) from ht.2.2.2.1]
    refine lm_G_sg 2 (pc' := 16) (L' := [some (.ref 1), some (.ref 1004), none]) (S' := [.int (M 1 7), .int (nI (enS T p))]) (σ' := lm_T M v G) rfl trivial ?_
    rw [show M 1 7 = nI (stS' T p) from ht.2.2.1]
    refine lm_G_sg 1 (pc' := 17) (L' := [some (.ref 1), some (.ref 1004), none]) (S' := [.int ((nI (enS T p)) - (nI (stS' T p)))]) (σ' := lm_T M v G) rfl trivial ?_
    rw [show (nI (enS T p)) - (nI (stS' T p)) = nI (lnS T p) from nI_sub (by omega)]
    have ll : lnS T p ≤ 700 := by unfold lnS; omega
    refine lm_G_sg 2 (pc' := 21) (L' := [some (.ref 1), some (.ref 1004), none]) (S' := [.int (Int32.ofNat 7), .int (nI (lnS T p))]) (σ' := lm_T M v G) rfl ⟨trivial, (Nat.le_of_ble_eq_true rfl), trivial⟩ ?_
    refine lm_G_br (b := (nI (lnS T p)) = (Int32.ofNat 7)) (t := 26) (S' := []) rfl (fun h2 => ?_) (fun h2 => ?_)
    rotate_left
    ·
      have l3 : ¬ lnS T p = w4.length := fun w => h2 (by rw [w]; rfl)
      rw [show isWd T p w4 = false from by unfold isWd; rw [decide_eq_false l3, Bool.false_and, Bool.and_false]] at hQ
      refine lm_G_sg 1 (pc' := 25) (L' := [some (.ref 1), some (.ref 1004), none]) (S' := [.int 0]) (σ' := lm_T M v G) rfl trivial ?_
      exact lm_G_re rfl (by decide) (Nat.zero_le _) (Nat.zero_le _) hQ
    ·
      have l3 : lnS T p = 7 := (nI_eq (b := 7) (by omega) (by omega)).mp h2
      have le3 : enS T p - stS' T p = 7 := l3
      refine lm_G_sg 2 (pc' := 28) (L' := [some (.ref 1), some (.ref 1004), some (.int 0)]) (S' := []) (σ' := lm_T M v G) rfl trivial ?_
      refine lm_ind (α := Unit) (St := fun (j : Nat) zz => lm_G X d 30 106 0 0 28 [some (.ref 1), some (.ref 1004), some (.int (nI j))] [] (lm_T M v G) Q) (Inv := fun (j : Nat) zz => alB (fun i => decide (tB T (stS' T p + i) = w4.getD i 0)) j = true) (7) (fun j zz hj hI ih => ?_) (fun zz hI => ?_) (0) () (by omega) ?_
      ·
        replace hI : alB (fun i => decide (tB T (stS' T p + i) = w4.getD i 0)) j = true := hI
        replace ih : ∀ (_ : alB (fun i => decide (tB T (stS' T p + i) = w4.getD i 0)) (j + 1) = true), lm_G X d 30 106 0 0 28 [some (.ref 1), some (.ref 1004), some (.int (nI (j + 1)))] [] (lm_T M v G) Q := fun q => ih () q
        show lm_G X d 30 106 0 0 28 [some (.ref 1), some (.ref 1004), some (.int (nI j))] [] (lm_T M v G) Q
        have hbb := hT.2 (stS' T p + j) (by omega)
        obtain ⟨v1, v2⟩ := w4_ok j hj
        refine lm_G_sg 3 (pc' := 33) (L' := [some (.ref 1), some (.ref 1004), some (.int (nI j))]) (S' := [.int (Int32.ofNat 7), .int (nI j)]) (σ' := lm_T M v G) rfl ⟨trivial, (Nat.le_of_ble_eq_true rfl), trivial⟩ ?_
        refine lm_G_br (b := (Int32.ofNat 7) ≤ (nI j)) (t := 63) (S' := []) rfl (fun hc => absurd hc (nI_ge (b := 7) hj (by omega))) (fun hc => ?_)
        refine lm_G_sg 4 (pc' := 44) (L' := [some (.ref 1), some (.ref 1004), some (.int (nI j))]) (S' := [.int (M 1 7), .ref 2]) (σ' := lm_T M v G) rfl trivial ?_
        rw [show M 1 7 = nI (stS' T p) from ht.2.2.1]
        refine lm_G_sg 2 (pc' := 46) (L' := [some (.ref 1), some (.ref 1004), some (.int (nI j))]) (S' := [.int ((nI (stS' T p)) + (nI j)), .ref 2]) (σ' := lm_T M v G) rfl trivial ?_
        rw [show (nI (stS' T p)) + (nI j) = nI ((stS' T p) + j) from nI_add (stS' T p) j]
        refine lm_G_sg 1 (pc' := 47) (L' := [some (.ref 1), some (.ref 1004), some (.int (nI j))]) (S' := [.int (M 2 (nI ((stS' T p) + j)).toNatClampNeg)]) (σ' := lm_T M v G) rfl ⟨(vp_in_nI (by omega) (by omega)), trivial, trivial⟩ ?_
        rw [show (nI ((stS' T p) + j)).toNatClampNeg = ((stS' T p) + j) from nI_clamp (by omega)]
        rw [show M 2 ((stS' T p) + j) = sB (tB T ((stS' T p) + j)) from ht.1.2 ((stS' T p) + j) (by omega)]
        refine lm_G_sg 3 (pc' := 52) (L' := [some (.ref 1), some (.ref 1004), some (.int (nI j))]) (S' := [.int ((lm_wz 4).getD (nI j).toNatClampNeg 0), .int (sB (tB T ((stS' T p) + j)))]) (σ' := lm_T M v G) rfl ⟨(show vp_in _ 7 from vp_in_nI (by omega) (by omega)), (Nat.le_of_ble_eq_true rfl), trivial⟩ ?_
        rw [nI_clamp (n := j) (by omega), v1]
        refine lm_G_br (b := (sB (tB T ((stS' T p) + j))) = (nI (w4.getD j 0))) (t := 57) (S' := []) rfl (fun h5 => ?_) (fun h5 => ?_)
        ·
          refine lm_G_sg 1 (pc' := 60) (L' := [some (.ref 1), some (.ref 1004), some (.int ((nI j) + 1))]) (S' := []) (σ' := lm_T M v G) rfl trivial ?_
          rw [nI_1]
          refine lm_G_sg 1 (pc' := 28) (L' := [some (.ref 1), some (.ref 1004), some (.int (nI (j + 1)))]) (S' := []) (σ' := lm_T M v G) rfl trivial ?_
          exact ih  (by simp only [alB]; rw [hI, decide_eq_true ((sB_eq _ hbb _ v2).mp h5)]; rfl)
        ·
          have e5 : alB (fun i => decide (tB T (stS' T p + i) = w4.getD i 0)) 7 = false := al_f hj (decide_eq_false (fun w => h5 ((sB_eq _ hbb _ v2).mpr w)))
          rw [show isWd T p w4 = false from by unfold isWd; rw [show w4.length = 7 from rfl, e5, Bool.and_false, Bool.and_false]] at hQ
          refine lm_G_sg 1 (pc' := 56) (L' := [some (.ref 1), some (.ref 1004), some (.int (nI j))]) (S' := [.int 0]) (σ' := lm_T M v G) rfl trivial ?_
          exact lm_G_re rfl (by decide) (Nat.zero_le _) (Nat.zero_le _) hQ
      ·
        replace hI : alB (fun i => decide (tB T (stS' T p + i) = w4.getD i 0)) 7 = true := hI
        show lm_G X d 30 106 0 0 28 [some (.ref 1), some (.ref 1004), some (.int (nI 7))] [] (lm_T M v G) Q
        refine lm_G_sg 3 (pc' := 33) (L' := [some (.ref 1), some (.ref 1004), some (.int (nI 7))]) (S' := [.int (Int32.ofNat 7), .int (nI 7)]) (σ' := lm_T M v G) rfl ⟨trivial, (Nat.le_of_ble_eq_true rfl), trivial⟩ ?_
        refine lm_G_br (b := (Int32.ofNat 7) ≤ (nI 7)) (t := 63) (S' := []) rfl (fun hc => ?_) (fun hc => absurd (nI_le (a := 7) (Nat.le_refl _) (by omega)) hc)
        rw [show isWd T p w4 = true from by unfold isWd; rw [show w4.length = 7 from rfl, decide_eq_true k3, decide_eq_true l3, hI]; rfl] at hQ
        refine lm_G_sg 1 (pc' := 64) (L' := [some (.ref 1), some (.ref 1004), some (.int (nI 7))]) (S' := [.int 1]) (σ' := lm_T M v G) rfl trivial ?_
        exact lm_G_re rfl (by decide) (Nat.zero_le _) (Nat.zero_le _) hQ
      ·
        try dsimp only
        rfl
def w5 : List Nat := [115, 116, 111, 112, 115]
theorem w5_ok : ∀ j, j < 5 → (lm_wz 5).getD j 0 = nI (w5.getD j 0) ∧ w5.getD j 0 < 128 := by decide +kernel
set_option maxRecDepth 10000 in
theorem c_isWord5 {X : lm_X} {d v : Nat} {M : Nat → Nat → Int32} {G : Nat → Nat → Int64} {Q : lm_O → lm_S → Prop} {T : Tx} {p : Nat} (hT : okT T) (ht : RT M T p) (hp : p ≤ tN T) (hQ : Q (.inl (some (.int (b2i (isWd T p w5))))) (lm_T M v G)) : lm_Q X d 30 [.ref 1, .ref 1005] (lm_T M v G) Q := by
  show lm_G X d 30 106 0 0 0 [some (.ref 1), some (.ref 1005), none] [] (lm_T M v G) Q
  have kl := kn_le (T := T) (p := p)
  obtain ⟨el1, el2, el3⟩ := en_le hp
  have hn := hT.1
  refine lm_G_sg 2 (pc' := 4) (L' := [some (.ref 1), some (.ref 1005), none]) (S' := [.int (M 1 6)]) (σ' := lm_T M v G) rfl trivial ?_
  rw [show M 1 6 = nI (knS T p) from ht.2.1]
  refine lm_G_sg 1 (pc' := 5) (L' := [some (.ref 1), some (.ref 1005), none]) (S' := [.int 1, .int (nI (knS T p))]) (σ' := lm_T M v G) rfl trivial ?_
  refine lm_G_br (b := ¬ (nI (knS T p)) = 1) (t := 24) (S' := []) rfl (fun h1 => ?_) (fun h1 => ?_)
  ·
    have k3 : ¬ knS T p = 1 := fun w => h1 (by rw [w]; rfl)
    rw [show isWd T p w5 = false from by unfold isWd; rw [decide_eq_false k3]; rfl] at hQ
    refine lm_G_sg 1 (pc' := 25) (L' := [some (.ref 1), some (.ref 1005), none]) (S' := [.int 0]) (σ' := lm_T M v G) rfl trivial ?_
    exact lm_G_re rfl (by decide) (Nat.zero_le _) (Nat.zero_le _) hQ
  ·
    have k3 : knS T p = 1 := (nI_eq (b := 1) (by omega) (by omega)).mp (Classical.not_not.mp h1)
    refine lm_G_sg 2 (pc' := 12) (L' := [some (.ref 1), some (.ref 1005), none]) (S' := [.int (M 1 8)]) (σ' := lm_T M v G) rfl trivial ?_
    rw [show M 1 8 = nI (enS T p) from ht.2.2.2.1]
    refine lm_G_sg 2 (pc' := 16) (L' := [some (.ref 1), some (.ref 1005), none]) (S' := [.int (M 1 7), .int (nI (enS T p))]) (σ' := lm_T M v G) rfl trivial ?_
    rw [show M 1 7 = nI (stS' T p) from ht.2.2.1]
    refine lm_G_sg 1 (pc' := 17) (L' := [some (.ref 1), some (.ref 1005), none]) (S' := [.int ((nI (enS T p)) - (nI (stS' T p)))]) (σ' := lm_T M v G) rfl trivial ?_
    rw [show (nI (enS T p)) - (nI (stS' T p)) = nI (lnS T p) from nI_sub (by omega)]
    have ll : lnS T p ≤ 700 := by unfold lnS; omega
    refine lm_G_sg 2 (pc' := 21) (L' := [some (.ref 1), some (.ref 1005), none]) (S' := [.int (Int32.ofNat 5), .int (nI (lnS T p))]) (σ' := lm_T M v G) rfl ⟨trivial, (Nat.le_of_ble_eq_true rfl), trivial⟩ ?_
    refine lm_G_br (b := (nI (lnS T p)) = (Int32.ofNat 5)) (t := 26) (S' := []) rfl (fun h2 => ?_) (fun h2 => ?_)
    rotate_left
    ·
      have l3 : ¬ lnS T p = w5.length := fun w => h2 (by rw [w]; rfl)
      rw [show isWd T p w5 = false from by unfold isWd; rw [decide_eq_false l3, Bool.false_and, Bool.and_false]] at hQ
      refine lm_G_sg 1 (pc' := 25) (L' := [some (.ref 1), some (.ref 1005), none]) (S' := [.int 0]) (σ' := lm_T M v G) rfl trivial ?_
      exact lm_G_re rfl (by decide) (Nat.zero_le _) (Nat.zero_le _) hQ
    ·
      have l3 : lnS T p = 5 := (nI_eq (b := 5) (by omega) (by omega)).mp h2
      have le3 : enS T p - stS' T p = 5 := l3
      refine lm_G_sg 2 (pc' := 28) (L' := [some (.ref 1), some (.ref 1005), some (.int 0)]) (S' := []) (σ' := lm_T M v G) rfl trivial ?_
      refine lm_ind (α := Unit) (St := fun (j : Nat) zz => lm_G X d 30 106 0 0 28 [some (.ref 1), some (.ref 1005), some (.int (nI j))] [] (lm_T M v G) Q) (Inv := fun (j : Nat) zz => alB (fun i => decide (tB T (stS' T p + i) = w5.getD i 0)) j = true) (5) (fun j zz hj hI ih => ?_) (fun zz hI => ?_) (0) () (by omega) ?_
      ·
        replace hI : alB (fun i => decide (tB T (stS' T p + i) = w5.getD i 0)) j = true := hI
        replace ih : ∀ (_ : alB (fun i => decide (tB T (stS' T p + i) = w5.getD i 0)) (j + 1) = true), lm_G X d 30 106 0 0 28 [some (.ref 1), some (.ref 1005), some (.int (nI (j + 1)))] [] (lm_T M v G) Q := fun q => ih () q
        show lm_G X d 30 106 0 0 28 [some (.ref 1), some (.ref 1005), some (.int (nI j))] [] (lm_T M v G) Q
        have hbb := hT.2 (stS' T p + j) (by omega)
        obtain ⟨v1, v2⟩ := w5_ok j hj
        refine lm_G_sg 3 (pc' := 33) (L' := [some (.ref 1), some (.ref 1005), some (.int (nI j))]) (S' := [.int (Int32.ofNat 5), .int (nI j)]) (σ' := lm_T M v G) rfl ⟨trivial, (Nat.le_of_ble_eq_true rfl), trivial⟩ ?_
        refine lm_G_br (b := (Int32.ofNat 5) ≤ (nI j)) (t := 63) (S' := []) rfl (fun hc => absurd hc (nI_ge (b := 5) hj (by omega))) (fun hc => ?_)
        refine lm_G_sg 4 (pc' := 44) (L' := [some (.ref 1), some (.ref 1005), some (.int (nI j))]) (S' := [.int (M 1 7), .ref 2]) (σ' := lm_T M v G) rfl trivial ?_
        rw [show M 1 7 = nI (stS' T p) from ht.2.2.1]
        refine lm_G_sg 2 (pc' := 46) (L' := [some (.ref 1), some (.ref 1005), some (.int (nI j))]) (S' := [.int ((nI (stS' T p)) + (nI j)), .ref 2]) (σ' := lm_T M v G) rfl trivial ?_
        rw [show (nI (stS' T p)) + (nI j) = nI ((stS' T p) + j) from nI_add (stS' T p) j]
        refine lm_G_sg 1 (pc' := 47) (L' := [some (.ref 1), some (.ref 1005), some (.int (nI j))]) (S' := [.int (M 2 (nI ((stS' T p) + j)).toNatClampNeg)]) (σ' := lm_T M v G) rfl ⟨(vp_in_nI (by omega) (by omega)), trivial, trivial⟩ ?_
        rw [show (nI ((stS' T p) + j)).toNatClampNeg = ((stS' T p) + j) from nI_clamp (by omega)]
        rw [show M 2 ((stS' T p) + j) = sB (tB T ((stS' T p) + j)) from ht.1.2 ((stS' T p) + j) (by omega)]
        refine lm_G_sg 3 (pc' := 52) (L' := [some (.ref 1), some (.ref 1005), some (.int (nI j))]) (S' := [.int ((lm_wz 5).getD (nI j).toNatClampNeg 0), .int (sB (tB T ((stS' T p) + j)))]) (σ' := lm_T M v G) rfl ⟨(show vp_in _ 5 from vp_in_nI (by omega) (by omega)), (Nat.le_of_ble_eq_true rfl), trivial⟩ ?_
        rw [nI_clamp (n := j) (by omega), v1]
        refine lm_G_br (b := (sB (tB T ((stS' T p) + j))) = (nI (w5.getD j 0))) (t := 57) (S' := []) rfl (fun h5 => ?_) (fun h5 => ?_)
        ·
          refine lm_G_sg 1 (pc' := 60) (L' := [some (.ref 1), some (.ref 1005), some (.int ((nI j) + 1))]) (S' := []) (σ' := lm_T M v G) rfl trivial ?_
          rw [nI_1]
          refine lm_G_sg 1 (pc' := 28) (L' := [some (.ref 1), some (.ref 1005), some (.int (nI (j + 1)))]) (S' := []) (σ' := lm_T M v G) rfl trivial ?_
          exact ih  (by simp only [alB]; rw [hI, decide_eq_true ((sB_eq _ hbb _ v2).mp h5)]; rfl)
        ·
          have e5 : alB (fun i => decide (tB T (stS' T p + i) = w5.getD i 0)) 5 = false := al_f hj (decide_eq_false (fun w => h5 ((sB_eq _ hbb _ v2).mpr w)))
          rw [show isWd T p w5 = false from by unfold isWd; rw [show w5.length = 5 from rfl, e5, Bool.and_false, Bool.and_false]] at hQ
          refine lm_G_sg 1 (pc' := 56) (L' := [some (.ref 1), some (.ref 1005), some (.int (nI j))]) (S' := [.int 0]) (σ' := lm_T M v G) rfl trivial ?_
          exact lm_G_re rfl (by decide) (Nat.zero_le _) (Nat.zero_le _) hQ
      ·
        replace hI : alB (fun i => decide (tB T (stS' T p + i) = w5.getD i 0)) 5 = true := hI
        show lm_G X d 30 106 0 0 28 [some (.ref 1), some (.ref 1005), some (.int (nI 5))] [] (lm_T M v G) Q
        refine lm_G_sg 3 (pc' := 33) (L' := [some (.ref 1), some (.ref 1005), some (.int (nI 5))]) (S' := [.int (Int32.ofNat 5), .int (nI 5)]) (σ' := lm_T M v G) rfl ⟨trivial, (Nat.le_of_ble_eq_true rfl), trivial⟩ ?_
        refine lm_G_br (b := (Int32.ofNat 5) ≤ (nI 5)) (t := 63) (S' := []) rfl (fun hc => ?_) (fun hc => absurd (nI_le (a := 5) (Nat.le_refl _) (by omega)) hc)
        rw [show isWd T p w5 = true from by unfold isWd; rw [show w5.length = 5 from rfl, decide_eq_true k3, decide_eq_true l3, hI]; rfl] at hQ
        refine lm_G_sg 1 (pc' := 64) (L' := [some (.ref 1), some (.ref 1005), some (.int (nI 5))]) (S' := [.int 1]) (σ' := lm_T M v G) rfl trivial ?_
        exact lm_G_re rfl (by decide) (Nat.zero_le _) (Nat.zero_le _) hQ
      ·
        try dsimp only
        rfl
def w6 : List Nat := [98, 114, 101, 97, 116, 104]
theorem w6_ok : ∀ j, j < 6 → (lm_wz 6).getD j 0 = nI (w6.getD j 0) ∧ w6.getD j 0 < 128 := by decide +kernel
set_option maxRecDepth 10000 in
theorem c_isWord6 {X : lm_X} {d v : Nat} {M : Nat → Nat → Int32} {G : Nat → Nat → Int64} {Q : lm_O → lm_S → Prop} {T : Tx} {p : Nat} (hT : okT T) (ht : RT M T p) (hp : p ≤ tN T) (hQ : Q (.inl (some (.int (b2i (isWd T p w6))))) (lm_T M v G)) : lm_Q X d 30 [.ref 1, .ref 1006] (lm_T M v G) Q := by
  show lm_G X d 30 106 0 0 0 [some (.ref 1), some (.ref 1006), none] [] (lm_T M v G) Q
  have kl := kn_le (T := T) (p := p)
  obtain ⟨el1, el2, el3⟩ := en_le hp
  have hn := hT.1
  refine lm_G_sg 2 (pc' := 4) (L' := [some (.ref 1), some (.ref 1006), none]) (S' := [.int (M 1 6)]) (σ' := lm_T M v G) rfl trivial ?_
  rw [show M 1 6 = nI (knS T p) from ht.2.1]
  refine lm_G_sg 1 (pc' := 5) (L' := [some (.ref 1), some (.ref 1006), none]) (S' := [.int 1, .int (nI (knS T p))]) (σ' := lm_T M v G) rfl trivial ?_
  refine lm_G_br (b := ¬ (nI (knS T p)) = 1) (t := 24) (S' := []) rfl (fun h1 => ?_) (fun h1 => ?_)
  ·
    have k3 : ¬ knS T p = 1 := fun w => h1 (by rw [w]; rfl)
    rw [show isWd T p w6 = false from by unfold isWd; rw [decide_eq_false k3]; rfl] at hQ
    refine lm_G_sg 1 (pc' := 25) (L' := [some (.ref 1), some (.ref 1006), none]) (S' := [.int 0]) (σ' := lm_T M v G) rfl trivial ?_
    exact lm_G_re rfl (by decide) (Nat.zero_le _) (Nat.zero_le _) hQ
  ·
    have k3 : knS T p = 1 := (nI_eq (b := 1) (by omega) (by omega)).mp (Classical.not_not.mp h1)
    refine lm_G_sg 2 (pc' := 12) (L' := [some (.ref 1), some (.ref 1006), none]) (S' := [.int (M 1 8)]) (σ' := lm_T M v G) rfl trivial ?_
    rw [show M 1 8 = nI (enS T p) from ht.2.2.2.1]
    refine lm_G_sg 2 (pc' := 16) (L' := [some (.ref 1), some (.ref 1006), none]) (S' := [.int (M 1 7), .int (nI (enS T p))]) (σ' := lm_T M v G) rfl trivial ?_
    rw [show M 1 7 = nI (stS' T p) from ht.2.2.1]
    refine lm_G_sg 1 (pc' := 17) (L' := [some (.ref 1), some (.ref 1006), none]) (S' := [.int ((nI (enS T p)) - (nI (stS' T p)))]) (σ' := lm_T M v G) rfl trivial ?_
    rw [show (nI (enS T p)) - (nI (stS' T p)) = nI (lnS T p) from nI_sub (by omega)]
    have ll : lnS T p ≤ 700 := by unfold lnS; omega
    refine lm_G_sg 2 (pc' := 21) (L' := [some (.ref 1), some (.ref 1006), none]) (S' := [.int (Int32.ofNat 6), .int (nI (lnS T p))]) (σ' := lm_T M v G) rfl ⟨trivial, (Nat.le_of_ble_eq_true rfl), trivial⟩ ?_
    refine lm_G_br (b := (nI (lnS T p)) = (Int32.ofNat 6)) (t := 26) (S' := []) rfl (fun h2 => ?_) (fun h2 => ?_)
    rotate_left
    ·
      have l3 : ¬ lnS T p = w6.length := fun w => h2 (by rw [w]; rfl)
      rw [show isWd T p w6 = false from by unfold isWd; rw [decide_eq_false l3, Bool.false_and, Bool.and_false]] at hQ
      refine lm_G_sg 1 (pc' := 25) (L' := [some (.ref 1), some (.ref 1006), none]) (S' := [.int 0]) (σ' := lm_T M v G) rfl trivial ?_
      exact lm_G_re rfl (by decide) (Nat.zero_le _) (Nat.zero_le _) hQ
    ·
      have l3 : lnS T p = 6 := (nI_eq (b := 6) (by omega) (by omega)).mp h2
      have le3 : enS T p - stS' T p = 6 := l3
      refine lm_G_sg 2 (pc' := 28) (L' := [some (.ref 1), some (.ref 1006), some (.int 0)]) (S' := []) (σ' := lm_T M v G) rfl trivial ?_
      refine lm_ind (α := Unit) (St := fun (j : Nat) zz => lm_G X d 30 106 0 0 28 [some (.ref 1), some (.ref 1006), some (.int (nI j))] [] (lm_T M v G) Q) (Inv := fun (j : Nat) zz => alB (fun i => decide (tB T (stS' T p + i) = w6.getD i 0)) j = true) (6) (fun j zz hj hI ih => ?_) (fun zz hI => ?_) (0) () (by omega) ?_
      ·
        replace hI : alB (fun i => decide (tB T (stS' T p + i) = w6.getD i 0)) j = true := hI
        replace ih : ∀ (_ : alB (fun i => decide (tB T (stS' T p + i) = w6.getD i 0)) (j + 1) = true), lm_G X d 30 106 0 0 28 [some (.ref 1), some (.ref 1006), some (.int (nI (j + 1)))] [] (lm_T M v G) Q := fun q => ih () q
        show lm_G X d 30 106 0 0 28 [some (.ref 1), some (.ref 1006), some (.int (nI j))] [] (lm_T M v G) Q
        have hbb := hT.2 (stS' T p + j) (by omega)
        obtain ⟨v1, v2⟩ := w6_ok j hj
        refine lm_G_sg 3 (pc' := 33) (L' := [some (.ref 1), some (.ref 1006), some (.int (nI j))]) (S' := [.int (Int32.ofNat 6), .int (nI j)]) (σ' := lm_T M v G) rfl ⟨trivial, (Nat.le_of_ble_eq_true rfl), trivial⟩ ?_
        refine lm_G_br (b := (Int32.ofNat 6) ≤ (nI j)) (t := 63) (S' := []) rfl (fun hc => absurd hc (nI_ge (b := 6) hj (by omega))) (fun hc => ?_)
        refine lm_G_sg 4 (pc' := 44) (L' := [some (.ref 1), some (.ref 1006), some (.int (nI j))]) (S' := [.int (M 1 7), .ref 2]) (σ' := lm_T M v G) rfl trivial ?_
        rw [show M 1 7 = nI (stS' T p) from ht.2.2.1]
        refine lm_G_sg 2 (pc' := 46) (L' := [some (.ref 1), some (.ref 1006), some (.int (nI j))]) (S' := [.int ((nI (stS' T p)) + (nI j)), .ref 2]) (σ' := lm_T M v G) rfl trivial ?_
        rw [show (nI (stS' T p)) + (nI j) = nI ((stS' T p) + j) from nI_add (stS' T p) j]
        refine lm_G_sg 1 (pc' := 47) (L' := [some (.ref 1), some (.ref 1006), some (.int (nI j))]) (S' := [.int (M 2 (nI ((stS' T p) + j)).toNatClampNeg)]) (σ' := lm_T M v G) rfl ⟨(vp_in_nI (by omega) (by omega)), trivial, trivial⟩ ?_
        rw [show (nI ((stS' T p) + j)).toNatClampNeg = ((stS' T p) + j) from nI_clamp (by omega)]
        rw [show M 2 ((stS' T p) + j) = sB (tB T ((stS' T p) + j)) from ht.1.2 ((stS' T p) + j) (by omega)]
        refine lm_G_sg 3 (pc' := 52) (L' := [some (.ref 1), some (.ref 1006), some (.int (nI j))]) (S' := [.int ((lm_wz 6).getD (nI j).toNatClampNeg 0), .int (sB (tB T ((stS' T p) + j)))]) (σ' := lm_T M v G) rfl ⟨(show vp_in _ 6 from vp_in_nI (by omega) (by omega)), (Nat.le_of_ble_eq_true rfl), trivial⟩ ?_
        rw [nI_clamp (n := j) (by omega), v1]
        refine lm_G_br (b := (sB (tB T ((stS' T p) + j))) = (nI (w6.getD j 0))) (t := 57) (S' := []) rfl (fun h5 => ?_) (fun h5 => ?_)
        ·
          refine lm_G_sg 1 (pc' := 60) (L' := [some (.ref 1), some (.ref 1006), some (.int ((nI j) + 1))]) (S' := []) (σ' := lm_T M v G) rfl trivial ?_
          rw [nI_1]
          refine lm_G_sg 1 (pc' := 28) (L' := [some (.ref 1), some (.ref 1006), some (.int (nI (j + 1)))]) (S' := []) (σ' := lm_T M v G) rfl trivial ?_
          exact ih  (by simp only [alB]; rw [hI, decide_eq_true ((sB_eq _ hbb _ v2).mp h5)]; rfl)
        ·
          have e5 : alB (fun i => decide (tB T (stS' T p + i) = w6.getD i 0)) 6 = false := al_f hj (decide_eq_false (fun w => h5 ((sB_eq _ hbb _ v2).mpr w)))
          rw [show isWd T p w6 = false from by unfold isWd; rw [show w6.length = 6 from rfl, e5, Bool.and_false, Bool.and_false]] at hQ
          refine lm_G_sg 1 (pc' := 56) (L' := [some (.ref 1), some (.ref 1006), some (.int (nI j))]) (S' := [.int 0]) (σ' := lm_T M v G) rfl trivial ?_
          exact lm_G_re rfl (by decide) (Nat.zero_le _) (Nat.zero_le _) hQ
      ·
        replace hI : alB (fun i => decide (tB T (stS' T p + i) = w6.getD i 0)) 6 = true := hI
        show lm_G X d 30 106 0 0 28 [some (.ref 1), some (.ref 1006), some (.int (nI 6))] [] (lm_T M v G) Q
        refine lm_G_sg 3 (pc' := 33) (L' := [some (.ref 1), some (.ref 1006), some (.int (nI 6))]) (S' := [.int (Int32.ofNat 6), .int (nI 6)]) (σ' := lm_T M v G) rfl ⟨trivial, (Nat.le_of_ble_eq_true rfl), trivial⟩ ?_
        refine lm_G_br (b := (Int32.ofNat 6) ≤ (nI 6)) (t := 63) (S' := []) rfl (fun hc => ?_) (fun hc => absurd (nI_le (a := 6) (Nat.le_refl _) (by omega)) hc)
        rw [show isWd T p w6 = true from by unfold isWd; rw [show w6.length = 6 from rfl, decide_eq_true k3, decide_eq_true l3, hI]; rfl] at hQ
        refine lm_G_sg 1 (pc' := 64) (L' := [some (.ref 1), some (.ref 1006), some (.int (nI 6))]) (S' := [.int 1]) (σ' := lm_T M v G) rfl trivial ?_
        exact lm_G_re rfl (by decide) (Nat.zero_le _) (Nat.zero_le _) hQ
      ·
        try dsimp only
        rfl
def w7 : List Nat := [97, 105, 114]
theorem w7_ok : ∀ j, j < 3 → (lm_wz 7).getD j 0 = nI (w7.getD j 0) ∧ w7.getD j 0 < 128 := by decide +kernel
set_option maxRecDepth 10000 in
theorem c_isWord7 {X : lm_X} {d v : Nat} {M : Nat → Nat → Int32} {G : Nat → Nat → Int64} {Q : lm_O → lm_S → Prop} {T : Tx} {p : Nat} (hT : okT T) (ht : RT M T p) (hp : p ≤ tN T) (hQ : Q (.inl (some (.int (b2i (isWd T p w7))))) (lm_T M v G)) : lm_Q X d 30 [.ref 1, .ref 1007] (lm_T M v G) Q := by
  show lm_G X d 30 106 0 0 0 [some (.ref 1), some (.ref 1007), none] [] (lm_T M v G) Q
  have kl := kn_le (T := T) (p := p)
  obtain ⟨el1, el2, el3⟩ := en_le hp
  have hn := hT.1
  refine lm_G_sg 2 (pc' := 4) (L' := [some (.ref 1), some (.ref 1007), none]) (S' := [.int (M 1 6)]) (σ' := lm_T M v G) rfl trivial ?_
  rw [show M 1 6 = nI (knS T p) from ht.2.1]
  refine lm_G_sg 1 (pc' := 5) (L' := [some (.ref 1), some (.ref 1007), none]) (S' := [.int 1, .int (nI (knS T p))]) (σ' := lm_T M v G) rfl trivial ?_
  refine lm_G_br (b := ¬ (nI (knS T p)) = 1) (t := 24) (S' := []) rfl (fun h1 => ?_) (fun h1 => ?_)
  ·
    have k3 : ¬ knS T p = 1 := fun w => h1 (by rw [w]; rfl)
    rw [show isWd T p w7 = false from by unfold isWd; rw [decide_eq_false k3]; rfl] at hQ
    refine lm_G_sg 1 (pc' := 25) (L' := [some (.ref 1), some (.ref 1007), none]) (S' := [.int 0]) (σ' := lm_T M v G) rfl trivial ?_
    exact lm_G_re rfl (by decide) (Nat.zero_le _) (Nat.zero_le _) hQ
  ·
    have k3 : knS T p = 1 := (nI_eq (b := 1) (by omega) (by omega)).mp (Classical.not_not.mp h1)
    refine lm_G_sg 2 (pc' := 12) (L' := [some (.ref 1), some (.ref 1007), none]) (S' := [.int (M 1 8)]) (σ' := lm_T M v G) rfl trivial ?_
    rw [show M 1 8 = nI (enS T p) from ht.2.2.2.1]
    refine lm_G_sg 2 (pc' := 16) (L' := [some (.ref 1), some (.ref 1007), none]) (S' := [.int (M 1 7), .int (nI (enS T p))]) (σ' := lm_T M v G) rfl trivial ?_
    rw [show M 1 7 = nI (stS' T p) from ht.2.2.1]
    refine lm_G_sg 1 (pc' := 17) (L' := [some (.ref 1), some (.ref 1007), none]) (S' := [.int ((nI (enS T p)) - (nI (stS' T p)))]) (σ' := lm_T M v G) rfl trivial ?_
    rw [show (nI (enS T p)) - (nI (stS' T p)) = nI (lnS T p) from nI_sub (by omega)]
    have ll : lnS T p ≤ 700 := by unfold lnS; omega
    refine lm_G_sg 2 (pc' := 21) (L' := [some (.ref 1), some (.ref 1007), none]) (S' := [.int (Int32.ofNat 3), .int (nI (lnS T p))]) (σ' := lm_T M v G) rfl ⟨trivial, (Nat.le_of_ble_eq_true rfl), trivial⟩ ?_
    refine lm_G_br (b := (nI (lnS T p)) = (Int32.ofNat 3)) (t := 26) (S' := []) rfl (fun h2 => ?_) (fun h2 => ?_)
    rotate_left
    ·
      have l3 : ¬ lnS T p = w7.length := fun w => h2 (by rw [w]; rfl)
      rw [show isWd T p w7 = false from by unfold isWd; rw [decide_eq_false l3, Bool.false_and, Bool.and_false]] at hQ
      refine lm_G_sg 1 (pc' := 25) (L' := [some (.ref 1), some (.ref 1007), none]) (S' := [.int 0]) (σ' := lm_T M v G) rfl trivial ?_
      exact lm_G_re rfl (by decide) (Nat.zero_le _) (Nat.zero_le _) hQ
    ·
      have l3 : lnS T p = 3 := (nI_eq (b := 3) (by omega) (by omega)).mp h2
      have le3 : enS T p - stS' T p = 3 := l3
      refine lm_G_sg 2 (pc' := 28) (L' := [some (.ref 1), some (.ref 1007), some (.int 0)]) (S' := []) (σ' := lm_T M v G) rfl trivial ?_
      refine lm_ind (α := Unit) (St := fun (j : Nat) zz => lm_G X d 30 106 0 0 28 [some (.ref 1), some (.ref 1007), some (.int (nI j))] [] (lm_T M v G) Q) (Inv := fun (j : Nat) zz => alB (fun i => decide (tB T (stS' T p + i) = w7.getD i 0)) j = true) (3) (fun j zz hj hI ih => ?_) (fun zz hI => ?_) (0) () (by omega) ?_
      ·
        replace hI : alB (fun i => decide (tB T (stS' T p + i) = w7.getD i 0)) j = true := hI
        replace ih : ∀ (_ : alB (fun i => decide (tB T (stS' T p + i) = w7.getD i 0)) (j + 1) = true), lm_G X d 30 106 0 0 28 [some (.ref 1), some (.ref 1007), some (.int (nI (j + 1)))] [] (lm_T M v G) Q := fun q => ih () q
        show lm_G X d 30 106 0 0 28 [some (.ref 1), some (.ref 1007), some (.int (nI j))] [] (lm_T M v G) Q
        have hbb := hT.2 (stS' T p + j) (by omega)
        obtain ⟨v1, v2⟩ := w7_ok j hj
        refine lm_G_sg 3 (pc' := 33) (L' := [some (.ref 1), some (.ref 1007), some (.int (nI j))]) (S' := [.int (Int32.ofNat 3), .int (nI j)]) (σ' := lm_T M v G) rfl ⟨trivial, (Nat.le_of_ble_eq_true rfl), trivial⟩ ?_
        refine lm_G_br (b := (Int32.ofNat 3) ≤ (nI j)) (t := 63) (S' := []) rfl (fun hc => absurd hc (nI_ge (b := 3) hj (by omega))) (fun hc => ?_)
        refine lm_G_sg 4 (pc' := 44) (L' := [some (.ref 1), some (.ref 1007), some (.int (nI j))]) (S' := [.int (M 1 7), .ref 2]) (σ' := lm_T M v G) rfl trivial ?_
        rw [show M 1 7 = nI (stS' T p) from ht.2.2.1]
        refine lm_G_sg 2 (pc' := 46) (L' := [some (.ref 1), some (.ref 1007), some (.int (nI j))]) (S' := [.int ((nI (stS' T p)) + (nI j)), .ref 2]) (σ' := lm_T M v G) rfl trivial ?_
        rw [show (nI (stS' T p)) + (nI j) = nI ((stS' T p) + j) from nI_add (stS' T p) j]
        refine lm_G_sg 1 (pc' := 47) (L' := [some (.ref 1), some (.ref 1007), some (.int (nI j))]) (S' := [.int (M 2 (nI ((stS' T p) + j)).toNatClampNeg)]) (σ' := lm_T M v G) rfl ⟨(vp_in_nI (by omega) (by omega)), trivial, trivial⟩ ?_
        rw [show (nI ((stS' T p) + j)).toNatClampNeg = ((stS' T p) + j) from nI_clamp (by omega)]
        rw [show M 2 ((stS' T p) + j) = sB (tB T ((stS' T p) + j)) from ht.1.2 ((stS' T p) + j) (by omega)]
        refine lm_G_sg 3 (pc' := 52) (L' := [some (.ref 1), some (.ref 1007), some (.int (nI j))]) (S' := [.int ((lm_wz 7).getD (nI j).toNatClampNeg 0), .int (sB (tB T ((stS' T p) + j)))]) (σ' := lm_T M v G) rfl ⟨(show vp_in _ 3 from vp_in_nI (by omega) (by omega)), (Nat.le_of_ble_eq_true rfl), trivial⟩ ?_
        rw [nI_clamp (n := j) (by omega), v1]
        refine lm_G_br (b := (sB (tB T ((stS' T p) + j))) = (nI (w7.getD j 0))) (t := 57) (S' := []) rfl (fun h5 => ?_) (fun h5 => ?_)
        ·
          refine lm_G_sg 1 (pc' := 60) (L' := [some (.ref 1), some (.ref 1007), some (.int ((nI j) + 1))]) (S' := []) (σ' := lm_T M v G) rfl trivial ?_
          rw [nI_1]
          refine lm_G_sg 1 (pc' := 28) (L' := [some (.ref 1), some (.ref 1007), some (.int (nI (j + 1)))]) (S' := []) (σ' := lm_T M v G) rfl trivial ?_
          exact ih  (by simp only [alB]; rw [hI, decide_eq_true ((sB_eq _ hbb _ v2).mp h5)]; rfl)
        ·
          have e5 : alB (fun i => decide (tB T (stS' T p + i) = w7.getD i 0)) 3 = false := al_f hj (decide_eq_false (fun w => h5 ((sB_eq _ hbb _ v2).mpr w)))
          rw [show isWd T p w7 = false from by unfold isWd; rw [show w7.length = 3 from rfl, e5, Bool.and_false, Bool.and_false]] at hQ
          refine lm_G_sg 1 (pc' := 56) (L' := [some (.ref 1), some (.ref 1007), some (.int (nI j))]) (S' := [.int 0]) (σ' := lm_T M v G) rfl trivial ?_
          exact lm_G_re rfl (by decide) (Nat.zero_le _) (Nat.zero_le _) hQ
      ·
        replace hI : alB (fun i => decide (tB T (stS' T p + i) = w7.getD i 0)) 3 = true := hI
        show lm_G X d 30 106 0 0 28 [some (.ref 1), some (.ref 1007), some (.int (nI 3))] [] (lm_T M v G) Q
        refine lm_G_sg 3 (pc' := 33) (L' := [some (.ref 1), some (.ref 1007), some (.int (nI 3))]) (S' := [.int (Int32.ofNat 3), .int (nI 3)]) (σ' := lm_T M v G) rfl ⟨trivial, (Nat.le_of_ble_eq_true rfl), trivial⟩ ?_
        refine lm_G_br (b := (Int32.ofNat 3) ≤ (nI 3)) (t := 63) (S' := []) rfl (fun hc => ?_) (fun hc => absurd (nI_le (a := 3) (Nat.le_refl _) (by omega)) hc)
        rw [show isWd T p w7 = true from by unfold isWd; rw [show w7.length = 3 from rfl, decide_eq_true k3, decide_eq_true l3, hI]; rfl] at hQ
        refine lm_G_sg 1 (pc' := 64) (L' := [some (.ref 1), some (.ref 1007), some (.int (nI 3))]) (S' := [.int 1]) (σ' := lm_T M v G) rfl trivial ?_
        exact lm_G_re rfl (by decide) (Nat.zero_le _) (Nat.zero_le _) hQ
      ·
        try dsimp only
        rfl
def w8 : List Nat := [119, 105, 116, 104]
theorem w8_ok : ∀ j, j < 4 → (lm_wz 8).getD j 0 = nI (w8.getD j 0) ∧ w8.getD j 0 < 128 := by decide +kernel
set_option maxRecDepth 10000 in
theorem c_isWord8 {X : lm_X} {d v : Nat} {M : Nat → Nat → Int32} {G : Nat → Nat → Int64} {Q : lm_O → lm_S → Prop} {T : Tx} {p : Nat} (hT : okT T) (ht : RT M T p) (hp : p ≤ tN T) (hQ : Q (.inl (some (.int (b2i (isWd T p w8))))) (lm_T M v G)) : lm_Q X d 30 [.ref 1, .ref 1008] (lm_T M v G) Q := by
  show lm_G X d 30 106 0 0 0 [some (.ref 1), some (.ref 1008), none] [] (lm_T M v G) Q
  have kl := kn_le (T := T) (p := p)
  obtain ⟨el1, el2, el3⟩ := en_le hp
  have hn := hT.1
  refine lm_G_sg 2 (pc' := 4) (L' := [some (.ref 1), some (.ref 1008), none]) (S' := [.int (M 1 6)]) (σ' := lm_T M v G) rfl trivial ?_
  rw [show M 1 6 = nI (knS T p) from ht.2.1]
  refine lm_G_sg 1 (pc' := 5) (L' := [some (.ref 1), some (.ref 1008), none]) (S' := [.int 1, .int (nI (knS T p))]) (σ' := lm_T M v G) rfl trivial ?_
  refine lm_G_br (b := ¬ (nI (knS T p)) = 1) (t := 24) (S' := []) rfl (fun h1 => ?_) (fun h1 => ?_)
  ·
    have k3 : ¬ knS T p = 1 := fun w => h1 (by rw [w]; rfl)
    rw [show isWd T p w8 = false from by unfold isWd; rw [decide_eq_false k3]; rfl] at hQ
    refine lm_G_sg 1 (pc' := 25) (L' := [some (.ref 1), some (.ref 1008), none]) (S' := [.int 0]) (σ' := lm_T M v G) rfl trivial ?_
    exact lm_G_re rfl (by decide) (Nat.zero_le _) (Nat.zero_le _) hQ
  ·
    have k3 : knS T p = 1 := (nI_eq (b := 1) (by omega) (by omega)).mp (Classical.not_not.mp h1)
    refine lm_G_sg 2 (pc' := 12) (L' := [some (.ref 1), some (.ref 1008), none]) (S' := [.int (M 1 8)]) (σ' := lm_T M v G) rfl trivial ?_
    rw [show M 1 8 = nI (enS T p) from ht.2.2.2.1]
    refine lm_G_sg 2 (pc' := 16) (L' := [some (.ref 1), some (.ref 1008), none]) (S' := [.int (M 1 7), .int (nI (enS T p))]) (σ' := lm_T M v G) rfl trivial ?_
    rw [show M 1 7 = nI (stS' T p) from ht.2.2.1]
    refine lm_G_sg 1 (pc' := 17) (L' := [some (.ref 1), some (.ref 1008), none]) (S' := [.int ((nI (enS T p)) - (nI (stS' T p)))]) (σ' := lm_T M v G) rfl trivial ?_
    rw [show (nI (enS T p)) - (nI (stS' T p)) = nI (lnS T p) from nI_sub (by omega)]
    have ll : lnS T p ≤ 700 := by unfold lnS; omega
    refine lm_G_sg 2 (pc' := 21) (L' := [some (.ref 1), some (.ref 1008), none]) (S' := [.int (Int32.ofNat 4), .int (nI (lnS T p))]) (σ' := lm_T M v G) rfl ⟨trivial, (Nat.le_of_ble_eq_true rfl), trivial⟩ ?_
    refine lm_G_br (b := (nI (lnS T p)) = (Int32.ofNat 4)) (t := 26) (S' := []) rfl (fun h2 => ?_) (fun h2 => ?_)
    rotate_left
    ·
      have l3 : ¬ lnS T p = w8.length := fun w => h2 (by rw [w]; rfl)
      rw [show isWd T p w8 = false from by unfold isWd; rw [decide_eq_false l3, Bool.false_and, Bool.and_false]] at hQ
      refine lm_G_sg 1 (pc' := 25) (L' := [some (.ref 1), some (.ref 1008), none]) (S' := [.int 0]) (σ' := lm_T M v G) rfl trivial ?_
      exact lm_G_re rfl (by decide) (Nat.zero_le _) (Nat.zero_le _) hQ
    ·
      have l3 : lnS T p = 4 := (nI_eq (b := 4) (by omega) (by omega)).mp h2
      have le3 : enS T p - stS' T p = 4 := l3
      refine lm_G_sg 2 (pc' := 28) (L' := [some (.ref 1), some (.ref 1008), some (.int 0)]) (S' := []) (σ' := lm_T M v G) rfl trivial ?_
      refine lm_ind (α := Unit) (St := fun (j : Nat) zz => lm_G X d 30 106 0 0 28 [some (.ref 1), some (.ref 1008), some (.int (nI j))] [] (lm_T M v G) Q) (Inv := fun (j : Nat) zz => alB (fun i => decide (tB T (stS' T p + i) = w8.getD i 0)) j = true) (4) (fun j zz hj hI ih => ?_) (fun zz hI => ?_) (0) () (by omega) ?_
      ·
        replace hI : alB (fun i => decide (tB T (stS' T p + i) = w8.getD i 0)) j = true := hI
        replace ih : ∀ (_ : alB (fun i => decide (tB T (stS' T p + i) = w8.getD i 0)) (j + 1) = true), lm_G X d 30 106 0 0 28 [some (.ref 1), some (.ref 1008), some (.int (nI (j + 1)))] [] (lm_T M v G) Q := fun q => ih () q
        show lm_G X d 30 106 0 0 28 [some (.ref 1), some (.ref 1008), some (.int (nI j))] [] (lm_T M v G) Q
        have hbb := hT.2 (stS' T p + j) (by omega)
        obtain ⟨v1, v2⟩ := w8_ok j hj
        refine lm_G_sg 3 (pc' := 33) (L' := [some (.ref 1), some (.ref 1008), some (.int (nI j))]) (S' := [.int (Int32.ofNat 4), .int (nI j)]) (σ' := lm_T M v G) rfl ⟨trivial, (Nat.le_of_ble_eq_true rfl), trivial⟩ ?_
        refine lm_G_br (b := (Int32.ofNat 4) ≤ (nI j)) (t := 63) (S' := []) rfl (fun hc => absurd hc (nI_ge (b := 4) hj (by omega))) (fun hc => ?_)
        refine lm_G_sg 4 (pc' := 44) (L' := [some (.ref 1), some (.ref 1008), some (.int (nI j))]) (S' := [.int (M 1 7), .ref 2]) (σ' := lm_T M v G) rfl trivial ?_
        rw [show M 1 7 = nI (stS' T p) from ht.2.2.1]
        refine lm_G_sg 2 (pc' := 46) (L' := [some (.ref 1), some (.ref 1008), some (.int (nI j))]) (S' := [.int ((nI (stS' T p)) + (nI j)), .ref 2]) (σ' := lm_T M v G) rfl trivial ?_
        rw [show (nI (stS' T p)) + (nI j) = nI ((stS' T p) + j) from nI_add (stS' T p) j]
        refine lm_G_sg 1 (pc' := 47) (L' := [some (.ref 1), some (.ref 1008), some (.int (nI j))]) (S' := [.int (M 2 (nI ((stS' T p) + j)).toNatClampNeg)]) (σ' := lm_T M v G) rfl ⟨(vp_in_nI (by omega) (by omega)), trivial, trivial⟩ ?_
        rw [show (nI ((stS' T p) + j)).toNatClampNeg = ((stS' T p) + j) from nI_clamp (by omega)]
        rw [show M 2 ((stS' T p) + j) = sB (tB T ((stS' T p) + j)) from ht.1.2 ((stS' T p) + j) (by omega)]
        refine lm_G_sg 3 (pc' := 52) (L' := [some (.ref 1), some (.ref 1008), some (.int (nI j))]) (S' := [.int ((lm_wz 8).getD (nI j).toNatClampNeg 0), .int (sB (tB T ((stS' T p) + j)))]) (σ' := lm_T M v G) rfl ⟨(show vp_in _ 4 from vp_in_nI (by omega) (by omega)), (Nat.le_of_ble_eq_true rfl), trivial⟩ ?_
        rw [nI_clamp (n := j) (by omega), v1]
        refine lm_G_br (b := (sB (tB T ((stS' T p) + j))) = (nI (w8.getD j 0))) (t := 57) (S' := []) rfl (fun h5 => ?_) (fun h5 => ?_)
        ·
          refine lm_G_sg 1 (pc' := 60) (L' := [some (.ref 1), some (.ref 1008), some (.int ((nI j) + 1))]) (S' := []) (σ' := lm_T M v G) rfl trivial ?_
          rw [nI_1]
          refine lm_G_sg 1 (pc' := 28) (L' := [some (.ref 1), some (.ref 1008), some (.int (nI (j + 1)))]) (S' := []) (σ' := lm_T M v G) rfl trivial ?_
          exact ih  (by simp only [alB]; rw [hI, decide_eq_true ((sB_eq _ hbb _ v2).mp h5)]; rfl)
        ·
          have e5 : alB (fun i => decide (tB T (stS' T p + i) = w8.getD i 0)) 4 = false := al_f hj (decide_eq_false (fun w => h5 ((sB_eq _ hbb _ v2).mpr w)))
          rw [show isWd T p w8 = false from by unfold isWd; rw [show w8.length = 4 from rfl, e5, Bool.and_false, Bool.and_false]] at hQ
          refine lm_G_sg 1 (pc' := 56) (L' := [some (.ref 1), some (.ref 1008), some (.int (nI j))]) (S' := [.int 0]) (σ' := lm_T M v G) rfl trivial ?_
          exact lm_G_re rfl (by decide) (Nat.zero_le _) (Nat.zero_le _) hQ
      ·
        replace hI : alB (fun i => decide (tB T (stS' T p + i) = w8.getD i 0)) 4 = true := hI
        show lm_G X d 30 106 0 0 28 [some (.ref 1), some (.ref 1008), some (.int (nI 4))] [] (lm_T M v G) Q
        refine lm_G_sg 3 (pc' := 33) (L' := [some (.ref 1), some (.ref 1008), some (.int (nI 4))]) (S' := [.int (Int32.ofNat 4), .int (nI 4)]) (σ' := lm_T M v G) rfl ⟨trivial, (Nat.le_of_ble_eq_true rfl), trivial⟩ ?_
        refine lm_G_br (b := (Int32.ofNat 4) ≤ (nI 4)) (t := 63) (S' := []) rfl (fun hc => ?_) (fun hc => absurd (nI_le (a := 4) (Nat.le_refl _) (by omega)) hc)
        rw [show isWd T p w8 = true from by unfold isWd; rw [show w8.length = 4 from rfl, decide_eq_true k3, decide_eq_true l3, hI]; rfl] at hQ
        refine lm_G_sg 1 (pc' := 64) (L' := [some (.ref 1), some (.ref 1008), some (.int (nI 4))]) (S' := [.int 1]) (σ' := lm_T M v G) rfl trivial ?_
        exact lm_G_re rfl (by decide) (Nat.zero_le _) (Nat.zero_le _) hQ
      ·
        try dsimp only
        rfl
def w9 : List Nat := [116, 117, 110, 101, 115]
theorem w9_ok : ∀ j, j < 5 → (lm_wz 9).getD j 0 = nI (w9.getD j 0) ∧ w9.getD j 0 < 128 := by decide +kernel
set_option maxRecDepth 10000 in
theorem c_isWord9 {X : lm_X} {d v : Nat} {M : Nat → Nat → Int32} {G : Nat → Nat → Int64} {Q : lm_O → lm_S → Prop} {T : Tx} {p : Nat} (hT : okT T) (ht : RT M T p) (hp : p ≤ tN T) (hQ : Q (.inl (some (.int (b2i (isWd T p w9))))) (lm_T M v G)) : lm_Q X d 30 [.ref 1, .ref 1009] (lm_T M v G) Q := by
  show lm_G X d 30 106 0 0 0 [some (.ref 1), some (.ref 1009), none] [] (lm_T M v G) Q
  have kl := kn_le (T := T) (p := p)
  obtain ⟨el1, el2, el3⟩ := en_le hp
  have hn := hT.1
  refine lm_G_sg 2 (pc' := 4) (L' := [some (.ref 1), some (.ref 1009), none]) (S' := [.int (M 1 6)]) (σ' := lm_T M v G) rfl trivial ?_
  rw [show M 1 6 = nI (knS T p) from ht.2.1]
  refine lm_G_sg 1 (pc' := 5) (L' := [some (.ref 1), some (.ref 1009), none]) (S' := [.int 1, .int (nI (knS T p))]) (σ' := lm_T M v G) rfl trivial ?_
  refine lm_G_br (b := ¬ (nI (knS T p)) = 1) (t := 24) (S' := []) rfl (fun h1 => ?_) (fun h1 => ?_)
  ·
    have k3 : ¬ knS T p = 1 := fun w => h1 (by rw [w]; rfl)
    rw [show isWd T p w9 = false from by unfold isWd; rw [decide_eq_false k3]; rfl] at hQ
    refine lm_G_sg 1 (pc' := 25) (L' := [some (.ref 1), some (.ref 1009), none]) (S' := [.int 0]) (σ' := lm_T M v G) rfl trivial ?_
    exact lm_G_re rfl (by decide) (Nat.zero_le _) (Nat.zero_le _) hQ
  ·
    have k3 : knS T p = 1 := (nI_eq (b := 1) (by omega) (by omega)).mp (Classical.not_not.mp h1)
    refine lm_G_sg 2 (pc' := 12) (L' := [some (.ref 1), some (.ref 1009), none]) (S' := [.int (M 1 8)]) (σ' := lm_T M v G) rfl trivial ?_
    rw [show M 1 8 = nI (enS T p) from ht.2.2.2.1]
    refine lm_G_sg 2 (pc' := 16) (L' := [some (.ref 1), some (.ref 1009), none]) (S' := [.int (M 1 7), .int (nI (enS T p))]) (σ' := lm_T M v G) rfl trivial ?_
    rw [show M 1 7 = nI (stS' T p) from ht.2.2.1]
    refine lm_G_sg 1 (pc' := 17) (L' := [some (.ref 1), some (.ref 1009), none]) (S' := [.int ((nI (enS T p)) - (nI (stS' T p)))]) (σ' := lm_T M v G) rfl trivial ?_
    rw [show (nI (enS T p)) - (nI (stS' T p)) = nI (lnS T p) from nI_sub (by omega)]
    have ll : lnS T p ≤ 700 := by unfold lnS; omega
    refine lm_G_sg 2 (pc' := 21) (L' := [some (.ref 1), some (.ref 1009), none]) (S' := [.int (Int32.ofNat 5), .int (nI (lnS T p))]) (σ' := lm_T M v G) rfl ⟨trivial, (Nat.le_of_ble_eq_true rfl), trivial⟩ ?_
    refine lm_G_br (b := (nI (lnS T p)) = (Int32.ofNat 5)) (t := 26) (S' := []) rfl (fun h2 => ?_) (fun h2 => ?_)
    rotate_left
    ·
      have l3 : ¬ lnS T p = w9.length := fun w => h2 (by rw [w]; rfl)
      rw [show isWd T p w9 = false from by unfold isWd; rw [decide_eq_false l3, Bool.false_and, Bool.and_false]] at hQ
      refine lm_G_sg 1 (pc' := 25) (L' := [some (.ref 1), some (.ref 1009), none]) (S' := [.int 0]) (σ' := lm_T M v G) rfl trivial ?_
      exact lm_G_re rfl (by decide) (Nat.zero_le _) (Nat.zero_le _) hQ
    ·
      have l3 : lnS T p = 5 := (nI_eq (b := 5) (by omega) (by omega)).mp h2
      have le3 : enS T p - stS' T p = 5 := l3
      refine lm_G_sg 2 (pc' := 28) (L' := [some (.ref 1), some (.ref 1009), some (.int 0)]) (S' := []) (σ' := lm_T M v G) rfl trivial ?_
      refine lm_ind (α := Unit) (St := fun (j : Nat) zz => lm_G X d 30 106 0 0 28 [some (.ref 1), some (.ref 1009), some (.int (nI j))] [] (lm_T M v G) Q) (Inv := fun (j : Nat) zz => alB (fun i => decide (tB T (stS' T p + i) = w9.getD i 0)) j = true) (5) (fun j zz hj hI ih => ?_) (fun zz hI => ?_) (0) () (by omega) ?_
      ·
        replace hI : alB (fun i => decide (tB T (stS' T p + i) = w9.getD i 0)) j = true := hI
        replace ih : ∀ (_ : alB (fun i => decide (tB T (stS' T p + i) = w9.getD i 0)) (j + 1) = true), lm_G X d 30 106 0 0 28 [some (.ref 1), some (.ref 1009), some (.int (nI (j + 1)))] [] (lm_T M v G) Q := fun q => ih () q
        show lm_G X d 30 106 0 0 28 [some (.ref 1), some (.ref 1009), some (.int (nI j))] [] (lm_T M v G) Q
        have hbb := hT.2 (stS' T p + j) (by omega)
        obtain ⟨v1, v2⟩ := w9_ok j hj
        refine lm_G_sg 3 (pc' := 33) (L' := [some (.ref 1), some (.ref 1009), some (.int (nI j))]) (S' := [.int (Int32.ofNat 5), .int (nI j)]) (σ' := lm_T M v G) rfl ⟨trivial, (Nat.le_of_ble_eq_true rfl), trivial⟩ ?_
        refine lm_G_br (b := (Int32.ofNat 5) ≤ (nI j)) (t := 63) (S' := []) rfl (fun hc => absurd hc (nI_ge (b := 5) hj (by omega))) (fun hc => ?_)
        refine lm_G_sg 4 (pc' := 44) (L' := [some (.ref 1), some (.ref 1009), some (.int (nI j))]) (S' := [.int (M 1 7), .ref 2]) (σ' := lm_T M v G) rfl trivial ?_
        rw [show M 1 7 = nI (stS' T p) from ht.2.2.1]
        refine lm_G_sg 2 (pc' := 46) (L' := [some (.ref 1), some (.ref 1009), some (.int (nI j))]) (S' := [.int ((nI (stS' T p)) + (nI j)), .ref 2]) (σ' := lm_T M v G) rfl trivial ?_
        rw [show (nI (stS' T p)) + (nI j) = nI ((stS' T p) + j) from nI_add (stS' T p) j]
        refine lm_G_sg 1 (pc' := 47) (L' := [some (.ref 1), some (.ref 1009), some (.int (nI j))]) (S' := [.int (M 2 (nI ((stS' T p) + j)).toNatClampNeg)]) (σ' := lm_T M v G) rfl ⟨(vp_in_nI (by omega) (by omega)), trivial, trivial⟩ ?_
        rw [show (nI ((stS' T p) + j)).toNatClampNeg = ((stS' T p) + j) from nI_clamp (by omega)]
        rw [show M 2 ((stS' T p) + j) = sB (tB T ((stS' T p) + j)) from ht.1.2 ((stS' T p) + j) (by omega)]
        refine lm_G_sg 3 (pc' := 52) (L' := [some (.ref 1), some (.ref 1009), some (.int (nI j))]) (S' := [.int ((lm_wz 9).getD (nI j).toNatClampNeg 0), .int (sB (tB T ((stS' T p) + j)))]) (σ' := lm_T M v G) rfl ⟨(show vp_in _ 5 from vp_in_nI (by omega) (by omega)), (Nat.le_of_ble_eq_true rfl), trivial⟩ ?_
        rw [nI_clamp (n := j) (by omega), v1]
        refine lm_G_br (b := (sB (tB T ((stS' T p) + j))) = (nI (w9.getD j 0))) (t := 57) (S' := []) rfl (fun h5 => ?_) (fun h5 => ?_)
        ·
          refine lm_G_sg 1 (pc' := 60) (L' := [some (.ref 1), some (.ref 1009), some (.int ((nI j) + 1))]) (S' := []) (σ' := lm_T M v G) rfl trivial ?_
          rw [nI_1]
          refine lm_G_sg 1 (pc' := 28) (L' := [some (.ref 1), some (.ref 1009), some (.int (nI (j + 1)))]) (S' := []) (σ' := lm_T M v G) rfl trivial ?_
          exact ih  (by simp only [alB]; rw [hI, decide_eq_true ((sB_eq _ hbb _ v2).mp h5)]; rfl)
        ·
          have e5 : alB (fun i => decide (tB T (stS' T p + i) = w9.getD i 0)) 5 = false := al_f hj (decide_eq_false (fun w => h5 ((sB_eq _ hbb _ v2).mpr w)))
          rw [show isWd T p w9 = false from by unfold isWd; rw [show w9.length = 5 from rfl, e5, Bool.and_false, Bool.and_false]] at hQ
          refine lm_G_sg 1 (pc' := 56) (L' := [some (.ref 1), some (.ref 1009), some (.int (nI j))]) (S' := [.int 0]) (σ' := lm_T M v G) rfl trivial ?_
          exact lm_G_re rfl (by decide) (Nat.zero_le _) (Nat.zero_le _) hQ
      ·
        replace hI : alB (fun i => decide (tB T (stS' T p + i) = w9.getD i 0)) 5 = true := hI
        show lm_G X d 30 106 0 0 28 [some (.ref 1), some (.ref 1009), some (.int (nI 5))] [] (lm_T M v G) Q
        refine lm_G_sg 3 (pc' := 33) (L' := [some (.ref 1), some (.ref 1009), some (.int (nI 5))]) (S' := [.int (Int32.ofNat 5), .int (nI 5)]) (σ' := lm_T M v G) rfl ⟨trivial, (Nat.le_of_ble_eq_true rfl), trivial⟩ ?_
        refine lm_G_br (b := (Int32.ofNat 5) ≤ (nI 5)) (t := 63) (S' := []) rfl (fun hc => ?_) (fun hc => absurd (nI_le (a := 5) (Nat.le_refl _) (by omega)) hc)
        rw [show isWd T p w9 = true from by unfold isWd; rw [show w9.length = 5 from rfl, decide_eq_true k3, decide_eq_true l3, hI]; rfl] at hQ
        refine lm_G_sg 1 (pc' := 64) (L' := [some (.ref 1), some (.ref 1009), some (.int (nI 5))]) (S' := [.int 1]) (σ' := lm_T M v G) rfl trivial ?_
        exact lm_G_re rfl (by decide) (Nat.zero_le _) (Nat.zero_le _) hQ
      ·
        try dsimp only
        rfl
def w10 : List Nat := [104, 111, 117, 114]
theorem w10_ok : ∀ j, j < 4 → (lm_wz 10).getD j 0 = nI (w10.getD j 0) ∧ w10.getD j 0 < 128 := by decide +kernel
set_option maxRecDepth 10000 in
theorem c_isWord10 {X : lm_X} {d v : Nat} {M : Nat → Nat → Int32} {G : Nat → Nat → Int64} {Q : lm_O → lm_S → Prop} {T : Tx} {p : Nat} (hT : okT T) (ht : RT M T p) (hp : p ≤ tN T) (hQ : Q (.inl (some (.int (b2i (isWd T p w10))))) (lm_T M v G)) : lm_Q X d 30 [.ref 1, .ref 1010] (lm_T M v G) Q := by
  show lm_G X d 30 106 0 0 0 [some (.ref 1), some (.ref 1010), none] [] (lm_T M v G) Q
  have kl := kn_le (T := T) (p := p)
  obtain ⟨el1, el2, el3⟩ := en_le hp
  have hn := hT.1
  refine lm_G_sg 2 (pc' := 4) (L' := [some (.ref 1), some (.ref 1010), none]) (S' := [.int (M 1 6)]) (σ' := lm_T M v G) rfl trivial ?_
  rw [show M 1 6 = nI (knS T p) from ht.2.1]
  refine lm_G_sg 1 (pc' := 5) (L' := [some (.ref 1), some (.ref 1010), none]) (S' := [.int 1, .int (nI (knS T p))]) (σ' := lm_T M v G) rfl trivial ?_
  refine lm_G_br (b := ¬ (nI (knS T p)) = 1) (t := 24) (S' := []) rfl (fun h1 => ?_) (fun h1 => ?_)
  ·
    have k3 : ¬ knS T p = 1 := fun w => h1 (by rw [w]; rfl)
    rw [show isWd T p w10 = false from by unfold isWd; rw [decide_eq_false k3]; rfl] at hQ
    refine lm_G_sg 1 (pc' := 25) (L' := [some (.ref 1), some (.ref 1010), none]) (S' := [.int 0]) (σ' := lm_T M v G) rfl trivial ?_
    exact lm_G_re rfl (by decide) (Nat.zero_le _) (Nat.zero_le _) hQ
  ·
    have k3 : knS T p = 1 := (nI_eq (b := 1) (by omega) (by omega)).mp (Classical.not_not.mp h1)
    refine lm_G_sg 2 (pc' := 12) (L' := [some (.ref 1), some (.ref 1010), none]) (S' := [.int (M 1 8)]) (σ' := lm_T M v G) rfl trivial ?_
    rw [show M 1 8 = nI (enS T p) from ht.2.2.2.1]
    refine lm_G_sg 2 (pc' := 16) (L' := [some (.ref 1), some (.ref 1010), none]) (S' := [.int (M 1 7), .int (nI (enS T p))]) (σ' := lm_T M v G) rfl trivial ?_
    rw [show M 1 7 = nI (stS' T p) from ht.2.2.1]
    refine lm_G_sg 1 (pc' := 17) (L' := [some (.ref 1), some (.ref 1010), none]) (S' := [.int ((nI (enS T p)) - (nI (stS' T p)))]) (σ' := lm_T M v G) rfl trivial ?_
    rw [show (nI (enS T p)) - (nI (stS' T p)) = nI (lnS T p) from nI_sub (by omega)]
    have ll : lnS T p ≤ 700 := by unfold lnS; omega
    refine lm_G_sg 2 (pc' := 21) (L' := [some (.ref 1), some (.ref 1010), none]) (S' := [.int (Int32.ofNat 4), .int (nI (lnS T p))]) (σ' := lm_T M v G) rfl ⟨trivial, (Nat.le_of_ble_eq_true rfl), trivial⟩ ?_
    refine lm_G_br (b := (nI (lnS T p)) = (Int32.ofNat 4)) (t := 26) (S' := []) rfl (fun h2 => ?_) (fun h2 => ?_)
    rotate_left
    ·
      have l3 : ¬ lnS T p = w10.length := fun w => h2 (by rw [w]; rfl)
      rw [show isWd T p w10 = false from by unfold isWd; rw [decide_eq_false l3, Bool.false_and, Bool.and_false]] at hQ
      refine lm_G_sg 1 (pc' := 25) (L' := [some (.ref 1), some (.ref 1010), none]) (S' := [.int 0]) (σ' := lm_T M v G) rfl trivial ?_
      exact lm_G_re rfl (by decide) (Nat.zero_le _) (Nat.zero_le _) hQ
    ·
      have l3 : lnS T p = 4 := (nI_eq (b := 4) (by omega) (by omega)).mp h2
      have le3 : enS T p - stS' T p = 4 := l3
      refine lm_G_sg 2 (pc' := 28) (L' := [some (.ref 1), some (.ref 1010), some (.int 0)]) (S' := []) (σ' := lm_T M v G) rfl trivial ?_
      refine lm_ind (α := Unit) (St := fun (j : Nat) zz => lm_G X d 30 106 0 0 28 [some (.ref 1), some (.ref 1010), some (.int (nI j))] [] (lm_T M v G) Q) (Inv := fun (j : Nat) zz => alB (fun i => decide (tB T (stS' T p + i) = w10.getD i 0)) j = true) (4) (fun j zz hj hI ih => ?_) (fun zz hI => ?_) (0) () (by omega) ?_
      ·
        replace hI : alB (fun i => decide (tB T (stS' T p + i) = w10.getD i 0)) j = true := hI
        replace ih : ∀ (_ : alB (fun i => decide (tB T (stS' T p + i) = w10.getD i 0)) (j + 1) = true), lm_G X d 30 106 0 0 28 [some (.ref 1), some (.ref 1010), some (.int (nI (j + 1)))] [] (lm_T M v G) Q := fun q => ih () q
        show lm_G X d 30 106 0 0 28 [some (.ref 1), some (.ref 1010), some (.int (nI j))] [] (lm_T M v G) Q
        have hbb := hT.2 (stS' T p + j) (by omega)
        obtain ⟨v1, v2⟩ := w10_ok j hj
        refine lm_G_sg 3 (pc' := 33) (L' := [some (.ref 1), some (.ref 1010), some (.int (nI j))]) (S' := [.int (Int32.ofNat 4), .int (nI j)]) (σ' := lm_T M v G) rfl ⟨trivial, (Nat.le_of_ble_eq_true rfl), trivial⟩ ?_
        refine lm_G_br (b := (Int32.ofNat 4) ≤ (nI j)) (t := 63) (S' := []) rfl (fun hc => absurd hc (nI_ge (b := 4) hj (by omega))) (fun hc => ?_)
        refine lm_G_sg 4 (pc' := 44) (L' := [some (.ref 1), some (.ref 1010), some (.int (nI j))]) (S' := [.int (M 1 7), .ref 2]) (σ' := lm_T M v G) rfl trivial ?_
        rw [show M 1 7 = nI (stS' T p) from ht.2.2.1]
        refine lm_G_sg 2 (pc' := 46) (L' := [some (.ref 1), some (.ref 1010), some (.int (nI j))]) (S' := [.int ((nI (stS' T p)) + (nI j)), .ref 2]) (σ' := lm_T M v G) rfl trivial ?_
        rw [show (nI (stS' T p)) + (nI j) = nI ((stS' T p) + j) from nI_add (stS' T p) j]
        refine lm_G_sg 1 (pc' := 47) (L' := [some (.ref 1), some (.ref 1010), some (.int (nI j))]) (S' := [.int (M 2 (nI ((stS' T p) + j)).toNatClampNeg)]) (σ' := lm_T M v G) rfl ⟨(vp_in_nI (by omega) (by omega)), trivial, trivial⟩ ?_
        rw [show (nI ((stS' T p) + j)).toNatClampNeg = ((stS' T p) + j) from nI_clamp (by omega)]
        rw [show M 2 ((stS' T p) + j) = sB (tB T ((stS' T p) + j)) from ht.1.2 ((stS' T p) + j) (by omega)]
        refine lm_G_sg 3 (pc' := 52) (L' := [some (.ref 1), some (.ref 1010), some (.int (nI j))]) (S' := [.int ((lm_wz 10).getD (nI j).toNatClampNeg 0), .int (sB (tB T ((stS' T p) + j)))]) (σ' := lm_T M v G) rfl ⟨(show vp_in _ 4 from vp_in_nI (by omega) (by omega)), (Nat.le_of_ble_eq_true rfl), trivial⟩ ?_
        rw [nI_clamp (n := j) (by omega), v1]
        refine lm_G_br (b := (sB (tB T ((stS' T p) + j))) = (nI (w10.getD j 0))) (t := 57) (S' := []) rfl (fun h5 => ?_) (fun h5 => ?_)
        ·
          refine lm_G_sg 1 (pc' := 60) (L' := [some (.ref 1), some (.ref 1010), some (.int ((nI j) + 1))]) (S' := []) (σ' := lm_T M v G) rfl trivial ?_
          rw [nI_1]
          refine lm_G_sg 1 (pc' := 28) (L' := [some (.ref 1), some (.ref 1010), some (.int (nI (j + 1)))]) (S' := []) (σ' := lm_T M v G) rfl trivial ?_
          exact ih  (by simp only [alB]; rw [hI, decide_eq_true ((sB_eq _ hbb _ v2).mp h5)]; rfl)
        ·
          have e5 : alB (fun i => decide (tB T (stS' T p + i) = w10.getD i 0)) 4 = false := al_f hj (decide_eq_false (fun w => h5 ((sB_eq _ hbb _ v2).mpr w)))
          rw [show isWd T p w10 = false from by unfold isWd; rw [show w10.length = 4 from rfl, e5, Bool.and_false, Bool.and_false]] at hQ
          refine lm_G_sg 1 (pc' := 56) (L' := [some (.ref 1), some (.ref 1010), some (.int (nI j))]) (S' := [.int 0]) (σ' := lm_T M v G) rfl trivial ?_
          exact lm_G_re rfl (by decide) (Nat.zero_le _) (Nat.zero_le _) hQ
      ·
        replace hI : alB (fun i => decide (tB T (stS' T p + i) = w10.getD i 0)) 4 = true := hI
        show lm_G X d 30 106 0 0 28 [some (.ref 1), some (.ref 1010), some (.int (nI 4))] [] (lm_T M v G) Q
        refine lm_G_sg 3 (pc' := 33) (L' := [some (.ref 1), some (.ref 1010), some (.int (nI 4))]) (S' := [.int (Int32.ofNat 4), .int (nI 4)]) (σ' := lm_T M v G) rfl ⟨trivial, (Nat.le_of_ble_eq_true rfl), trivial⟩ ?_
        refine lm_G_br (b := (Int32.ofNat 4) ≤ (nI 4)) (t := 63) (S' := []) rfl (fun hc => ?_) (fun hc => absurd (nI_le (a := 4) (Nat.le_refl _) (by omega)) hc)
        rw [show isWd T p w10 = true from by unfold isWd; rw [show w10.length = 4 from rfl, decide_eq_true k3, decide_eq_true l3, hI]; rfl] at hQ
        refine lm_G_sg 1 (pc' := 64) (L' := [some (.ref 1), some (.ref 1010), some (.int (nI 4))]) (S' := [.int 1]) (σ' := lm_T M v G) rfl trivial ?_
        exact lm_G_re rfl (by decide) (Nat.zero_le _) (Nat.zero_le _) hQ
      ·
        try dsimp only
        rfl
def w11 : List Nat := [104, 117, 109, 109, 101, 100]
theorem w11_ok : ∀ j, j < 6 → (lm_wz 11).getD j 0 = nI (w11.getD j 0) ∧ w11.getD j 0 < 128 := by decide +kernel
set_option maxRecDepth 10000 in
theorem c_isWord11 {X : lm_X} {d v : Nat} {M : Nat → Nat → Int32} {G : Nat → Nat → Int64} {Q : lm_O → lm_S → Prop} {T : Tx} {p : Nat} (hT : okT T) (ht : RT M T p) (hp : p ≤ tN T) (hQ : Q (.inl (some (.int (b2i (isWd T p w11))))) (lm_T M v G)) : lm_Q X d 30 [.ref 1, .ref 1011] (lm_T M v G) Q := by
  show lm_G X d 30 106 0 0 0 [some (.ref 1), some (.ref 1011), none] [] (lm_T M v G) Q
  have kl := kn_le (T := T) (p := p)
  obtain ⟨el1, el2, el3⟩ := en_le hp
  have hn := hT.1
  refine lm_G_sg 2 (pc' := 4) (L' := [some (.ref 1), some (.ref 1011), none]) (S' := [.int (M 1 6)]) (σ' := lm_T M v G) rfl trivial ?_
  rw [show M 1 6 = nI (knS T p) from ht.2.1]
  refine lm_G_sg 1 (pc' := 5) (L' := [some (.ref 1), some (.ref 1011), none]) (S' := [.int 1, .int (nI (knS T p))]) (σ' := lm_T M v G) rfl trivial ?_
  refine lm_G_br (b := ¬ (nI (knS T p)) = 1) (t := 24) (S' := []) rfl (fun h1 => ?_) (fun h1 => ?_)
  ·
    have k3 : ¬ knS T p = 1 := fun w => h1 (by rw [w]; rfl)
    rw [show isWd T p w11 = false from by unfold isWd; rw [decide_eq_false k3]; rfl] at hQ
    refine lm_G_sg 1 (pc' := 25) (L' := [some (.ref 1), some (.ref 1011), none]) (S' := [.int 0]) (σ' := lm_T M v G) rfl trivial ?_
    exact lm_G_re rfl (by decide) (Nat.zero_le _) (Nat.zero_le _) hQ
  ·
    have k3 : knS T p = 1 := (nI_eq (b := 1) (by omega) (by omega)).mp (Classical.not_not.mp h1)
    refine lm_G_sg 2 (pc' := 12) (L' := [some (.ref 1), some (.ref 1011), none]) (S' := [.int (M 1 8)]) (σ' := lm_T M v G) rfl trivial ?_
    rw [show M 1 8 = nI (enS T p) from ht.2.2.2.1]
    refine lm_G_sg 2 (pc' := 16) (L' := [some (.ref 1), some (.ref 1011), none]) (S' := [.int (M 1 7), .int (nI (enS T p))]) (σ' := lm_T M v G) rfl trivial ?_
    rw [show M 1 7 = nI (stS' T p) from ht.2.2.1]
    refine lm_G_sg 1 (pc' := 17) (L' := [some (.ref 1), some (.ref 1011), none]) (S' := [.int ((nI (enS T p)) - (nI (stS' T p)))]) (σ' := lm_T M v G) rfl trivial ?_
    rw [show (nI (enS T p)) - (nI (stS' T p)) = nI (lnS T p) from nI_sub (by omega)]
    have ll : lnS T p ≤ 700 := by unfold lnS; omega
    refine lm_G_sg 2 (pc' := 21) (L' := [some (.ref 1), some (.ref 1011), none]) (S' := [.int (Int32.ofNat 6), .int (nI (lnS T p))]) (σ' := lm_T M v G) rfl ⟨trivial, (Nat.le_of_ble_eq_true rfl), trivial⟩ ?_
    refine lm_G_br (b := (nI (lnS T p)) = (Int32.ofNat 6)) (t := 26) (S' := []) rfl (fun h2 => ?_) (fun h2 => ?_)
    rotate_left
    ·
      have l3 : ¬ lnS T p = w11.length := fun w => h2 (by rw [w]; rfl)
      rw [show isWd T p w11 = false from by unfold isWd; rw [decide_eq_false l3, Bool.false_and, Bool.and_false]] at hQ
      refine lm_G_sg 1 (pc' := 25) (L' := [some (.ref 1), some (.ref 1011), none]) (S' := [.int 0]) (σ' := lm_T M v G) rfl trivial ?_
      exact lm_G_re rfl (by decide) (Nat.zero_le _) (Nat.zero_le _) hQ
    ·
      have l3 : lnS T p = 6 := (nI_eq (b := 6) (by omega) (by omega)).mp h2
      have le3 : enS T p - stS' T p = 6 := l3
      refine lm_G_sg 2 (pc' := 28) (L' := [some (.ref 1), some (.ref 1011), some (.int 0)]) (S' := []) (σ' := lm_T M v G) rfl trivial ?_
      refine lm_ind (α := Unit) (St := fun (j : Nat) zz => lm_G X d 30 106 0 0 28 [some (.ref 1), some (.ref 1011), some (.int (nI j))] [] (lm_T M v G) Q) (Inv := fun (j : Nat) zz => alB (fun i => decide (tB T (stS' T p + i) = w11.getD i 0)) j = true) (6) (fun j zz hj hI ih => ?_) (fun zz hI => ?_) (0) () (by omega) ?_
      ·
        replace hI : alB (fun i => decide (tB T (stS' T p + i) = w11.getD i 0)) j = true := hI
        replace ih : ∀ (_ : alB (fun i => decide (tB T (stS' T p + i) = w11.getD i 0)) (j + 1) = true), lm_G X d 30 106 0 0 28 [some (.ref 1), some (.ref 1011), some (.int (nI (j + 1)))] [] (lm_T M v G) Q := fun q => ih () q
        show lm_G X d 30 106 0 0 28 [some (.ref 1), some (.ref 1011), some (.int (nI j))] [] (lm_T M v G) Q
        have hbb := hT.2 (stS' T p + j) (by omega)
        obtain ⟨v1, v2⟩ := w11_ok j hj
        refine lm_G_sg 3 (pc' := 33) (L' := [some (.ref 1), some (.ref 1011), some (.int (nI j))]) (S' := [.int (Int32.ofNat 6), .int (nI j)]) (σ' := lm_T M v G) rfl ⟨trivial, (Nat.le_of_ble_eq_true rfl), trivial⟩ ?_
        refine lm_G_br (b := (Int32.ofNat 6) ≤ (nI j)) (t := 63) (S' := []) rfl (fun hc => absurd hc (nI_ge (b := 6) hj (by omega))) (fun hc => ?_)
        refine lm_G_sg 4 (pc' := 44) (L' := [some (.ref 1), some (.ref 1011), some (.int (nI j))]) (S' := [.int (M 1 7), .ref 2]) (σ' := lm_T M v G) rfl trivial ?_
        rw [show M 1 7 = nI (stS' T p) from ht.2.2.1]
        refine lm_G_sg 2 (pc' := 46) (L' := [some (.ref 1), some (.ref 1011), some (.int (nI j))]) (S' := [.int ((nI (stS' T p)) + (nI j)), .ref 2]) (σ' := lm_T M v G) rfl trivial ?_
        rw [show (nI (stS' T p)) + (nI j) = nI ((stS' T p) + j) from nI_add (stS' T p) j]
        refine lm_G_sg 1 (pc' := 47) (L' := [some (.ref 1), some (.ref 1011), some (.int (nI j))]) (S' := [.int (M 2 (nI ((stS' T p) + j)).toNatClampNeg)]) (σ' := lm_T M v G) rfl ⟨(vp_in_nI (by omega) (by omega)), trivial, trivial⟩ ?_
        rw [show (nI ((stS' T p) + j)).toNatClampNeg = ((stS' T p) + j) from nI_clamp (by omega)]
        rw [show M 2 ((stS' T p) + j) = sB (tB T ((stS' T p) + j)) from ht.1.2 ((stS' T p) + j) (by omega)]
        refine lm_G_sg 3 (pc' := 52) (L' := [some (.ref 1), some (.ref 1011), some (.int (nI j))]) (S' := [.int ((lm_wz 11).getD (nI j).toNatClampNeg 0), .int (sB (tB T ((stS' T p) + j)))]) (σ' := lm_T M v G) rfl ⟨(show vp_in _ 6 from vp_in_nI (by omega) (by omega)), (Nat.le_of_ble_eq_true rfl), trivial⟩ ?_
        rw [nI_clamp (n := j) (by omega), v1]
        refine lm_G_br (b := (sB (tB T ((stS' T p) + j))) = (nI (w11.getD j 0))) (t := 57) (S' := []) rfl (fun h5 => ?_) (fun h5 => ?_)
        ·
          refine lm_G_sg 1 (pc' := 60) (L' := [some (.ref 1), some (.ref 1011), some (.int ((nI j) + 1))]) (S' := []) (σ' := lm_T M v G) rfl trivial ?_
          rw [nI_1]
          refine lm_G_sg 1 (pc' := 28) (L' := [some (.ref 1), some (.ref 1011), some (.int (nI (j + 1)))]) (S' := []) (σ' := lm_T M v G) rfl trivial ?_
          exact ih  (by simp only [alB]; rw [hI, decide_eq_true ((sB_eq _ hbb _ v2).mp h5)]; rfl)
        ·
          have e5 : alB (fun i => decide (tB T (stS' T p + i) = w11.getD i 0)) 6 = false := al_f hj (decide_eq_false (fun w => h5 ((sB_eq _ hbb _ v2).mpr w)))
          rw [show isWd T p w11 = false from by unfold isWd; rw [show w11.length = 6 from rfl, e5, Bool.and_false, Bool.and_false]] at hQ
          refine lm_G_sg 1 (pc' := 56) (L' := [some (.ref 1), some (.ref 1011), some (.int (nI j))]) (S' := [.int 0]) (σ' := lm_T M v G) rfl trivial ?_
          exact lm_G_re rfl (by decide) (Nat.zero_le _) (Nat.zero_le _) hQ
      ·
        replace hI : alB (fun i => decide (tB T (stS' T p + i) = w11.getD i 0)) 6 = true := hI
        show lm_G X d 30 106 0 0 28 [some (.ref 1), some (.ref 1011), some (.int (nI 6))] [] (lm_T M v G) Q
        refine lm_G_sg 3 (pc' := 33) (L' := [some (.ref 1), some (.ref 1011), some (.int (nI 6))]) (S' := [.int (Int32.ofNat 6), .int (nI 6)]) (σ' := lm_T M v G) rfl ⟨trivial, (Nat.le_of_ble_eq_true rfl), trivial⟩ ?_
        refine lm_G_br (b := (Int32.ofNat 6) ≤ (nI 6)) (t := 63) (S' := []) rfl (fun hc => ?_) (fun hc => absurd (nI_le (a := 6) (Nat.le_refl _) (by omega)) hc)
        rw [show isWd T p w11 = true from by unfold isWd; rw [show w11.length = 6 from rfl, decide_eq_true k3, decide_eq_true l3, hI]; rfl] at hQ
        refine lm_G_sg 1 (pc' := 64) (L' := [some (.ref 1), some (.ref 1011), some (.int (nI 6))]) (S' := [.int 1]) (σ' := lm_T M v G) rfl trivial ?_
        exact lm_G_re rfl (by decide) (Nat.zero_le _) (Nat.zero_le _) hQ
      ·
        try dsimp only
        rfl
def w12 : List Nat := [102, 97, 114]
theorem w12_ok : ∀ j, j < 3 → (lm_wz 12).getD j 0 = nI (w12.getD j 0) ∧ w12.getD j 0 < 128 := by decide +kernel
set_option maxRecDepth 10000 in
theorem c_isWord12 {X : lm_X} {d v : Nat} {M : Nat → Nat → Int32} {G : Nat → Nat → Int64} {Q : lm_O → lm_S → Prop} {T : Tx} {p : Nat} (hT : okT T) (ht : RT M T p) (hp : p ≤ tN T) (hQ : Q (.inl (some (.int (b2i (isWd T p w12))))) (lm_T M v G)) : lm_Q X d 30 [.ref 1, .ref 1012] (lm_T M v G) Q := by
  show lm_G X d 30 106 0 0 0 [some (.ref 1), some (.ref 1012), none] [] (lm_T M v G) Q
  have kl := kn_le (T := T) (p := p)
  obtain ⟨el1, el2, el3⟩ := en_le hp
  have hn := hT.1
  refine lm_G_sg 2 (pc' := 4) (L' := [some (.ref 1), some (.ref 1012), none]) (S' := [.int (M 1 6)]) (σ' := lm_T M v G) rfl trivial ?_
  rw [show M 1 6 = nI (knS T p) from ht.2.1]
  refine lm_G_sg 1 (pc' := 5) (L' := [some (.ref 1), some (.ref 1012), none]) (S' := [.int 1, .int (nI (knS T p))]) (σ' := lm_T M v G) rfl trivial ?_
  refine lm_G_br (b := ¬ (nI (knS T p)) = 1) (t := 24) (S' := []) rfl (fun h1 => ?_) (fun h1 => ?_)
  ·
    have k3 : ¬ knS T p = 1 := fun w => h1 (by rw [w]; rfl)
    rw [show isWd T p w12 = false from by unfold isWd; rw [decide_eq_false k3]; rfl] at hQ
    refine lm_G_sg 1 (pc' := 25) (L' := [some (.ref 1), some (.ref 1012), none]) (S' := [.int 0]) (σ' := lm_T M v G) rfl trivial ?_
    exact lm_G_re rfl (by decide) (Nat.zero_le _) (Nat.zero_le _) hQ
  ·
    have k3 : knS T p = 1 := (nI_eq (b := 1) (by omega) (by omega)).mp (Classical.not_not.mp h1)
    refine lm_G_sg 2 (pc' := 12) (L' := [some (.ref 1), some (.ref 1012), none]) (S' := [.int (M 1 8)]) (σ' := lm_T M v G) rfl trivial ?_
    rw [show M 1 8 = nI (enS T p) from ht.2.2.2.1]
    refine lm_G_sg 2 (pc' := 16) (L' := [some (.ref 1), some (.ref 1012), none]) (S' := [.int (M 1 7), .int (nI (enS T p))]) (σ' := lm_T M v G) rfl trivial ?_
    rw [show M 1 7 = nI (stS' T p) from ht.2.2.1]
    refine lm_G_sg 1 (pc' := 17) (L' := [some (.ref 1), some (.ref 1012), none]) (S' := [.int ((nI (enS T p)) - (nI (stS' T p)))]) (σ' := lm_T M v G) rfl trivial ?_
    rw [show (nI (enS T p)) - (nI (stS' T p)) = nI (lnS T p) from nI_sub (by omega)]
    have ll : lnS T p ≤ 700 := by unfold lnS; omega
    refine lm_G_sg 2 (pc' := 21) (L' := [some (.ref 1), some (.ref 1012), none]) (S' := [.int (Int32.ofNat 3), .int (nI (lnS T p))]) (σ' := lm_T M v G) rfl ⟨trivial, (Nat.le_of_ble_eq_true rfl), trivial⟩ ?_
    refine lm_G_br (b := (nI (lnS T p)) = (Int32.ofNat 3)) (t := 26) (S' := []) rfl (fun h2 => ?_) (fun h2 => ?_)
    rotate_left
    ·
      have l3 : ¬ lnS T p = w12.length := fun w => h2 (by rw [w]; rfl)
      rw [show isWd T p w12 = false from by unfold isWd; rw [decide_eq_false l3, Bool.false_and, Bool.and_false]] at hQ
      refine lm_G_sg 1 (pc' := 25) (L' := [some (.ref 1), some (.ref 1012), none]) (S' := [.int 0]) (σ' := lm_T M v G) rfl trivial ?_
      exact lm_G_re rfl (by decide) (Nat.zero_le _) (Nat.zero_le _) hQ
    ·
      have l3 : lnS T p = 3 := (nI_eq (b := 3) (by omega) (by omega)).mp h2
      have le3 : enS T p - stS' T p = 3 := l3
      refine lm_G_sg 2 (pc' := 28) (L' := [some (.ref 1), some (.ref 1012), some (.int 0)]) (S' := []) (σ' := lm_T M v G) rfl trivial ?_
      refine lm_ind (α := Unit) (St := fun (j : Nat) zz => lm_G X d 30 106 0 0 28 [some (.ref 1), some (.ref 1012), some (.int (nI j))] [] (lm_T M v G) Q) (Inv := fun (j : Nat) zz => alB (fun i => decide (tB T (stS' T p + i) = w12.getD i 0)) j = true) (3) (fun j zz hj hI ih => ?_) (fun zz hI => ?_) (0) () (by omega) ?_
      ·
        replace hI : alB (fun i => decide (tB T (stS' T p + i) = w12.getD i 0)) j = true := hI
        replace ih : ∀ (_ : alB (fun i => decide (tB T (stS' T p + i) = w12.getD i 0)) (j + 1) = true), lm_G X d 30 106 0 0 28 [some (.ref 1), some (.ref 1012), some (.int (nI (j + 1)))] [] (lm_T M v G) Q := fun q => ih () q
        show lm_G X d 30 106 0 0 28 [some (.ref 1), some (.ref 1012), some (.int (nI j))] [] (lm_T M v G) Q
        have hbb := hT.2 (stS' T p + j) (by omega)
        obtain ⟨v1, v2⟩ := w12_ok j hj
        refine lm_G_sg 3 (pc' := 33) (L' := [some (.ref 1), some (.ref 1012), some (.int (nI j))]) (S' := [.int (Int32.ofNat 3), .int (nI j)]) (σ' := lm_T M v G) rfl ⟨trivial, (Nat.le_of_ble_eq_true rfl), trivial⟩ ?_
        refine lm_G_br (b := (Int32.ofNat 3) ≤ (nI j)) (t := 63) (S' := []) rfl (fun hc => absurd hc (nI_ge (b := 3) hj (by omega))) (fun hc => ?_)
        refine lm_G_sg 4 (pc' := 44) (L' := [some (.ref 1), some (.ref 1012), some (.int (nI j))]) (S' := [.int (M 1 7), .ref 2]) (σ' := lm_T M v G) rfl trivial ?_
        rw [show M 1 7 = nI (stS' T p) from ht.2.2.1]
        refine lm_G_sg 2 (pc' := 46) (L' := [some (.ref 1), some (.ref 1012), some (.int (nI j))]) (S' := [.int ((nI (stS' T p)) + (nI j)), .ref 2]) (σ' := lm_T M v G) rfl trivial ?_
        rw [show (nI (stS' T p)) + (nI j) = nI ((stS' T p) + j) from nI_add (stS' T p) j]
        refine lm_G_sg 1 (pc' := 47) (L' := [some (.ref 1), some (.ref 1012), some (.int (nI j))]) (S' := [.int (M 2 (nI ((stS' T p) + j)).toNatClampNeg)]) (σ' := lm_T M v G) rfl ⟨(vp_in_nI (by omega) (by omega)), trivial, trivial⟩ ?_
        rw [show (nI ((stS' T p) + j)).toNatClampNeg = ((stS' T p) + j) from nI_clamp (by omega)]
        rw [show M 2 ((stS' T p) + j) = sB (tB T ((stS' T p) + j)) from ht.1.2 ((stS' T p) + j) (by omega)]
        refine lm_G_sg 3 (pc' := 52) (L' := [some (.ref 1), some (.ref 1012), some (.int (nI j))]) (S' := [.int ((lm_wz 12).getD (nI j).toNatClampNeg 0), .int (sB (tB T ((stS' T p) + j)))]) (σ' := lm_T M v G) rfl ⟨(show vp_in _ 3 from vp_in_nI (by omega) (by omega)), (Nat.le_of_ble_eq_true rfl), trivial⟩ ?_
        rw [nI_clamp (n := j) (by omega), v1]
        refine lm_G_br (b := (sB (tB T ((stS' T p) + j))) = (nI (w12.getD j 0))) (t := 57) (S' := []) rfl (fun h5 => ?_) (fun h5 => ?_)
        ·
          refine lm_G_sg 1 (pc' := 60) (L' := [some (.ref 1), some (.ref 1012), some (.int ((nI j) + 1))]) (S' := []) (σ' := lm_T M v G) rfl trivial ?_
          rw [nI_1]
          refine lm_G_sg 1 (pc' := 28) (L' := [some (.ref 1), some (.ref 1012), some (.int (nI (j + 1)))]) (S' := []) (σ' := lm_T M v G) rfl trivial ?_
          exact ih  (by simp only [alB]; rw [hI, decide_eq_true ((sB_eq _ hbb _ v2).mp h5)]; rfl)
        ·
          have e5 : alB (fun i => decide (tB T (stS' T p + i) = w12.getD i 0)) 3 = false := al_f hj (decide_eq_false (fun w => h5 ((sB_eq _ hbb _ v2).mpr w)))
          rw [show isWd T p w12 = false from by unfold isWd; rw [show w12.length = 3 from rfl, e5, Bool.and_false, Bool.and_false]] at hQ
          refine lm_G_sg 1 (pc' := 56) (L' := [some (.ref 1), some (.ref 1012), some (.int (nI j))]) (S' := [.int 0]) (σ' := lm_T M v G) rfl trivial ?_
          exact lm_G_re rfl (by decide) (Nat.zero_le _) (Nat.zero_le _) hQ
      ·
        replace hI : alB (fun i => decide (tB T (stS' T p + i) = w12.getD i 0)) 3 = true := hI
        show lm_G X d 30 106 0 0 28 [some (.ref 1), some (.ref 1012), some (.int (nI 3))] [] (lm_T M v G) Q
        refine lm_G_sg 3 (pc' := 33) (L' := [some (.ref 1), some (.ref 1012), some (.int (nI 3))]) (S' := [.int (Int32.ofNat 3), .int (nI 3)]) (σ' := lm_T M v G) rfl ⟨trivial, (Nat.le_of_ble_eq_true rfl), trivial⟩ ?_
        refine lm_G_br (b := (Int32.ofNat 3) ≤ (nI 3)) (t := 63) (S' := []) rfl (fun hc => ?_) (fun hc => absurd (nI_le (a := 3) (Nat.le_refl _) (by omega)) hc)
        rw [show isWd T p w12 = true from by unfold isWd; rw [show w12.length = 3 from rfl, decide_eq_true k3, decide_eq_true l3, hI]; rfl] at hQ
        refine lm_G_sg 1 (pc' := 64) (L' := [some (.ref 1), some (.ref 1012), some (.int (nI 3))]) (S' := [.int 1]) (σ' := lm_T M v G) rfl trivial ?_
        exact lm_G_re rfl (by decide) (Nat.zero_le _) (Nat.zero_le _) hQ
      ·
        try dsimp only
        rfl
def w13 : List Nat := [110, 111, 116]
theorem w13_ok : ∀ j, j < 3 → (lm_wz 13).getD j 0 = nI (w13.getD j 0) ∧ w13.getD j 0 < 128 := by decide +kernel
set_option maxRecDepth 10000 in
theorem c_isWord13 {X : lm_X} {d v : Nat} {M : Nat → Nat → Int32} {G : Nat → Nat → Int64} {Q : lm_O → lm_S → Prop} {T : Tx} {p : Nat} (hT : okT T) (ht : RT M T p) (hp : p ≤ tN T) (hQ : Q (.inl (some (.int (b2i (isWd T p w13))))) (lm_T M v G)) : lm_Q X d 30 [.ref 1, .ref 1013] (lm_T M v G) Q := by
  show lm_G X d 30 106 0 0 0 [some (.ref 1), some (.ref 1013), none] [] (lm_T M v G) Q
  have kl := kn_le (T := T) (p := p)
  obtain ⟨el1, el2, el3⟩ := en_le hp
  have hn := hT.1
  refine lm_G_sg 2 (pc' := 4) (L' := [some (.ref 1), some (.ref 1013), none]) (S' := [.int (M 1 6)]) (σ' := lm_T M v G) rfl trivial ?_
  rw [show M 1 6 = nI (knS T p) from ht.2.1]
  refine lm_G_sg 1 (pc' := 5) (L' := [some (.ref 1), some (.ref 1013), none]) (S' := [.int 1, .int (nI (knS T p))]) (σ' := lm_T M v G) rfl trivial ?_
  refine lm_G_br (b := ¬ (nI (knS T p)) = 1) (t := 24) (S' := []) rfl (fun h1 => ?_) (fun h1 => ?_)
  ·
    have k3 : ¬ knS T p = 1 := fun w => h1 (by rw [w]; rfl)
    rw [show isWd T p w13 = false from by unfold isWd; rw [decide_eq_false k3]; rfl] at hQ
    refine lm_G_sg 1 (pc' := 25) (L' := [some (.ref 1), some (.ref 1013), none]) (S' := [.int 0]) (σ' := lm_T M v G) rfl trivial ?_
    exact lm_G_re rfl (by decide) (Nat.zero_le _) (Nat.zero_le _) hQ
  ·
    have k3 : knS T p = 1 := (nI_eq (b := 1) (by omega) (by omega)).mp (Classical.not_not.mp h1)
    refine lm_G_sg 2 (pc' := 12) (L' := [some (.ref 1), some (.ref 1013), none]) (S' := [.int (M 1 8)]) (σ' := lm_T M v G) rfl trivial ?_
    rw [show M 1 8 = nI (enS T p) from ht.2.2.2.1]
    refine lm_G_sg 2 (pc' := 16) (L' := [some (.ref 1), some (.ref 1013), none]) (S' := [.int (M 1 7), .int (nI (enS T p))]) (σ' := lm_T M v G) rfl trivial ?_
    rw [show M 1 7 = nI (stS' T p) from ht.2.2.1]
    refine lm_G_sg 1 (pc' := 17) (L' := [some (.ref 1), some (.ref 1013), none]) (S' := [.int ((nI (enS T p)) - (nI (stS' T p)))]) (σ' := lm_T M v G) rfl trivial ?_
    rw [show (nI (enS T p)) - (nI (stS' T p)) = nI (lnS T p) from nI_sub (by omega)]
    have ll : lnS T p ≤ 700 := by unfold lnS; omega
    refine lm_G_sg 2 (pc' := 21) (L' := [some (.ref 1), some (.ref 1013), none]) (S' := [.int (Int32.ofNat 3), .int (nI (lnS T p))]) (σ' := lm_T M v G) rfl ⟨trivial, (Nat.le_of_ble_eq_true rfl), trivial⟩ ?_
    refine lm_G_br (b := (nI (lnS T p)) = (Int32.ofNat 3)) (t := 26) (S' := []) rfl (fun h2 => ?_) (fun h2 => ?_)
    rotate_left
    ·
      have l3 : ¬ lnS T p = w13.length := fun w => h2 (by rw [w]; rfl)
      rw [show isWd T p w13 = false from by unfold isWd; rw [decide_eq_false l3, Bool.false_and, Bool.and_false]] at hQ
      refine lm_G_sg 1 (pc' := 25) (L' := [some (.ref 1), some (.ref 1013), none]) (S' := [.int 0]) (σ' := lm_T M v G) rfl trivial ?_
      exact lm_G_re rfl (by decide) (Nat.zero_le _) (Nat.zero_le _) hQ
    ·
      have l3 : lnS T p = 3 := (nI_eq (b := 3) (by omega) (by omega)).mp h2
      have le3 : enS T p - stS' T p = 3 := l3
      refine lm_G_sg 2 (pc' := 28) (L' := [some (.ref 1), some (.ref 1013), some (.int 0)]) (S' := []) (σ' := lm_T M v G) rfl trivial ?_
      refine lm_ind (α := Unit) (St := fun (j : Nat) zz => lm_G X d 30 106 0 0 28 [some (.ref 1), some (.ref 1013), some (.int (nI j))] [] (lm_T M v G) Q) (Inv := fun (j : Nat) zz => alB (fun i => decide (tB T (stS' T p + i) = w13.getD i 0)) j = true) (3) (fun j zz hj hI ih => ?_) (fun zz hI => ?_) (0) () (by omega) ?_
      ·
        replace hI : alB (fun i => decide (tB T (stS' T p + i) = w13.getD i 0)) j = true := hI
        replace ih : ∀ (_ : alB (fun i => decide (tB T (stS' T p + i) = w13.getD i 0)) (j + 1) = true), lm_G X d 30 106 0 0 28 [some (.ref 1), some (.ref 1013), some (.int (nI (j + 1)))] [] (lm_T M v G) Q := fun q => ih () q
        show lm_G X d 30 106 0 0 28 [some (.ref 1), some (.ref 1013), some (.int (nI j))] [] (lm_T M v G) Q
        have hbb := hT.2 (stS' T p + j) (by omega)
        obtain ⟨v1, v2⟩ := w13_ok j hj
        refine lm_G_sg 3 (pc' := 33) (L' := [some (.ref 1), some (.ref 1013), some (.int (nI j))]) (S' := [.int (Int32.ofNat 3), .int (nI j)]) (σ' := lm_T M v G) rfl ⟨trivial, (Nat.le_of_ble_eq_true rfl), trivial⟩ ?_
        refine lm_G_br (b := (Int32.ofNat 3) ≤ (nI j)) (t := 63) (S' := []) rfl (fun hc => absurd hc (nI_ge (b := 3) hj (by omega))) (fun hc => ?_)
        refine lm_G_sg 4 (pc' := 44) (L' := [some (.ref 1), some (.ref 1013), some (.int (nI j))]) (S' := [.int (M 1 7), .ref 2]) (σ' := lm_T M v G) rfl trivial ?_
        rw [show M 1 7 = nI (stS' T p) from ht.2.2.1]
        refine lm_G_sg 2 (pc' := 46) (L' := [some (.ref 1), some (.ref 1013), some (.int (nI j))]) (S' := [.int ((nI (stS' T p)) + (nI j)), .ref 2]) (σ' := lm_T M v G) rfl trivial ?_
        rw [show (nI (stS' T p)) + (nI j) = nI ((stS' T p) + j) from nI_add (stS' T p) j]
        refine lm_G_sg 1 (pc' := 47) (L' := [some (.ref 1), some (.ref 1013), some (.int (nI j))]) (S' := [.int (M 2 (nI ((stS' T p) + j)).toNatClampNeg)]) (σ' := lm_T M v G) rfl ⟨(vp_in_nI (by omega) (by omega)), trivial, trivial⟩ ?_
        rw [show (nI ((stS' T p) + j)).toNatClampNeg = ((stS' T p) + j) from nI_clamp (by omega)]
        rw [show M 2 ((stS' T p) + j) = sB (tB T ((stS' T p) + j)) from ht.1.2 ((stS' T p) + j) (by omega)]
        refine lm_G_sg 3 (pc' := 52) (L' := [some (.ref 1), some (.ref 1013), some (.int (nI j))]) (S' := [.int ((lm_wz 13).getD (nI j).toNatClampNeg 0), .int (sB (tB T ((stS' T p) + j)))]) (σ' := lm_T M v G) rfl ⟨(show vp_in _ 3 from vp_in_nI (by omega) (by omega)), (Nat.le_of_ble_eq_true rfl), trivial⟩ ?_
        rw [nI_clamp (n := j) (by omega), v1]
        refine lm_G_br (b := (sB (tB T ((stS' T p) + j))) = (nI (w13.getD j 0))) (t := 57) (S' := []) rfl (fun h5 => ?_) (fun h5 => ?_)
        ·
          refine lm_G_sg 1 (pc' := 60) (L' := [some (.ref 1), some (.ref 1013), some (.int ((nI j) + 1))]) (S' := []) (σ' := lm_T M v G) rfl trivial ?_
          rw [nI_1]
          refine lm_G_sg 1 (pc' := 28) (L' := [some (.ref 1), some (.ref 1013), some (.int (nI (j + 1)))]) (S' := []) (σ' := lm_T M v G) rfl trivial ?_
          exact ih  (by simp only [alB]; rw [hI, decide_eq_true ((sB_eq _ hbb _ v2).mp h5)]; rfl)
        ·
          have e5 : alB (fun i => decide (tB T (stS' T p + i) = w13.getD i 0)) 3 = false := al_f hj (decide_eq_false (fun w => h5 ((sB_eq _ hbb _ v2).mpr w)))
          rw [show isWd T p w13 = false from by unfold isWd; rw [show w13.length = 3 from rfl, e5, Bool.and_false, Bool.and_false]] at hQ
          refine lm_G_sg 1 (pc' := 56) (L' := [some (.ref 1), some (.ref 1013), some (.int (nI j))]) (S' := [.int 0]) (σ' := lm_T M v G) rfl trivial ?_
          exact lm_G_re rfl (by decide) (Nat.zero_le _) (Nat.zero_le _) hQ
      ·
        replace hI : alB (fun i => decide (tB T (stS' T p + i) = w13.getD i 0)) 3 = true := hI
        show lm_G X d 30 106 0 0 28 [some (.ref 1), some (.ref 1013), some (.int (nI 3))] [] (lm_T M v G) Q
        refine lm_G_sg 3 (pc' := 33) (L' := [some (.ref 1), some (.ref 1013), some (.int (nI 3))]) (S' := [.int (Int32.ofNat 3), .int (nI 3)]) (σ' := lm_T M v G) rfl ⟨trivial, (Nat.le_of_ble_eq_true rfl), trivial⟩ ?_
        refine lm_G_br (b := (Int32.ofNat 3) ≤ (nI 3)) (t := 63) (S' := []) rfl (fun hc => ?_) (fun hc => absurd (nI_le (a := 3) (Nat.le_refl _) (by omega)) hc)
        rw [show isWd T p w13 = true from by unfold isWd; rw [show w13.length = 3 from rfl, decide_eq_true k3, decide_eq_true l3, hI]; rfl] at hQ
        refine lm_G_sg 1 (pc' := 64) (L' := [some (.ref 1), some (.ref 1013), some (.int (nI 3))]) (S' := [.int 1]) (σ' := lm_T M v G) rfl trivial ?_
        exact lm_G_re rfl (by decide) (Nat.zero_le _) (Nat.zero_le _) hQ
      ·
        try dsimp only
        rfl
def w14 : List Nat := [111, 114]
theorem w14_ok : ∀ j, j < 2 → (lm_wz 14).getD j 0 = nI (w14.getD j 0) ∧ w14.getD j 0 < 128 := by decide +kernel
set_option maxRecDepth 10000 in
theorem c_isWord14 {X : lm_X} {d v : Nat} {M : Nat → Nat → Int32} {G : Nat → Nat → Int64} {Q : lm_O → lm_S → Prop} {T : Tx} {p : Nat} (hT : okT T) (ht : RT M T p) (hp : p ≤ tN T) (hQ : Q (.inl (some (.int (b2i (isWd T p w14))))) (lm_T M v G)) : lm_Q X d 30 [.ref 1, .ref 1014] (lm_T M v G) Q := by
  show lm_G X d 30 106 0 0 0 [some (.ref 1), some (.ref 1014), none] [] (lm_T M v G) Q
  have kl := kn_le (T := T) (p := p)
  obtain ⟨el1, el2, el3⟩ := en_le hp
  have hn := hT.1
  refine lm_G_sg 2 (pc' := 4) (L' := [some (.ref 1), some (.ref 1014), none]) (S' := [.int (M 1 6)]) (σ' := lm_T M v G) rfl trivial ?_
  rw [show M 1 6 = nI (knS T p) from ht.2.1]
  refine lm_G_sg 1 (pc' := 5) (L' := [some (.ref 1), some (.ref 1014), none]) (S' := [.int 1, .int (nI (knS T p))]) (σ' := lm_T M v G) rfl trivial ?_
  refine lm_G_br (b := ¬ (nI (knS T p)) = 1) (t := 24) (S' := []) rfl (fun h1 => ?_) (fun h1 => ?_)
  ·
    have k3 : ¬ knS T p = 1 := fun w => h1 (by rw [w]; rfl)
    rw [show isWd T p w14 = false from by unfold isWd; rw [decide_eq_false k3]; rfl] at hQ
    refine lm_G_sg 1 (pc' := 25) (L' := [some (.ref 1), some (.ref 1014), none]) (S' := [.int 0]) (σ' := lm_T M v G) rfl trivial ?_
    exact lm_G_re rfl (by decide) (Nat.zero_le _) (Nat.zero_le _) hQ
  ·
    have k3 : knS T p = 1 := (nI_eq (b := 1) (by omega) (by omega)).mp (Classical.not_not.mp h1)
    refine lm_G_sg 2 (pc' := 12) (L' := [some (.ref 1), some (.ref 1014), none]) (S' := [.int (M 1 8)]) (σ' := lm_T M v G) rfl trivial ?_
    rw [show M 1 8 = nI (enS T p) from ht.2.2.2.1]
    refine lm_G_sg 2 (pc' := 16) (L' := [some (.ref 1), some (.ref 1014), none]) (S' := [.int (M 1 7), .int (nI (enS T p))]) (σ' := lm_T M v G) rfl trivial ?_
    rw [show M 1 7 = nI (stS' T p) from ht.2.2.1]
    refine lm_G_sg 1 (pc' := 17) (L' := [some (.ref 1), some (.ref 1014), none]) (S' := [.int ((nI (enS T p)) - (nI (stS' T p)))]) (σ' := lm_T M v G) rfl trivial ?_
    rw [show (nI (enS T p)) - (nI (stS' T p)) = nI (lnS T p) from nI_sub (by omega)]
    have ll : lnS T p ≤ 700 := by unfold lnS; omega
    refine lm_G_sg 2 (pc' := 21) (L' := [some (.ref 1), some (.ref 1014), none]) (S' := [.int (Int32.ofNat 2), .int (nI (lnS T p))]) (σ' := lm_T M v G) rfl ⟨trivial, (Nat.le_of_ble_eq_true rfl), trivial⟩ ?_
    refine lm_G_br (b := (nI (lnS T p)) = (Int32.ofNat 2)) (t := 26) (S' := []) rfl (fun h2 => ?_) (fun h2 => ?_)
    rotate_left
    ·
      have l3 : ¬ lnS T p = w14.length := fun w => h2 (by rw [w]; rfl)
      rw [show isWd T p w14 = false from by unfold isWd; rw [decide_eq_false l3, Bool.false_and, Bool.and_false]] at hQ
      refine lm_G_sg 1 (pc' := 25) (L' := [some (.ref 1), some (.ref 1014), none]) (S' := [.int 0]) (σ' := lm_T M v G) rfl trivial ?_
      exact lm_G_re rfl (by decide) (Nat.zero_le _) (Nat.zero_le _) hQ
    ·
      have l3 : lnS T p = 2 := (nI_eq (b := 2) (by omega) (by omega)).mp h2
      have le3 : enS T p - stS' T p = 2 := l3
      refine lm_G_sg 2 (pc' := 28) (L' := [some (.ref 1), some (.ref 1014), some (.int 0)]) (S' := []) (σ' := lm_T M v G) rfl trivial ?_
      refine lm_ind (α := Unit) (St := fun (j : Nat) zz => lm_G X d 30 106 0 0 28 [some (.ref 1), some (.ref 1014), some (.int (nI j))] [] (lm_T M v G) Q) (Inv := fun (j : Nat) zz => alB (fun i => decide (tB T (stS' T p + i) = w14.getD i 0)) j = true) (2) (fun j zz hj hI ih => ?_) (fun zz hI => ?_) (0) () (by omega) ?_
      ·
        replace hI : alB (fun i => decide (tB T (stS' T p + i) = w14.getD i 0)) j = true := hI
        replace ih : ∀ (_ : alB (fun i => decide (tB T (stS' T p + i) = w14.getD i 0)) (j + 1) = true), lm_G X d 30 106 0 0 28 [some (.ref 1), some (.ref 1014), some (.int (nI (j + 1)))] [] (lm_T M v G) Q := fun q => ih () q
        show lm_G X d 30 106 0 0 28 [some (.ref 1), some (.ref 1014), some (.int (nI j))] [] (lm_T M v G) Q
        have hbb := hT.2 (stS' T p + j) (by omega)
        obtain ⟨v1, v2⟩ := w14_ok j hj
        refine lm_G_sg 3 (pc' := 33) (L' := [some (.ref 1), some (.ref 1014), some (.int (nI j))]) (S' := [.int (Int32.ofNat 2), .int (nI j)]) (σ' := lm_T M v G) rfl ⟨trivial, (Nat.le_of_ble_eq_true rfl), trivial⟩ ?_
        refine lm_G_br (b := (Int32.ofNat 2) ≤ (nI j)) (t := 63) (S' := []) rfl (fun hc => absurd hc (nI_ge (b := 2) hj (by omega))) (fun hc => ?_)
        refine lm_G_sg 4 (pc' := 44) (L' := [some (.ref 1), some (.ref 1014), some (.int (nI j))]) (S' := [.int (M 1 7), .ref 2]) (σ' := lm_T M v G) rfl trivial ?_
        rw [show M 1 7 = nI (stS' T p) from ht.2.2.1]
        refine lm_G_sg 2 (pc' := 46) (L' := [some (.ref 1), some (.ref 1014), some (.int (nI j))]) (S' := [.int ((nI (stS' T p)) + (nI j)), .ref 2]) (σ' := lm_T M v G) rfl trivial ?_
        rw [show (nI (stS' T p)) + (nI j) = nI ((stS' T p) + j) from nI_add (stS' T p) j]
        refine lm_G_sg 1 (pc' := 47) (L' := [some (.ref 1), some (.ref 1014), some (.int (nI j))]) (S' := [.int (M 2 (nI ((stS' T p) + j)).toNatClampNeg)]) (σ' := lm_T M v G) rfl ⟨(vp_in_nI (by omega) (by omega)), trivial, trivial⟩ ?_
        rw [show (nI ((stS' T p) + j)).toNatClampNeg = ((stS' T p) + j) from nI_clamp (by omega)]
        rw [show M 2 ((stS' T p) + j) = sB (tB T ((stS' T p) + j)) from ht.1.2 ((stS' T p) + j) (by omega)]
        refine lm_G_sg 3 (pc' := 52) (L' := [some (.ref 1), some (.ref 1014), some (.int (nI j))]) (S' := [.int ((lm_wz 14).getD (nI j).toNatClampNeg 0), .int (sB (tB T ((stS' T p) + j)))]) (σ' := lm_T M v G) rfl ⟨(show vp_in _ 2 from vp_in_nI (by omega) (by omega)), (Nat.le_of_ble_eq_true rfl), trivial⟩ ?_
        rw [nI_clamp (n := j) (by omega), v1]
        refine lm_G_br (b := (sB (tB T ((stS' T p) + j))) = (nI (w14.getD j 0))) (t := 57) (S' := []) rfl (fun h5 => ?_) (fun h5 => ?_)
        ·
          refine lm_G_sg 1 (pc' := 60) (L' := [some (.ref 1), some (.ref 1014), some (.int ((nI j) + 1))]) (S' := []) (σ' := lm_T M v G) rfl trivial ?_
          rw [nI_1]
          refine lm_G_sg 1 (pc' := 28) (L' := [some (.ref 1), some (.ref 1014), some (.int (nI (j + 1)))]) (S' := []) (σ' := lm_T M v G) rfl trivial ?_
          exact ih  (by simp only [alB]; rw [hI, decide_eq_true ((sB_eq _ hbb _ v2).mp h5)]; rfl)
        ·
          have e5 : alB (fun i => decide (tB T (stS' T p + i) = w14.getD i 0)) 2 = false := al_f hj (decide_eq_false (fun w => h5 ((sB_eq _ hbb _ v2).mpr w)))
          rw [show isWd T p w14 = false from by unfold isWd; rw [show w14.length = 2 from rfl, e5, Bool.and_false, Bool.and_false]] at hQ
          refine lm_G_sg 1 (pc' := 56) (L' := [some (.ref 1), some (.ref 1014), some (.int (nI j))]) (S' := [.int 0]) (σ' := lm_T M v G) rfl trivial ?_
          exact lm_G_re rfl (by decide) (Nat.zero_le _) (Nat.zero_le _) hQ
      ·
        replace hI : alB (fun i => decide (tB T (stS' T p + i) = w14.getD i 0)) 2 = true := hI
        show lm_G X d 30 106 0 0 28 [some (.ref 1), some (.ref 1014), some (.int (nI 2))] [] (lm_T M v G) Q
        refine lm_G_sg 3 (pc' := 33) (L' := [some (.ref 1), some (.ref 1014), some (.int (nI 2))]) (S' := [.int (Int32.ofNat 2), .int (nI 2)]) (σ' := lm_T M v G) rfl ⟨trivial, (Nat.le_of_ble_eq_true rfl), trivial⟩ ?_
        refine lm_G_br (b := (Int32.ofNat 2) ≤ (nI 2)) (t := 63) (S' := []) rfl (fun hc => ?_) (fun hc => absurd (nI_le (a := 2) (Nat.le_refl _) (by omega)) hc)
        rw [show isWd T p w14 = true from by unfold isWd; rw [show w14.length = 2 from rfl, decide_eq_true k3, decide_eq_true l3, hI]; rfl] at hQ
        refine lm_G_sg 1 (pc' := 64) (L' := [some (.ref 1), some (.ref 1014), some (.int (nI 2))]) (S' := [.int 1]) (σ' := lm_T M v G) rfl trivial ?_
        exact lm_G_re rfl (by decide) (Nat.zero_le _) (Nat.zero_le _) hQ
      ·
        try dsimp only
        rfl
def w15 : List Nat := [97, 110, 100]
theorem w15_ok : ∀ j, j < 3 → (lm_wz 15).getD j 0 = nI (w15.getD j 0) ∧ w15.getD j 0 < 128 := by decide +kernel
set_option maxRecDepth 10000 in
theorem c_isWord15 {X : lm_X} {d v : Nat} {M : Nat → Nat → Int32} {G : Nat → Nat → Int64} {Q : lm_O → lm_S → Prop} {T : Tx} {p : Nat} (hT : okT T) (ht : RT M T p) (hp : p ≤ tN T) (hQ : Q (.inl (some (.int (b2i (isWd T p w15))))) (lm_T M v G)) : lm_Q X d 30 [.ref 1, .ref 1015] (lm_T M v G) Q := by
  show lm_G X d 30 106 0 0 0 [some (.ref 1), some (.ref 1015), none] [] (lm_T M v G) Q
  have kl := kn_le (T := T) (p := p)
  obtain ⟨el1, el2, el3⟩ := en_le hp
  have hn := hT.1
  refine lm_G_sg 2 (pc' := 4) (L' := [some (.ref 1), some (.ref 1015), none]) (S' := [.int (M 1 6)]) (σ' := lm_T M v G) rfl trivial ?_
  rw [show M 1 6 = nI (knS T p) from ht.2.1]
  refine lm_G_sg 1 (pc' := 5) (L' := [some (.ref 1), some (.ref 1015), none]) (S' := [.int 1, .int (nI (knS T p))]) (σ' := lm_T M v G) rfl trivial ?_
  refine lm_G_br (b := ¬ (nI (knS T p)) = 1) (t := 24) (S' := []) rfl (fun h1 => ?_) (fun h1 => ?_)
  ·
    have k3 : ¬ knS T p = 1 := fun w => h1 (by rw [w]; rfl)
    rw [show isWd T p w15 = false from by unfold isWd; rw [decide_eq_false k3]; rfl] at hQ
    refine lm_G_sg 1 (pc' := 25) (L' := [some (.ref 1), some (.ref 1015), none]) (S' := [.int 0]) (σ' := lm_T M v G) rfl trivial ?_
    exact lm_G_re rfl (by decide) (Nat.zero_le _) (Nat.zero_le _) hQ
  ·
    have k3 : knS T p = 1 := (nI_eq (b := 1) (by omega) (by omega)).mp (Classical.not_not.mp h1)
    refine lm_G_sg 2 (pc' := 12) (L' := [some (.ref 1), some (.ref 1015), none]) (S' := [.int (M 1 8)]) (σ' := lm_T M v G) rfl trivial ?_
    rw [show M 1 8 = nI (enS T p) from ht.2.2.2.1]
    refine lm_G_sg 2 (pc' := 16) (L' := [some (.ref 1), some (.ref 1015), none]) (S' := [.int (M 1 7), .int (nI (enS T p))]) (σ' := lm_T M v G) rfl trivial ?_
    rw [show M 1 7 = nI (stS' T p) from ht.2.2.1]
    refine lm_G_sg 1 (pc' := 17) (L' := [some (.ref 1), some (.ref 1015), none]) (S' := [.int ((nI (enS T p)) - (nI (stS' T p)))]) (σ' := lm_T M v G) rfl trivial ?_
    rw [show (nI (enS T p)) - (nI (stS' T p)) = nI (lnS T p) from nI_sub (by omega)]
    have ll : lnS T p ≤ 700 := by unfold lnS; omega
    refine lm_G_sg 2 (pc' := 21) (L' := [some (.ref 1), some (.ref 1015), none]) (S' := [.int (Int32.ofNat 3), .int (nI (lnS T p))]) (σ' := lm_T M v G) rfl ⟨trivial, (Nat.le_of_ble_eq_true rfl), trivial⟩ ?_
    refine lm_G_br (b := (nI (lnS T p)) = (Int32.ofNat 3)) (t := 26) (S' := []) rfl (fun h2 => ?_) (fun h2 => ?_)
    rotate_left
    ·
      have l3 : ¬ lnS T p = w15.length := fun w => h2 (by rw [w]; rfl)
      rw [show isWd T p w15 = false from by unfold isWd; rw [decide_eq_false l3, Bool.false_and, Bool.and_false]] at hQ
      refine lm_G_sg 1 (pc' := 25) (L' := [some (.ref 1), some (.ref 1015), none]) (S' := [.int 0]) (σ' := lm_T M v G) rfl trivial ?_
      exact lm_G_re rfl (by decide) (Nat.zero_le _) (Nat.zero_le _) hQ
    ·
      have l3 : lnS T p = 3 := (nI_eq (b := 3) (by omega) (by omega)).mp h2
      have le3 : enS T p - stS' T p = 3 := l3
      refine lm_G_sg 2 (pc' := 28) (L' := [some (.ref 1), some (.ref 1015), some (.int 0)]) (S' := []) (σ' := lm_T M v G) rfl trivial ?_
      refine lm_ind (α := Unit) (St := fun (j : Nat) zz => lm_G X d 30 106 0 0 28 [some (.ref 1), some (.ref 1015), some (.int (nI j))] [] (lm_T M v G) Q) (Inv := fun (j : Nat) zz => alB (fun i => decide (tB T (stS' T p + i) = w15.getD i 0)) j = true) (3) (fun j zz hj hI ih => ?_) (fun zz hI => ?_) (0) () (by omega) ?_
      ·
        replace hI : alB (fun i => decide (tB T (stS' T p + i) = w15.getD i 0)) j = true := hI
        replace ih : ∀ (_ : alB (fun i => decide (tB T (stS' T p + i) = w15.getD i 0)) (j + 1) = true), lm_G X d 30 106 0 0 28 [some (.ref 1), some (.ref 1015), some (.int (nI (j + 1)))] [] (lm_T M v G) Q := fun q => ih () q
        show lm_G X d 30 106 0 0 28 [some (.ref 1), some (.ref 1015), some (.int (nI j))] [] (lm_T M v G) Q
        have hbb := hT.2 (stS' T p + j) (by omega)
        obtain ⟨v1, v2⟩ := w15_ok j hj
        refine lm_G_sg 3 (pc' := 33) (L' := [some (.ref 1), some (.ref 1015), some (.int (nI j))]) (S' := [.int (Int32.ofNat 3), .int (nI j)]) (σ' := lm_T M v G) rfl ⟨trivial, (Nat.le_of_ble_eq_true rfl), trivial⟩ ?_
        refine lm_G_br (b := (Int32.ofNat 3) ≤ (nI j)) (t := 63) (S' := []) rfl (fun hc => absurd hc (nI_ge (b := 3) hj (by omega))) (fun hc => ?_)
        refine lm_G_sg 4 (pc' := 44) (L' := [some (.ref 1), some (.ref 1015), some (.int (nI j))]) (S' := [.int (M 1 7), .ref 2]) (σ' := lm_T M v G) rfl trivial ?_
        rw [show M 1 7 = nI (stS' T p) from ht.2.2.1]
        refine lm_G_sg 2 (pc' := 46) (L' := [some (.ref 1), some (.ref 1015), some (.int (nI j))]) (S' := [.int ((nI (stS' T p)) + (nI j)), .ref 2]) (σ' := lm_T M v G) rfl trivial ?_
        rw [show (nI (stS' T p)) + (nI j) = nI ((stS' T p) + j) from nI_add (stS' T p) j]
        refine lm_G_sg 1 (pc' := 47) (L' := [some (.ref 1), some (.ref 1015), some (.int (nI j))]) (S' := [.int (M 2 (nI ((stS' T p) + j)).toNatClampNeg)]) (σ' := lm_T M v G) rfl ⟨(vp_in_nI (by omega) (by omega)), trivial, trivial⟩ ?_
        rw [show (nI ((stS' T p) + j)).toNatClampNeg = ((stS' T p) + j) from nI_clamp (by omega)]
        rw [show M 2 ((stS' T p) + j) = sB (tB T ((stS' T p) + j)) from ht.1.2 ((stS' T p) + j) (by omega)]
        refine lm_G_sg 3 (pc' := 52) (L' := [some (.ref 1), some (.ref 1015), some (.int (nI j))]) (S' := [.int ((lm_wz 15).getD (nI j).toNatClampNeg 0), .int (sB (tB T ((stS' T p) + j)))]) (σ' := lm_T M v G) rfl ⟨(show vp_in _ 3 from vp_in_nI (by omega) (by omega)), (Nat.le_of_ble_eq_true rfl), trivial⟩ ?_
        rw [nI_clamp (n := j) (by omega), v1]
        refine lm_G_br (b := (sB (tB T ((stS' T p) + j))) = (nI (w15.getD j 0))) (t := 57) (S' := []) rfl (fun h5 => ?_) (fun h5 => ?_)
        ·
          refine lm_G_sg 1 (pc' := 60) (L' := [some (.ref 1), some (.ref 1015), some (.int ((nI j) + 1))]) (S' := []) (σ' := lm_T M v G) rfl trivial ?_
          rw [nI_1]
          refine lm_G_sg 1 (pc' := 28) (L' := [some (.ref 1), some (.ref 1015), some (.int (nI (j + 1)))]) (S' := []) (σ' := lm_T M v G) rfl trivial ?_
          exact ih  (by simp only [alB]; rw [hI, decide_eq_true ((sB_eq _ hbb _ v2).mp h5)]; rfl)
        ·
          have e5 : alB (fun i => decide (tB T (stS' T p + i) = w15.getD i 0)) 3 = false := al_f hj (decide_eq_false (fun w => h5 ((sB_eq _ hbb _ v2).mpr w)))
          rw [show isWd T p w15 = false from by unfold isWd; rw [show w15.length = 3 from rfl, e5, Bool.and_false, Bool.and_false]] at hQ
          refine lm_G_sg 1 (pc' := 56) (L' := [some (.ref 1), some (.ref 1015), some (.int (nI j))]) (S' := [.int 0]) (σ' := lm_T M v G) rfl trivial ?_
          exact lm_G_re rfl (by decide) (Nat.zero_le _) (Nat.zero_le _) hQ
      ·
        replace hI : alB (fun i => decide (tB T (stS' T p + i) = w15.getD i 0)) 3 = true := hI
        show lm_G X d 30 106 0 0 28 [some (.ref 1), some (.ref 1015), some (.int (nI 3))] [] (lm_T M v G) Q
        refine lm_G_sg 3 (pc' := 33) (L' := [some (.ref 1), some (.ref 1015), some (.int (nI 3))]) (S' := [.int (Int32.ofNat 3), .int (nI 3)]) (σ' := lm_T M v G) rfl ⟨trivial, (Nat.le_of_ble_eq_true rfl), trivial⟩ ?_
        refine lm_G_br (b := (Int32.ofNat 3) ≤ (nI 3)) (t := 63) (S' := []) rfl (fun hc => ?_) (fun hc => absurd (nI_le (a := 3) (Nat.le_refl _) (by omega)) hc)
        rw [show isWd T p w15 = true from by unfold isWd; rw [show w15.length = 3 from rfl, decide_eq_true k3, decide_eq_true l3, hI]; rfl] at hQ
        refine lm_G_sg 1 (pc' := 64) (L' := [some (.ref 1), some (.ref 1015), some (.int (nI 3))]) (S' := [.int 1]) (σ' := lm_T M v G) rfl trivial ?_
        exact lm_G_re rfl (by decide) (Nat.zero_le _) (Nat.zero_le _) hQ
      ·
        try dsimp only
        rfl
def w16 : List Nat := [106, 111, 105, 110, 115]
theorem w16_ok : ∀ j, j < 5 → (lm_wz 16).getD j 0 = nI (w16.getD j 0) ∧ w16.getD j 0 < 128 := by decide +kernel
set_option maxRecDepth 10000 in
theorem c_isWord16 {X : lm_X} {d v : Nat} {M : Nat → Nat → Int32} {G : Nat → Nat → Int64} {Q : lm_O → lm_S → Prop} {T : Tx} {p : Nat} (hT : okT T) (ht : RT M T p) (hp : p ≤ tN T) (hQ : Q (.inl (some (.int (b2i (isWd T p w16))))) (lm_T M v G)) : lm_Q X d 30 [.ref 1, .ref 1016] (lm_T M v G) Q := by
  show lm_G X d 30 106 0 0 0 [some (.ref 1), some (.ref 1016), none] [] (lm_T M v G) Q
  have kl := kn_le (T := T) (p := p)
  obtain ⟨el1, el2, el3⟩ := en_le hp
  have hn := hT.1
  refine lm_G_sg 2 (pc' := 4) (L' := [some (.ref 1), some (.ref 1016), none]) (S' := [.int (M 1 6)]) (σ' := lm_T M v G) rfl trivial ?_
  rw [show M 1 6 = nI (knS T p) from ht.2.1]
  refine lm_G_sg 1 (pc' := 5) (L' := [some (.ref 1), some (.ref 1016), none]) (S' := [.int 1, .int (nI (knS T p))]) (σ' := lm_T M v G) rfl trivial ?_
  refine lm_G_br (b := ¬ (nI (knS T p)) = 1) (t := 24) (S' := []) rfl (fun h1 => ?_) (fun h1 => ?_)
  ·
    have k3 : ¬ knS T p = 1 := fun w => h1 (by rw [w]; rfl)
    rw [show isWd T p w16 = false from by unfold isWd; rw [decide_eq_false k3]; rfl] at hQ
    refine lm_G_sg 1 (pc' := 25) (L' := [some (.ref 1), some (.ref 1016), none]) (S' := [.int 0]) (σ' := lm_T M v G) rfl trivial ?_
    exact lm_G_re rfl (by decide) (Nat.zero_le _) (Nat.zero_le _) hQ
  ·
    have k3 : knS T p = 1 := (nI_eq (b := 1) (by omega) (by omega)).mp (Classical.not_not.mp h1)
    refine lm_G_sg 2 (pc' := 12) (L' := [some (.ref 1), some (.ref 1016), none]) (S' := [.int (M 1 8)]) (σ' := lm_T M v G) rfl trivial ?_
    rw [show M 1 8 = nI (enS T p) from ht.2.2.2.1]
    refine lm_G_sg 2 (pc' := 16) (L' := [some (.ref 1), some (.ref 1016), none]) (S' := [.int (M 1 7), .int (nI (enS T p))]) (σ' := lm_T M v G) rfl trivial ?_
    rw [show M 1 7 = nI (stS' T p) from ht.2.2.1]
    refine lm_G_sg 1 (pc' := 17) (L' := [some (.ref 1), some (.ref 1016), none]) (S' := [.int ((nI (enS T p)) - (nI (stS' T p)))]) (σ' := lm_T M v G) rfl trivial ?_
    rw [show (nI (enS T p)) - (nI (stS' T p)) = nI (lnS T p) from nI_sub (by omega)]
    have ll : lnS T p ≤ 700 := by unfold lnS; omega
    refine lm_G_sg 2 (pc' := 21) (L' := [some (.ref 1), some (.ref 1016), none]) (S' := [.int (Int32.ofNat 5), .int (nI (lnS T p))]) (σ' := lm_T M v G) rfl ⟨trivial, (Nat.le_of_ble_eq_true rfl), trivial⟩ ?_
    refine lm_G_br (b := (nI (lnS T p)) = (Int32.ofNat 5)) (t := 26) (S' := []) rfl (fun h2 => ?_) (fun h2 => ?_)
    rotate_left
    ·
      have l3 : ¬ lnS T p = w16.length := fun w => h2 (by rw [w]; rfl)
      rw [show isWd T p w16 = false from by unfold isWd; rw [decide_eq_false l3, Bool.false_and, Bool.and_false]] at hQ
      refine lm_G_sg 1 (pc' := 25) (L' := [some (.ref 1), some (.ref 1016), none]) (S' := [.int 0]) (σ' := lm_T M v G) rfl trivial ?_
      exact lm_G_re rfl (by decide) (Nat.zero_le _) (Nat.zero_le _) hQ
    ·
      have l3 : lnS T p = 5 := (nI_eq (b := 5) (by omega) (by omega)).mp h2
      have le3 : enS T p - stS' T p = 5 := l3
      refine lm_G_sg 2 (pc' := 28) (L' := [some (.ref 1), some (.ref 1016), some (.int 0)]) (S' := []) (σ' := lm_T M v G) rfl trivial ?_
      refine lm_ind (α := Unit) (St := fun (j : Nat) zz => lm_G X d 30 106 0 0 28 [some (.ref 1), some (.ref 1016), some (.int (nI j))] [] (lm_T M v G) Q) (Inv := fun (j : Nat) zz => alB (fun i => decide (tB T (stS' T p + i) = w16.getD i 0)) j = true) (5) (fun j zz hj hI ih => ?_) (fun zz hI => ?_) (0) () (by omega) ?_
      ·
        replace hI : alB (fun i => decide (tB T (stS' T p + i) = w16.getD i 0)) j = true := hI
        replace ih : ∀ (_ : alB (fun i => decide (tB T (stS' T p + i) = w16.getD i 0)) (j + 1) = true), lm_G X d 30 106 0 0 28 [some (.ref 1), some (.ref 1016), some (.int (nI (j + 1)))] [] (lm_T M v G) Q := fun q => ih () q
        show lm_G X d 30 106 0 0 28 [some (.ref 1), some (.ref 1016), some (.int (nI j))] [] (lm_T M v G) Q
        have hbb := hT.2 (stS' T p + j) (by omega)
        obtain ⟨v1, v2⟩ := w16_ok j hj
        refine lm_G_sg 3 (pc' := 33) (L' := [some (.ref 1), some (.ref 1016), some (.int (nI j))]) (S' := [.int (Int32.ofNat 5), .int (nI j)]) (σ' := lm_T M v G) rfl ⟨trivial, (Nat.le_of_ble_eq_true rfl), trivial⟩ ?_
        refine lm_G_br (b := (Int32.ofNat 5) ≤ (nI j)) (t := 63) (S' := []) rfl (fun hc => absurd hc (nI_ge (b := 5) hj (by omega))) (fun hc => ?_)
        refine lm_G_sg 4 (pc' := 44) (L' := [some (.ref 1), some (.ref 1016), some (.int (nI j))]) (S' := [.int (M 1 7), .ref 2]) (σ' := lm_T M v G) rfl trivial ?_
        rw [show M 1 7 = nI (stS' T p) from ht.2.2.1]
        refine lm_G_sg 2 (pc' := 46) (L' := [some (.ref 1), some (.ref 1016), some (.int (nI j))]) (S' := [.int ((nI (stS' T p)) + (nI j)), .ref 2]) (σ' := lm_T M v G) rfl trivial ?_
        rw [show (nI (stS' T p)) + (nI j) = nI ((stS' T p) + j) from nI_add (stS' T p) j]
        refine lm_G_sg 1 (pc' := 47) (L' := [some (.ref 1), some (.ref 1016), some (.int (nI j))]) (S' := [.int (M 2 (nI ((stS' T p) + j)).toNatClampNeg)]) (σ' := lm_T M v G) rfl ⟨(vp_in_nI (by omega) (by omega)), trivial, trivial⟩ ?_
        rw [show (nI ((stS' T p) + j)).toNatClampNeg = ((stS' T p) + j) from nI_clamp (by omega)]
        rw [show M 2 ((stS' T p) + j) = sB (tB T ((stS' T p) + j)) from ht.1.2 ((stS' T p) + j) (by omega)]
        refine lm_G_sg 3 (pc' := 52) (L' := [some (.ref 1), some (.ref 1016), some (.int (nI j))]) (S' := [.int ((lm_wz 16).getD (nI j).toNatClampNeg 0), .int (sB (tB T ((stS' T p) + j)))]) (σ' := lm_T M v G) rfl ⟨(show vp_in _ 5 from vp_in_nI (by omega) (by omega)), (Nat.le_of_ble_eq_true rfl), trivial⟩ ?_
        rw [nI_clamp (n := j) (by omega), v1]
        refine lm_G_br (b := (sB (tB T ((stS' T p) + j))) = (nI (w16.getD j 0))) (t := 57) (S' := []) rfl (fun h5 => ?_) (fun h5 => ?_)
        ·
          refine lm_G_sg 1 (pc' := 60) (L' := [some (.ref 1), some (.ref 1016), some (.int ((nI j) + 1))]) (S' := []) (σ' := lm_T M v G) rfl trivial ?_
          rw [nI_1]
          refine lm_G_sg 1 (pc' := 28) (L' := [some (.ref 1), some (.ref 1016), some (.int (nI (j + 1)))]) (S' := []) (σ' := lm_T M v G) rfl trivial ?_
          exact ih  (by simp only [alB]; rw [hI, decide_eq_true ((sB_eq _ hbb _ v2).mp h5)]; rfl)
        ·
          have e5 : alB (fun i => decide (tB T (stS' T p + i) = w16.getD i 0)) 5 = false := al_f hj (decide_eq_false (fun w => h5 ((sB_eq _ hbb _ v2).mpr w)))
          rw [show isWd T p w16 = false from by unfold isWd; rw [show w16.length = 5 from rfl, e5, Bool.and_false, Bool.and_false]] at hQ
          refine lm_G_sg 1 (pc' := 56) (L' := [some (.ref 1), some (.ref 1016), some (.int (nI j))]) (S' := [.int 0]) (σ' := lm_T M v G) rfl trivial ?_
          exact lm_G_re rfl (by decide) (Nat.zero_le _) (Nat.zero_le _) hQ
      ·
        replace hI : alB (fun i => decide (tB T (stS' T p + i) = w16.getD i 0)) 5 = true := hI
        show lm_G X d 30 106 0 0 28 [some (.ref 1), some (.ref 1016), some (.int (nI 5))] [] (lm_T M v G) Q
        refine lm_G_sg 3 (pc' := 33) (L' := [some (.ref 1), some (.ref 1016), some (.int (nI 5))]) (S' := [.int (Int32.ofNat 5), .int (nI 5)]) (σ' := lm_T M v G) rfl ⟨trivial, (Nat.le_of_ble_eq_true rfl), trivial⟩ ?_
        refine lm_G_br (b := (Int32.ofNat 5) ≤ (nI 5)) (t := 63) (S' := []) rfl (fun hc => ?_) (fun hc => absurd (nI_le (a := 5) (Nat.le_refl _) (by omega)) hc)
        rw [show isWd T p w16 = true from by unfold isWd; rw [show w16.length = 5 from rfl, decide_eq_true k3, decide_eq_true l3, hI]; rfl] at hQ
        refine lm_G_sg 1 (pc' := 64) (L' := [some (.ref 1), some (.ref 1016), some (.int (nI 5))]) (S' := [.int 1]) (σ' := lm_T M v G) rfl trivial ?_
        exact lm_G_re rfl (by decide) (Nat.zero_le _) (Nat.zero_le _) hQ
      ·
        try dsimp only
        rfl
