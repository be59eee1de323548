/-! ===== contracts: a round, the model's answer ===== -/
theorem desc {q m j : Nat} (hq : q = m - j - 1) (hj : j < m) : nI q + (-1) = nI (m - (j + 1)) - 1 := by
  by_cases w : 0 < q
  · rw [nI_dec w, nI_sb1 (by omega)]
    congr 1
    omega
  · rw [show q = 0 by omega, show m - (j + 1) = 0 by omega]
    decide
set_option maxRecDepth 10000 in
theorem m_round {X : lm_X} {d v : Nat} {M : Nat → Nat → Int32} {G : Nat → Nat → Int64} {Q : lm_O → lm_S → Prop} {F : Fa} {s : Sc} {x : Int32} (hF : okF F) (h : RM M F s) (hs : okS F s) (hl : M 64 42 = 0) (hQ : ∀ M1, RM M1 F s → FrN M M1 → M1 64 4 = cd (aRou F s x) → Q (.inl (some (.int (vl (aRou F s x))))) (lm_T M1 v G)) : lm_Q X (d + 2) 228 [.ref 64, .int x] (lm_T M v G) Q := by
  have hn := hF.n
  have hm := hF.m
  have hA := ownA_lt hF (s := s)
  have hl6 := lenA_le hF (s := s)
  have el : lenA F s = pcN (ownA F s) := rfl
  show lm_G X (d + 2) 228 106 0 0 0 [some (.ref 64), some (.int x), none, none, none, none, none, none, none] [] (lm_T M v G) Q
  refine lm_G_sg 3 (pc' := 5) (L' := [some (.ref 64), some (.int x), none, none, none, none, none, none, none]) (S' := []) (σ' := lm_T (lm_wr M 64 4 0) v G) rfl ⟨trivial, trivial, trivial⟩ ?_
  have h0 : RM (lm_wr M 64 4 0) F s := RM_taken h 4 (by decide) 0
  have f0 : FrN M (lm_wr M 64 4 0) := FrN_w64 (FrN_rf _) (by decide)
  have c0 : (lm_wr M 64 4 0) 64 4 = 0 := wr_same
  have l0 : (lm_wr M 64 4 0) 64 42 = 0 := (wr_at (by decide)).trans hl
  revert h0 f0 c0 l0
  generalize lm_wr M 64 4 0 = M0
  intro h0 f0 c0 l0
  refine lm_G_sg 5 (pc' := 12) (L' := [some (.ref 64), some (.int x), none, none, none, none, none, none, none]) (S' := [.int (M0 68 1), .int 1]) (σ' := lm_T M0 v G) rfl ⟨(lm_inb_ok rfl), trivial, trivial⟩ ?_
  rw [show M0 68 1 = nI (fM F) from h0.m]
  refine lm_G_sg 5 (pc' := 17) (L' := [some (.ref 64), some (.int x), none, none, none, none, none, none, none]) (S' := [.int (-1), .ref 64, .int (((1 : Int32) <<< ((nI (fM F)) &&& 31)) - 1)]) (σ' := lm_T M0 v G) rfl trivial ?_
  refine lm_G_ca (j := 183) (as := [.ref 64, .int (-1)]) (rest := [.int (((1 : Int32) <<< ((nI (fM F)) &&& 31)) - 1)]) rfl (Or.inl rfl) (Nat.le_of_ble_eq_true rfl) (Nat.le_of_ble_eq_true rfl) (Nat.le_of_ble_eq_true rfl) (Nat.le_of_ble_eq_true rfl) rfl ?_
  refine m_ownedBy hF h0 ?_
  show lm_G X (d + 2) 228 106 0 0 20 [some (.ref 64), some (.int x), none, none, none, none, none, none, none] [.int (ownS F (sOw s) (-1)), .int (((1 : Int32) <<< ((nI (fM F)) &&& 31)) - 1)] (lm_T M0 v G) Q
  refine lm_G_sg 3 (pc' := 23) (L' := [some (.ref 64), some (.int x), none, none, none, none, none, none, none]) (S' := [.int ((((1 : Int32) <<< ((nI (fM F)) &&& 31)) - 1) &&& ((ownS F (sOw s) (-1)) ^^^ (-1)))]) (σ' := lm_T M0 v G) rfl trivial ?_
  rw [show ((1 : Int32) <<< ((nI (fM F)) &&& 31) - 1) &&& (ownS F (sOw s) (-1) ^^^ (-1)) = nI (ownA F s) from ownA_eq hF]
  refine lm_G_sg 5 (pc' := 30) (L' := [some (.ref 64), some (.int x), some (.int (nI (ownA F s))), none, none, none, none, none, none]) (S' := [.int (nI (ownA F s)), .long (-1), .long x.toInt64]) (σ' := lm_T M0 v G) rfl trivial ?_
  refine lm_G_ca (j := 144) (as := [.int (nI (ownA F s))]) (rest := [.long (-1), .long x.toInt64]) rfl (Or.inl rfl) (Nat.le_of_ble_eq_true rfl) (Nat.le_of_ble_eq_true rfl) (Nat.le_of_ble_eq_true rfl) (Nat.le_of_ble_eq_true rfl) rfl ?_
  refine m_bits ⟨ownA F s, by omega, rfl⟩ ?_
  show lm_G X (d + 2) 228 106 0 0 33 [some (.ref 64), some (.int x), some (.int (nI (ownA F s))), none, none, none, none, none, none] [.int (cnt (nI (ownA F s))), .long (-1), .long x.toInt64] (lm_T M0 v G) Q
  rw [show cnt (nI (ownA F s)) = nI (lenA F s) from cnt_nI (k := ownA F s) (by omega)]
  refine lm_G_sg 3 (pc' := 36) (L' := [some (.ref 64), some (.int x), some (.int (nI (ownA F s))), none, none, none, none, none, none]) (S' := [.long (((nI (lenA F s)) - 1).toInt64), .long (-1), .long x.toInt64]) (σ' := lm_T M0 v G) rfl trivial ?_
  refine lm_G_ca (j := 142) (as := [.long x.toInt64, .long (-1), .long (((nI (lenA F s)) - 1).toInt64)]) (rest := []) rfl (Or.inl rfl) (Nat.le_of_ble_eq_true rfl) (Nat.le_of_ble_eq_true rfl) (Nat.le_of_ble_eq_true rfl) (Nat.le_of_ble_eq_true rfl) rfl ?_
  refine c_isIn ?_
  show lm_G X (d + 2) 228 106 0 0 39 [some (.ref 64), some (.int x), some (.int (nI (ownA F s))), none, none, none, none, none, none] [.int (b2i (inL x.toInt64 (-1) ((nI (lenA F s)) - 1).toInt64))] (lm_T M0 v G) Q
  rw [rou_in hl6]
  refine lm_G_br (b := ¬ (b2i (decide (-1 ≤ x ∧ x < nI (lenA F s)))) = 0) (t := 48) (S' := []) rfl (fun hx => ?_) (fun hx => ?_)
  rotate_left
  ·
    replace hx := b2i_0 (Classical.not_not.mp hx)
    refine lm_G_sg 2 (pc' := 44) (L' := [some (.ref 64), some (.int x), some (.int (nI (ownA F s))), none, none, none, none, none, none]) (S' := [.int 1, .ref 64]) (σ' := lm_T M0 v G) rfl trivial ?_
    refine lm_G_ca (j := 141) (as := [.ref 64, .int 1]) (rest := []) rfl (Or.inl rfl) (Nat.le_of_ble_eq_true rfl) (Nat.le_of_ble_eq_true rfl) (Nat.le_of_ble_eq_true rfl) (Nat.le_of_ble_eq_true rfl) rfl ?_
    refine m_fail ?_
    show lm_G X (d + 2) 228 106 0 0 47 [some (.ref 64), some (.int x), some (.int (nI (ownA F s))), none, none, none, none, none, none] [.int 0] (lm_T (lm_wr M0 64 4 1) v G) Q
    rw [show aRou F s x = .inr false from by unfold aRou; rw [hx]; rfl] at hQ
    exact lm_G_re rfl trivial (Nat.zero_le _) (Nat.zero_le _) (hQ _ (RM_taken h0 4 (by decide) 1) (FrN_w64 f0 (by decide)) wr_same)
  ·
    replace hx := b2i_1 hx
    have hxx := of_decide_eq_true hx
    refine lm_G_sg 1 (pc' := 49) (L' := [some (.ref 64), some (.int x), some (.int (nI (ownA F s))), none, none, none, none, none, none]) (S' := [.int (nI (ownA F s))]) (σ' := lm_T M0 v G) rfl trivial ?_
    refine lm_G_br (b := ¬ (nI (ownA F s)) = 0) (t := 54) (S' := []) rfl (fun hz => ?_) (fun hz => ?_)
    rotate_left
    ·
      have ez : ownA F s = 0 := (nI_eq (by omega) (by omega)).mp (Classical.not_not.mp hz)
      have e0 : lenA F s = 0 := by rw [el, ez]; rfl
      have ex : x = -1 := by
        apply Classical.byContradiction
        intro w
        obtain ⟨i, hi, _⟩ := rou_ix hxx.1 hxx.2 w hl6
        omega
      rw [show aRou F s x = .inl 0 from by
        unfold aRou
        rw [hx, if_pos ex]
        unfold lstA
        rw [e0]
        rfl] at hQ
      refine lm_G_sg 1 (pc' := 53) (L' := [some (.ref 64), some (.int x), some (.int (nI (ownA F s))), none, none, none, none, none, none]) (S' := [.int 0]) (σ' := lm_T M0 v G) rfl trivial ?_
      exact lm_G_re rfl trivial (Nat.zero_le _) (Nat.zero_le _) (hQ _ h0 f0 c0)
    ·
      have nz : ownA F s ≠ 0 := fun e => hz (by rw [e]; rfl)
      obtain ⟨u0, hu0, hb0⟩ := some_bit _ hA nz
      have l1 := (sub_1 _ hA u0 hu0 hb0).2.2
      refine lm_G_sg 2 (pc' := 56) (L' := [some (.ref 64), some (.int x), some (.int (nI (ownA F s))), none, none, none, none, none, none]) (S' := [.int (nI (ownA F s)), .ref 64]) (σ' := lm_T M0 v G) rfl trivial ?_
      refine lm_G_ca (j := 227) (as := [.ref 64, .int (nI (ownA F s))]) (rest := []) rfl (Or.inl rfl) (Nat.le_of_ble_eq_true rfl) (Nat.le_of_ble_eq_true rfl) (Nat.le_of_ble_eq_true rfl) (Nat.le_of_ble_eq_true rfl) rfl ?_
      refine m_tellRound hF hs h0 (fun M1 g1 k1 => ?_)
      show lm_G X (d + 2) 228 106 0 0 59 [some (.ref 64), some (.int x), some (.int (nI (ownA F s))), none, none, none, none, none, none] [] (lm_T M1 v G) Q
      have h1 := RM_O h0 k1 (by decide)
      have f1 : FrN M M1 := FrN_tr f0 (FrN_O k1 rfl (by decide))
      have c1 : M1 64 4 = 0 := by rw [k1 64 rfl]; exact c0
      have gv : ∀ u, (ownA F s).testBit u = true → u < fM F ∧ sOw s u ≠ -1 ∧ M1 91 (64 * u + 2 ^ u) = nI ((fuS s (fM F) (ownA F s) (lenA F s - 1) 99 0) u) ∧ (fuS s (fM F) (ownA F s) (lenA F s - 1) 99 0) u ≤ 180 ∧ (vld (ownA F s) 0) u = true := by
        intro u hb
        have hu : u < fM F := bit_lt (mskN_lt _ _) hb
        have hv : (vld (ownA F s) 0) u = true := by unfold vld; rw [hb]; simp
        obtain ⟨v1, v2, v3, v4⟩ := vld_ok hF hv
        obtain ⟨w1, w2, w3, w4⟩ := pc_1 u (by omega)
        obtain ⟨y1, y2, y3⟩ := sub_1 _ hA u (by omega) hb
        have e : (fuS s (fM F) (ownA F s) (lenA F s - 1) 99 0) u = dS s (fM F) (ownA F s) (lenA F s - 1) u (2 ^ u) := by
          unfold fuS wN
          rw [if_pos rfl, Nat.zero_or, Nat.zero_add]
        have b := dS_le hF hs (lenA F s - 1) u (2 ^ u) (Or.inr ⟨v1, v2⟩) w3 y1 (by rw [w1, el])
        refine ⟨v1, v2, ?_, by rw [e]; omega, hv⟩
        rw [e, g1 (2 ^ u) w4 y2 y1 u v1 w2, w1]
      refine lm_G_sg 8 (pc' := 72) (L' := [some (.ref 64), some (.int x), some (.int (nI (ownA F s))), some (.int 1000), some (.int (-1)), none, none, none, none]) (S' := [.int (M1 68 1)]) (σ' := lm_T M1 v G) rfl ⟨(lm_inb_ok rfl), trivial, trivial⟩ ?_
      rw [show M1 68 1 = nI (fM F) from h1.m]
      refine lm_G_sg 3 (pc' := 76) (L' := [some (.ref 64), some (.int x), some (.int (nI (ownA F s))), some (.int 1000), some (.int (-1)), some (.int ((nI (fM F)) - 1)), none, none, none]) (S' := []) (σ' := lm_T M1 v G) rfl trivial ?_
      refine lm_ind (α := Nat × Int32) (St := fun (j : Nat) zz => (fun (z : Nat) (y : Int32) => lm_G X (d + 2) 228 106 0 0 76 [some (.ref 64), some (.int x), some (.int (nI (ownA F s))), some (.int (nI z)), some (.int y), some (.int (nI (fM F - j) - 1)), none, none, none] [] (lm_T M1 v G) Q) zz.1 zz.2) (Inv := fun (j : Nat) zz => (fun (z : Nat) (y : Int32) => z ≤ 1000 ∧ (∀ u, fM F - j ≤ u → u < fM F → (vld (ownA F s) 0) u = true → z ≤ (fuS s (fM F) (ownA F s) (lenA F s - 1) 99 0) u) ∧ ((y = -1 ∧ z = 1000) ∨ ∃ t, y = nI t ∧ fM F - j ≤ t ∧ t < fM F ∧ (vld (ownA F s) 0) t = true ∧ (fuS s (fM F) (ownA F s) (lenA F s - 1) 99 0) t = z ∧ ∀ u, fM F - j ≤ u → u < t → (vld (ownA F s) 0) u = true → z < (fuS s (fM F) (ownA F s) (lenA F s - 1) 99 0) u)) zz.1 zz.2) (fM F) (fun j zz hj hI ih => ?_) (fun zz hI => ?_) (0) (1000, -1) (by omega) ?_
      ·
        obtain ⟨z, y⟩ := zz
        replace hI : z ≤ 1000 ∧ (∀ u, fM F - j ≤ u → u < fM F → (vld (ownA F s) 0) u = true → z ≤ (fuS s (fM F) (ownA F s) (lenA F s - 1) 99 0) u) ∧ ((y = -1 ∧ z = 1000) ∨ ∃ t, y = nI t ∧ fM F - j ≤ t ∧ t < fM F ∧ (vld (ownA F s) 0) t = true ∧ (fuS s (fM F) (ownA F s) (lenA F s - 1) 99 0) t = z ∧ ∀ u, fM F - j ≤ u → u < t → (vld (ownA F s) 0) u = true → z < (fuS s (fM F) (ownA F s) (lenA F s - 1) 99 0) u) := hI
        replace ih : ∀ (z : Nat) (y : Int32) (_ : z ≤ 1000 ∧ (∀ u, fM F - (j + 1) ≤ u → u < fM F → (vld (ownA F s) 0) u = true → z ≤ (fuS s (fM F) (ownA F s) (lenA F s - 1) 99 0) u) ∧ ((y = -1 ∧ z = 1000) ∨ ∃ t, y = nI t ∧ fM F - (j + 1) ≤ t ∧ t < fM F ∧ (vld (ownA F s) 0) t = true ∧ (fuS s (fM F) (ownA F s) (lenA F s - 1) 99 0) t = z ∧ ∀ u, fM F - (j + 1) ≤ u → u < t → (vld (ownA F s) 0) u = true → z < (fuS s (fM F) (ownA F s) (lenA F s - 1) 99 0) u)), lm_G X (d + 2) 228 106 0 0 76 [some (.ref 64), some (.int x), some (.int (nI (ownA F s))), some (.int (nI z)), some (.int y), some (.int (nI (fM F - (j + 1)) - 1)), none, none, none] [] (lm_T M1 v G) Q := fun z y q => ih (z, y) q
        show lm_G X (d + 2) 228 106 0 0 76 [some (.ref 64), some (.int x), some (.int (nI (ownA F s))), some (.int (nI z)), some (.int y), some (.int (nI (fM F - j) - 1)), none, none, none] [] (lm_T M1 v G) Q
        obtain ⟨i1, i2, i3⟩ := hI
        rw [nI_sb1 (k := fM F - j) (by omega)]
        obtain ⟨q, hq⟩ : ∃ q, q = fM F - j - 1 := ⟨_, rfl⟩
        rw [← hq]
        refine lm_G_sg 1 (pc' := 78) (L' := [some (.ref 64), some (.int x), some (.int (nI (ownA F s))), some (.int (nI z)), some (.int y), some (.int (nI q)), none, none, none]) (S' := [.int (nI q)]) (σ' := lm_T M1 v G) rfl trivial ?_
        refine lm_G_br (b := (nI q) < 0) (t := 144) (S' := []) rfl (fun hc => absurd hc (nI_pos (by omega))) (fun hc => ?_)
        refine lm_G_sg 2 (pc' := 84) (L' := [some (.ref 64), some (.int x), some (.int (nI (ownA F s))), some (.int (nI z)), some (.int y), some (.int (nI q)), none, none, none]) (S' := [.int (nI q), .int (nI (ownA F s))]) (σ' := lm_T M1 v G) rfl trivial ?_
        refine lm_G_ca (j := 143) (as := [.int (nI (ownA F s)), .int (nI q)]) (rest := []) rfl (Or.inl rfl) (Nat.le_of_ble_eq_true rfl) (Nat.le_of_ble_eq_true rfl) (Nat.le_of_ble_eq_true rfl) (Nat.le_of_ble_eq_true rfl) rfl ?_
        refine c_isOf ?_
        show lm_G X (d + 2) 228 106 0 0 87 [some (.ref 64), some (.int x), some (.int (nI (ownA F s))), some (.int (nI z)), some (.int y), some (.int (nI q)), none, none, none] [.int (b2i (bitW (nI (ownA F s)) q))] (lm_T M1 v G) Q
        rw [bitW_nI (k := ownA F s) (by omega)]
        refine lm_G_br (b := (b2i ((ownA F s).testBit q)) = 0) (t := 108) (S' := []) rfl (fun h5 => ?_) (fun h5 => ?_)
        ·
          refine lm_G_sg 4 (pc' := 116) (L' := [some (.ref 64), some (.int x), some (.int (nI (ownA F s))), some (.int (nI z)), some (.int y), some (.int (nI q)), some (.int 1000), none, none]) (S' := [.int (nI z), .int 1000]) (σ' := lm_T M1 v G) rfl trivial ?_
          refine lm_G_br (b := (nI z) < 1000) (t := 138) (S' := []) rfl (fun h6 => ?_) (fun h6 => ?_)
          ·
            refine lm_G_sg 1 (pc' := 141) (L' := [some (.ref 64), some (.int x), some (.int (nI (ownA F s))), some (.int (nI z)), some (.int y), some (.int ((nI q) + (-1))), some (.int 1000), none, none]) (S' := []) (σ' := lm_T M1 v G) rfl trivial ?_
            rw [show (nI q) + (-1) = nI (fM F - (j + 1)) - 1 from desc hq (by omega)]
            refine lm_G_sg 1 (pc' := 76) (L' := [some (.ref 64), some (.int x), some (.int (nI (ownA F s))), some (.int (nI z)), some (.int y), some (.int (nI (fM F - (j + 1)) - 1)), some (.int 1000), none, none]) (S' := []) (σ' := lm_T M1 v G) rfl trivial ?_
            refine lm_G_jk (L := [some (.ref 64), some (.int x), some (.int (nI (ownA F s))), some (.int (nI z)), some (.int y), some (.int (nI (fM F - (j + 1)) - 1)), none, none, none]) ⟨rfl, rfl, rfl, rfl, rfl, rfl, rfl, rfl, trivial⟩ ?_
            exact ih _ _ (⟨i1, fun u a1 a2 a3 => if e : u = q then absurd a3 (by unfold vld; rw [e, b2i_0 h5]; simp) else i2 u (by omega) a2 a3, by
                          rcases i3 with w | ⟨t, t1, t2, t3, t4, t5, t6⟩
                          · exact Or.inl w
                          · exact Or.inr ⟨t, t1, by omega, t3, t4, t5, fun u a1 a2 a3 => if e : u = q then absurd a3 (by unfold vld; rw [e, b2i_0 h5]; simp) else t6 u (by omega) a2 a3⟩⟩)
          ·
            refine lm_G_sg 2 (pc' := 122) (L' := [some (.ref 64), some (.int x), some (.int (nI (ownA F s))), some (.int (nI z)), some (.int y), some (.int (nI q)), some (.int 1000), none, none]) (S' := [.int (nI q), .int (nI (ownA F s))]) (σ' := lm_T M1 v G) rfl trivial ?_
            refine lm_G_ca (j := 143) (as := [.int (nI (ownA F s)), .int (nI q)]) (rest := []) rfl (Or.inl rfl) (Nat.le_of_ble_eq_true rfl) (Nat.le_of_ble_eq_true rfl) (Nat.le_of_ble_eq_true rfl) (Nat.le_of_ble_eq_true rfl) rfl ?_
            refine c_isOf ?_
            show lm_G X (d + 2) 228 106 0 0 125 [some (.ref 64), some (.int x), some (.int (nI (ownA F s))), some (.int (nI z)), some (.int y), some (.int (nI q)), some (.int 1000), none, none] [.int (b2i (bitW (nI (ownA F s)) q))] (lm_T M1 v G) Q
            rw [bitW_nI (k := ownA F s) (by omega)]
            refine lm_G_br (b := ¬ (b2i ((ownA F s).testBit q)) = 0) (t := 131) (S' := []) rfl (fun h7 => absurd h5 h7) (fun h7 => ?_)
            refine lm_G_sg 2 (pc' := 141) (L' := [some (.ref 64), some (.int x), some (.int (nI (ownA F s))), some (.int (nI z)), some (.int y), some (.int ((nI q) + (-1))), some (.int 1000), none, none]) (S' := []) (σ' := lm_T M1 v G) rfl trivial ?_
            rw [show (nI q) + (-1) = nI (fM F - (j + 1)) - 1 from desc hq (by omega)]
            refine lm_G_sg 1 (pc' := 76) (L' := [some (.ref 64), some (.int x), some (.int (nI (ownA F s))), some (.int (nI z)), some (.int y), some (.int (nI (fM F - (j + 1)) - 1)), some (.int 1000), none, none]) (S' := []) (σ' := lm_T M1 v G) rfl trivial ?_
            refine lm_G_jk (L := [some (.ref 64), some (.int x), some (.int (nI (ownA F s))), some (.int (nI z)), some (.int y), some (.int (nI (fM F - (j + 1)) - 1)), none, none, none]) ⟨rfl, rfl, rfl, rfl, rfl, rfl, rfl, rfl, trivial⟩ ?_
            exact ih _ _ (⟨i1, fun u a1 a2 a3 => if e : u = q then absurd a3 (by unfold vld; rw [e, b2i_0 h5]; simp) else i2 u (by omega) a2 a3, by
                          rcases i3 with w | ⟨t, t1, t2, t3, t4, t5, t6⟩
                          · exact Or.inl w
                          · exact Or.inr ⟨t, t1, by omega, t3, t4, t5, fun u a1 a2 a3 => if e : u = q then absurd a3 (by unfold vld; rw [e, b2i_0 h5]; simp) else t6 u (by omega) a2 a3⟩⟩)
        ·
          have hb := b2i_1 h5
          obtain ⟨v1, v2, v3, v4, v5⟩ := gv q hb
          refine lm_G_sg 5 (pc' := 99) (L' := [some (.ref 64), some (.int x), some (.int (nI (ownA F s))), some (.int (nI z)), some (.int y), some (.int (nI q)), none, none, none]) (S' := [.int ((nI q) <<< ((6 : Int32) &&& 31)), .ref 91]) (σ' := lm_T M1 v G) rfl trivial ?_
          rw [show nI q <<< ((6 : Int32) &&& 31) = nI (64 * q) from shl6 q (by omega)]
          refine lm_G_sg 3 (pc' := 103) (L' := [some (.ref 64), some (.int x), some (.int (nI (ownA F s))), some (.int (nI z)), some (.int y), some (.int (nI q)), none, none, none]) (S' := [.int ((1 : Int32) <<< ((nI q) &&& 31)), .int (nI (64 * q)), .ref 91]) (σ' := lm_T M1 v G) rfl trivial ?_
          rw [show (1 : Int32) <<< ((nI q) &&& 31) = nI (2 ^ q) from bit1_n q (by omega)]
          have pl := (pc_1 q (by omega)).2.2.1
          refine lm_G_sg 1 (pc' := 104) (L' := [some (.ref 64), some (.int x), some (.int (nI (ownA F s))), some (.int (nI z)), some (.int y), some (.int (nI q)), none, none, none]) (S' := [.int ((nI (64 * q)) + (nI (2 ^ q))), .ref 91]) (σ' := lm_T M1 v G) rfl trivial ?_
          rw [show (nI (64 * q)) + (nI (2 ^ q)) = nI ((64 * q) + (2 ^ q)) from nI_add (64 * q) (2 ^ q)]
          refine lm_G_sg 1 (pc' := 105) (L' := [some (.ref 64), some (.int x), some (.int (nI (ownA F s))), some (.int (nI z)), some (.int y), some (.int (nI q)), none, none, none]) (S' := [.int (M1 91 (nI ((64 * q) + (2 ^ q))).toNatClampNeg)]) (σ' := lm_T M1 v G) rfl ⟨(vp_in_nI (by omega) (by omega)), trivial, trivial⟩ ?_
          rw [show (nI ((64 * q) + (2 ^ q))).toNatClampNeg = ((64 * q) + (2 ^ q)) from nI_clamp (by omega)]
          rw [show M1 91 ((64 * q) + (2 ^ q)) = nI ((fuS s (fM F) (ownA F s) (lenA F s - 1) 99 0) q) from v3]
          refine lm_G_sg 4 (pc' := 116) (L' := [some (.ref 64), some (.int x), some (.int (nI (ownA F s))), some (.int (nI z)), some (.int y), some (.int (nI q)), some (.int (nI ((fuS s (fM F) (ownA F s) (lenA F s - 1) 99 0) q))), none, none]) (S' := [.int (nI z), .int (nI ((fuS s (fM F) (ownA F s) (lenA F s - 1) 99 0) q))]) (σ' := lm_T M1 v G) rfl trivial ?_
          refine lm_G_br (b := (nI z) < (nI ((fuS s (fM F) (ownA F s) (lenA F s - 1) 99 0) q))) (t := 138) (S' := []) rfl (fun h6 => ?_) (fun h6 => ?_)
          ·
            have lt : z < (fuS s (fM F) (ownA F s) (lenA F s - 1) 99 0) q := (nI_ltI (by omega) (by omega)).mp h6
            refine lm_G_sg 1 (pc' := 141) (L' := [some (.ref 64), some (.int x), some (.int (nI (ownA F s))), some (.int (nI z)), some (.int y), some (.int ((nI q) + (-1))), some (.int (nI ((fuS s (fM F) (ownA F s) (lenA F s - 1) 99 0) q))), none, none]) (S' := []) (σ' := lm_T M1 v G) rfl trivial ?_
            rw [show (nI q) + (-1) = nI (fM F - (j + 1)) - 1 from desc hq (by omega)]
            refine lm_G_sg 1 (pc' := 76) (L' := [some (.ref 64), some (.int x), some (.int (nI (ownA F s))), some (.int (nI z)), some (.int y), some (.int (nI (fM F - (j + 1)) - 1)), some (.int (nI ((fuS s (fM F) (ownA F s) (lenA F s - 1) 99 0) q))), none, none]) (S' := []) (σ' := lm_T M1 v G) rfl trivial ?_
            refine lm_G_jk (L := [some (.ref 64), some (.int x), some (.int (nI (ownA F s))), some (.int (nI z)), some (.int y), some (.int (nI (fM F - (j + 1)) - 1)), none, none, none]) ⟨rfl, rfl, rfl, rfl, rfl, rfl, rfl, rfl, trivial⟩ ?_
            exact ih _ _ (⟨i1, fun u a1 a2 a3 => if e : u = q then (by rw [e]; omega) else i2 u (by omega) a2 a3, by
                          rcases i3 with w | ⟨t, t1, t2, t3, t4, t5, t6⟩
                          · exact absurd lt (by omega)
                          · exact Or.inr ⟨t, t1, by omega, t3, t4, t5, fun u a1 a2 a3 => if e : u = q then (by rw [e]; exact lt) else t6 u (by omega) a2 a3⟩⟩)
          ·
            have le : (fuS s (fM F) (ownA F s) (lenA F s - 1) 99 0) q ≤ z := Nat.le_of_not_lt (fun w => h6 (nI_lt w (by omega)))
            refine lm_G_sg 2 (pc' := 122) (L' := [some (.ref 64), some (.int x), some (.int (nI (ownA F s))), some (.int (nI z)), some (.int y), some (.int (nI q)), some (.int (nI ((fuS s (fM F) (ownA F s) (lenA F s - 1) 99 0) q))), none, none]) (S' := [.int (nI q), .int (nI (ownA F s))]) (σ' := lm_T M1 v G) rfl trivial ?_
            refine lm_G_ca (j := 143) (as := [.int (nI (ownA F s)), .int (nI q)]) (rest := []) rfl (Or.inl rfl) (Nat.le_of_ble_eq_true rfl) (Nat.le_of_ble_eq_true rfl) (Nat.le_of_ble_eq_true rfl) (Nat.le_of_ble_eq_true rfl) rfl ?_
            refine c_isOf ?_
            show lm_G X (d + 2) 228 106 0 0 125 [some (.ref 64), some (.int x), some (.int (nI (ownA F s))), some (.int (nI z)), some (.int y), some (.int (nI q)), some (.int (nI ((fuS s (fM F) (ownA F s) (lenA F s - 1) 99 0) q))), none, none] [.int (b2i (bitW (nI (ownA F s)) q))] (lm_T M1 v G) Q
            rw [bitW_nI (k := ownA F s) (by omega)]
            refine lm_G_br (b := ¬ (b2i ((ownA F s).testBit q)) = 0) (t := 131) (S' := []) rfl (fun h7 => ?_) (fun h7 => absurd (Classical.not_not.mp h7) h5)
            refine lm_G_sg 5 (pc' := 141) (L' := [some (.ref 64), some (.int x), some (.int (nI (ownA F s))), some (.int (nI ((fuS s (fM F) (ownA F s) (lenA F s - 1) 99 0) q))), some (.int (nI q)), some (.int ((nI q) + (-1))), some (.int (nI ((fuS s (fM F) (ownA F s) (lenA F s - 1) 99 0) q))), none, none]) (S' := []) (σ' := lm_T M1 v G) rfl trivial ?_
            rw [show (nI q) + (-1) = nI (fM F - (j + 1)) - 1 from desc hq (by omega)]
            refine lm_G_sg 1 (pc' := 76) (L' := [some (.ref 64), some (.int x), some (.int (nI (ownA F s))), some (.int (nI ((fuS s (fM F) (ownA F s) (lenA F s - 1) 99 0) q))), some (.int (nI q)), some (.int (nI (fM F - (j + 1)) - 1)), some (.int (nI ((fuS s (fM F) (ownA F s) (lenA F s - 1) 99 0) q))), none, none]) (S' := []) (σ' := lm_T M1 v G) rfl trivial ?_
            refine lm_G_jk (L := [some (.ref 64), some (.int x), some (.int (nI (ownA F s))), some (.int (nI ((fuS s (fM F) (ownA F s) (lenA F s - 1) 99 0) q))), some (.int (nI q)), some (.int (nI (fM F - (j + 1)) - 1)), none, none, none]) ⟨rfl, rfl, rfl, rfl, rfl, rfl, rfl, rfl, trivial⟩ ?_
            exact ih _ _ (⟨by omega, fun u a1 a2 a3 => if e : u = q then (by rw [e]; exact Nat.le_refl _) else Nat.le_trans le (i2 u (by omega) a2 a3), Or.inr ⟨q, rfl, by omega, v1, v5, rfl, fun u a1 a2 => by omega⟩⟩)
      ·
        obtain ⟨z, y⟩ := zz
        replace hI : z ≤ 1000 ∧ (∀ u, fM F - (fM F) ≤ u → u < fM F → (vld (ownA F s) 0) u = true → z ≤ (fuS s (fM F) (ownA F s) (lenA F s - 1) 99 0) u) ∧ ((y = -1 ∧ z = 1000) ∨ ∃ t, y = nI t ∧ fM F - (fM F) ≤ t ∧ t < fM F ∧ (vld (ownA F s) 0) t = true ∧ (fuS s (fM F) (ownA F s) (lenA F s - 1) 99 0) t = z ∧ ∀ u, fM F - (fM F) ≤ u → u < t → (vld (ownA F s) 0) u = true → z < (fuS s (fM F) (ownA F s) (lenA F s - 1) 99 0) u) := hI
        show lm_G X (d + 2) 228 106 0 0 76 [some (.ref 64), some (.int x), some (.int (nI (ownA F s))), some (.int (nI z)), some (.int y), some (.int (nI (fM F - (fM F)) - 1)), none, none, none] [] (lm_T M1 v G) Q
        obtain ⟨i1, i2, i3⟩ := hI
        rw [Nat.sub_self] at i2 i3 ⊢
        refine lm_G_sg 1 (pc' := 78) (L' := [some (.ref 64), some (.int x), some (.int (nI (ownA F s))), some (.int (nI z)), some (.int y), some (.int (nI 0 - 1)), none, none, none]) (S' := [.int (nI 0 - 1)]) (σ' := lm_T M1 v G) rfl trivial ?_
        refine lm_G_br (b := (nI 0 - 1) < 0) (t := 144) (S' := []) rfl (fun hc => ?_) (fun hc => absurd (by decide) hc)
        have gu0 := gv u0 hb0
        have zl := i2 u0 (by omega) gu0.1 gu0.2.2.2.2
        obtain ⟨t, t1, t2, t3, t4, t5, t6⟩ := i3.resolve_left (fun w => by omega)
        have uq := arg_uq (g := (vld (ownA F s) 0)) (f := (fuS s (fM F) (ownA F s) (lenA F s - 1) 99 0)) (m := fM F) t3 t4 (fun u a1 a2 => by rw [t5]; exact i2 u (by omega) a1 a2) (fun u a1 a2 => by rw [t5]; exact t6 u (by omega) a1 a2) (by omega)
        have hl : lenA F s = (lenA F s - 1) + 1 := by omega
        have eL : lstA F s = z := by
          unfold lstA
          rw [hl, dS_s, ← t5, uq.2]
        have eP : pthA F s 0 = t := by
          unfold pthA
          rw [hl]
          simp only [pthS, if_true]
          exact uq.1.symm
        have eQ : ∀ k, 0 < k → pthA F s k = pthS s (fM F) (ownA F s) (lenA F s - 1) t (2 ^ t) (k - 1) := by
          intro k hk
          unfold pthA
          rw [hl]
          simp only [pthS]
          rw [if_neg (by omega), show nxS s (fM F) (ownA F s) (lenA F s - 1) 99 0 = t from uq.1.symm, Nat.zero_or]
          rfl
        refine lm_G_sg 2 (pc' := 146) (L' := [some (.ref 64), some (.int x), some (.int (nI (ownA F s))), some (.int (nI z)), some (.int y), some (.int (nI 0 - 1)), none, none, none]) (S' := [.int (-1), .int x]) (σ' := lm_T M1 v G) rfl trivial ?_
        refine lm_G_br (b := ¬ x = (-1)) (t := 151) (S' := []) rfl (fun h5 => ?_) (fun h5 => ?_)
        rotate_left
        ·
          refine lm_G_sg 1 (pc' := 150) (L' := [some (.ref 64), some (.int x), some (.int (nI (ownA F s))), some (.int (nI z)), some (.int y), some (.int (nI 0 - 1)), none, none, none]) (S' := [.int (nI z)]) (σ' := lm_T M1 v G) rfl trivial ?_
          rw [show aRou F s x = .inl (nI z) from by
            unfold aRou
            rw [hx, if_pos (Classical.not_not.mp h5), eL]
            rfl] at hQ
          exact lm_G_re rfl trivial (Nat.zero_le _) (Nat.zero_le _) (hQ _ h1 f1 c1)
        ·
          obtain ⟨i, hi, rfl⟩ : ∃ i, i < lenA F s ∧ x = nI i := rou_ix hxx.1 hxx.2 h5 hl6
          subst t1
          rw [show aRou F s (nI i) = .inl (nI (pthA F s i)) from by
            unfold aRou
            rw [hx, if_neg h5, nI_clamp (by omega)]
            rfl] at hQ
          refine lm_G_sg 6 (pc' := 160) (L' := [some (.ref 64), some (.int (nI i)), some (.int (nI (ownA F s))), some (.int (nI z)), some (.int (nI t)), some (.int ((1 : Int32) <<< ((nI t) &&& 31))), some (.int 0), none, none]) (S' := []) (σ' := lm_T M1 v G) rfl trivial ?_
          rw [show (1 : Int32) <<< ((nI t) &&& 31) = nI (2 ^ t) from bit1_n t (by omega)]
          refine lm_ind (α := Nat × Nat) (St := fun (j : Nat) zz => (fun (tt : Nat) (hh : Nat) => lm_G X (d + 2) 228 106 0 0 160 [some (.ref 64), some (.int (nI i)), some (.int (nI (ownA F s))), some (.int (nI z)), some (.int (nI tt)), some (.int (nI hh)), some (.int (nI j)), none, none] [] (lm_T M1 v G) Q) zz.1 zz.2) (Inv := fun (j : Nat) zz => (fun (tt : Nat) (hh : Nat) => hh < 64 ∧ hh &&& ownA F s = hh ∧ hh ≤ ownA F s ∧ pcN hh = j + 1 ∧ tt < fM F ∧ sOw s tt ≠ -1 ∧ hh.testBit tt = true ∧ pthA F s j = tt ∧ (∀ k, j < k → pthA F s k = pthS s (fM F) (ownA F s) (lenA F s - 1 - j) tt hh (k - j - 1))) zz.1 zz.2) (i) (fun j zz hj hI ih => ?_) (fun zz hI => ?_) (0) (t, 2 ^ t) (by omega) ?_
          ·
            obtain ⟨tt, hh⟩ := zz
            replace hI : hh < 64 ∧ hh &&& ownA F s = hh ∧ hh ≤ ownA F s ∧ pcN hh = j + 1 ∧ tt < fM F ∧ sOw s tt ≠ -1 ∧ hh.testBit tt = true ∧ pthA F s j = tt ∧ (∀ k, j < k → pthA F s k = pthS s (fM F) (ownA F s) (lenA F s - 1 - j) tt hh (k - j - 1)) := hI
            replace ih : ∀ (tt : Nat) (hh : Nat) (_ : hh < 64 ∧ hh &&& ownA F s = hh ∧ hh ≤ ownA F s ∧ pcN hh = (j + 1) + 1 ∧ tt < fM F ∧ sOw s tt ≠ -1 ∧ hh.testBit tt = true ∧ pthA F s (j + 1) = tt ∧ (∀ k, (j + 1) < k → pthA F s k = pthS s (fM F) (ownA F s) (lenA F s - 1 - (j + 1)) tt hh (k - (j + 1) - 1))), lm_G X (d + 2) 228 106 0 0 160 [some (.ref 64), some (.int (nI i)), some (.int (nI (ownA F s))), some (.int (nI z)), some (.int (nI tt)), some (.int (nI hh)), some (.int (nI (j + 1))), none, none] [] (lm_T M1 v G) Q := fun tt hh q => ih (tt, hh) q
            show lm_G X (d + 2) 228 106 0 0 160 [some (.ref 64), some (.int (nI i)), some (.int (nI (ownA F s))), some (.int (nI z)), some (.int (nI tt)), some (.int (nI hh)), some (.int (nI j)), none, none] [] (lm_T M1 v G) Q
            obtain ⟨j1, j2, j3, j4, j5, j6, j7, j8, j9⟩ := hI
            refine lm_G_sg 2 (pc' := 163) (L' := [some (.ref 64), some (.int (nI i)), some (.int (nI (ownA F s))), some (.int (nI z)), some (.int (nI tt)), some (.int (nI hh)), some (.int (nI j)), none, none]) (S' := [.int (nI i), .int (nI j)]) (σ' := lm_T M1 v G) rfl trivial ?_
            refine lm_G_br (b := (nI i) ≤ (nI j)) (t := 270) (S' := []) rfl (fun hc => absurd hc (nI_ge hj (by omega))) (fun hc => ?_)
            refine lm_G_sg 6 (pc' := 175) (L' := [some (.ref 64), some (.int (nI i)), some (.int (nI (ownA F s))), some (.int (nI z)), some (.int (nI tt)), some (.int (nI hh)), some (.int (nI j)), some (.int (-1)), none]) (S' := [.int (M1 68 1)]) (σ' := lm_T M1 v G) rfl ⟨(lm_inb_ok rfl), trivial, trivial⟩ ?_
            rw [show M1 68 1 = nI (fM F) from h1.m]
            refine lm_G_sg 3 (pc' := 179) (L' := [some (.ref 64), some (.int (nI i)), some (.int (nI (ownA F s))), some (.int (nI z)), some (.int (nI tt)), some (.int (nI hh)), some (.int (nI j)), some (.int (-1)), some (.int ((nI (fM F)) - 1))]) (S' := []) (σ' := lm_T M1 v G) rfl trivial ?_
            have er : lenA F s - 1 - j = (lenA F s - 1 - j - 1) + 1 := by omega
            have eD : dS s (fM F) (ownA F s) (lenA F s - 1 - j) tt hh = (mnS (vld (ownA F s) hh) (fuS s (fM F) (ownA F s) (lenA F s - 1 - j - 1) tt hh) (fM F)).1 := by
              rw [er, dS_s]
              rfl
            have dl := dS_le hF hs (lenA F s - 1 - j) tt hh (Or.inr ⟨j5, j6⟩) j1 j2 (by omega)
            obtain ⟨n1, n2, n3, n4⟩ := mn_at (g := (vld (ownA F s) hh)) (f := (fuS s (fM F) (ownA F s) (lenA F s - 1 - j - 1) tt hh)) (fM F) (by omega)
            have eg : M1 91 (64 * tt + hh) = nI (dS s (fM F) (ownA F s) (lenA F s - 1 - j) tt hh) := by
              have hp : 0 < hh := Nat.pos_of_ne_zero (fun e => by rw [e, pcN_0] at j4; omega)
              rw [g1 hh hp j3 j2 tt j5 j7, j4]
              congr 2
              omega
            refine lm_ind (α := Int32) (St := fun (k : Nat) zz => (fun (y : Int32) => lm_G X (d + 2) 228 106 0 0 179 [some (.ref 64), some (.int (nI i)), some (.int (nI (ownA F s))), some (.int (nI z)), some (.int (nI tt)), some (.int (nI hh)), some (.int (nI j)), some (.int y), some (.int (nI (fM F - k) - 1))] [] (lm_T M1 v G) Q) zz) (Inv := fun (k : Nat) zz => (fun (y : Int32) => (y = -1 ∧ ∀ u, fM F - k ≤ u → u < fM F → (vld (ownA F s) hh) u = true → (fuS s (fM F) (ownA F s) (lenA F s - 1 - j - 1) tt hh) u ≠ dS s (fM F) (ownA F s) (lenA F s - 1 - j) tt hh) ∨ ∃ w, y = nI w ∧ fM F - k ≤ w ∧ w < fM F ∧ (vld (ownA F s) hh) w = true ∧ (fuS s (fM F) (ownA F s) (lenA F s - 1 - j - 1) tt hh) w = dS s (fM F) (ownA F s) (lenA F s - 1 - j) tt hh ∧ ∀ u, fM F - k ≤ u → u < w → (vld (ownA F s) hh) u = true → (fuS s (fM F) (ownA F s) (lenA F s - 1 - j - 1) tt hh) u ≠ dS s (fM F) (ownA F s) (lenA F s - 1 - j) tt hh) zz) (fM F) (fun k zz hj2 hI2 ih2 => ?_) (fun zz hI2 => ?_) (0) (-1) (by omega) ?_
            ·
              revert ih2 hI2
              revert zz
              intro y hI2 ih2
              replace hI2 : (y = -1 ∧ ∀ u, fM F - k ≤ u → u < fM F → (vld (ownA F s) hh) u = true → (fuS s (fM F) (ownA F s) (lenA F s - 1 - j - 1) tt hh) u ≠ dS s (fM F) (ownA F s) (lenA F s - 1 - j) tt hh) ∨ ∃ w, y = nI w ∧ fM F - k ≤ w ∧ w < fM F ∧ (vld (ownA F s) hh) w = true ∧ (fuS s (fM F) (ownA F s) (lenA F s - 1 - j - 1) tt hh) w = dS s (fM F) (ownA F s) (lenA F s - 1 - j) tt hh ∧ ∀ u, fM F - k ≤ u → u < w → (vld (ownA F s) hh) u = true → (fuS s (fM F) (ownA F s) (lenA F s - 1 - j - 1) tt hh) u ≠ dS s (fM F) (ownA F s) (lenA F s - 1 - j) tt hh := hI2
              replace ih2 : ∀ (y : Int32) (_ : (y = -1 ∧ ∀ u, fM F - (k + 1) ≤ u → u < fM F → (vld (ownA F s) hh) u = true → (fuS s (fM F) (ownA F s) (lenA F s - 1 - j - 1) tt hh) u ≠ dS s (fM F) (ownA F s) (lenA F s - 1 - j) tt hh) ∨ ∃ w, y = nI w ∧ fM F - (k + 1) ≤ w ∧ w < fM F ∧ (vld (ownA F s) hh) w = true ∧ (fuS s (fM F) (ownA F s) (lenA F s - 1 - j - 1) tt hh) w = dS s (fM F) (ownA F s) (lenA F s - 1 - j) tt hh ∧ ∀ u, fM F - (k + 1) ≤ u → u < w → (vld (ownA F s) hh) u = true → (fuS s (fM F) (ownA F s) (lenA F s - 1 - j - 1) tt hh) u ≠ dS s (fM F) (ownA F s) (lenA F s - 1 - j) tt hh), lm_G X (d + 2) 228 106 0 0 179 [some (.ref 64), some (.int (nI i)), some (.int (nI (ownA F s))), some (.int (nI z)), some (.int (nI tt)), some (.int (nI hh)), some (.int (nI j)), some (.int y), some (.int (nI (fM F - (k + 1)) - 1))] [] (lm_T M1 v G) Q := fun y q => ih2 y q
              show lm_G X (d + 2) 228 106 0 0 179 [some (.ref 64), some (.int (nI i)), some (.int (nI (ownA F s))), some (.int (nI z)), some (.int (nI tt)), some (.int (nI hh)), some (.int (nI j)), some (.int y), some (.int (nI (fM F - k) - 1))] [] (lm_T M1 v G) Q
              rw [nI_sb1 (k := fM F - k) (by omega)]
              obtain ⟨q, hq⟩ : ∃ q, q = fM F - k - 1 := ⟨_, rfl⟩
              rw [← hq]
              refine lm_G_sg 1 (pc' := 181) (L' := [some (.ref 64), some (.int (nI i)), some (.int (nI (ownA F s))), some (.int (nI z)), some (.int (nI tt)), some (.int (nI hh)), some (.int (nI j)), some (.int y), some (.int (nI q))]) (S' := [.int (nI q)]) (σ' := lm_T M1 v G) rfl trivial ?_
              refine lm_G_br (b := (nI q) < 0) (t := 251) (S' := []) rfl (fun hc => absurd hc (nI_pos (by omega))) (fun hc => ?_)
              refine lm_G_sg 6 (pc' := 192) (L' := [some (.ref 64), some (.int (nI i)), some (.int (nI (ownA F s))), some (.int (nI z)), some (.int (nI tt)), some (.int (nI hh)), some (.int (nI j)), some (.int y), some (.int (nI q))]) (S' := [.int (nI q), .int ((nI (ownA F s)) &&& ((nI hh) ^^^ (-1)))]) (σ' := lm_T M1 v G) rfl trivial ?_
              refine lm_G_ca (j := 143) (as := [.int ((nI (ownA F s)) &&& ((nI hh) ^^^ (-1))), .int (nI q)]) (rest := []) rfl (Or.inl rfl) (Nat.le_of_ble_eq_true rfl) (Nat.le_of_ble_eq_true rfl) (Nat.le_of_ble_eq_true rfl) (Nat.le_of_ble_eq_true rfl) rfl ?_
              refine c_isOf ?_
              show lm_G X (d + 2) 228 106 0 0 195 [some (.ref 64), some (.int (nI i)), some (.int (nI (ownA F s))), some (.int (nI z)), some (.int (nI tt)), some (.int (nI hh)), some (.int (nI j)), some (.int y), some (.int (nI q))] [.int (b2i (bitW (nI (ownA F s) &&& (nI hh ^^^ (-1))) q))] (lm_T M1 v G) Q
              rw [bitW_dif (by omega)]
              refine lm_G_br (b := (b2i (vld (ownA F s) hh q)) = 0) (t := 245) (S' := []) rfl (fun h8 => ?_) (fun h8 => ?_)
              ·
                refine lm_G_sg 1 (pc' := 248) (L' := [some (.ref 64), some (.int (nI i)), some (.int (nI (ownA F s))), some (.int (nI z)), some (.int (nI tt)), some (.int (nI hh)), some (.int (nI j)), some (.int y), some (.int ((nI q) + (-1)))]) (S' := []) (σ' := lm_T M1 v G) rfl trivial ?_
                rw [show (nI q) + (-1) = nI (fM F - (k + 1)) - 1 from desc hq (by omega)]
                refine lm_G_sg 1 (pc' := 179) (L' := [some (.ref 64), some (.int (nI i)), some (.int (nI (ownA F s))), some (.int (nI z)), some (.int (nI tt)), some (.int (nI hh)), some (.int (nI j)), some (.int y), some (.int (nI (fM F - (k + 1)) - 1))]) (S' := []) (σ' := lm_T M1 v G) rfl trivial ?_
                exact ih2 _ (by
                                  rcases hI2 with ⟨y1, y2⟩ | ⟨w, w1, w2, w3, w4, w5, w6⟩
                                  · exact Or.inl ⟨y1, fun u a1 a2 a3 => if e : u = q then absurd a3 (by rw [e, b2i_0 h8]; decide) else y2 u (by omega) a2 a3⟩
                                  · exact Or.inr ⟨w, w1, by omega, w3, w4, w5, fun u a1 a2 a3 => if e : u = q then absurd a3 (by rw [e, b2i_0 h8]; decide) else w6 u (by omega) a2 a3⟩)
              ·
                have hv := b2i_1 h8
                obtain ⟨v1, v2, v3, v4⟩ := vld_ok hF hv
                have po := pc_or hh j1 q (by omega) v4
                have so := sub_or _ hA hh j1 j2 q (by omega) v3
                have ol := or_lt hh j1 q (by omega)
                have dl2 := dS_le hF hs (lenA F s - 1 - j - 1) q (hh ||| 2 ^ q) (Or.inr ⟨v1, v2⟩) ol so.1 (by rw [po.1]; clear so; omega)
                have hw := wN_le hF hs (Or.inr ⟨j5, j6⟩) v1 v2 (t := tt)
                have eg2 : M1 91 (64 * q + (hh ||| 2 ^ q)) = nI (dS s (fM F) (ownA F s) (lenA F s - 1 - j - 1) q (hh ||| 2 ^ q)) := by
                  rw [g1 _ (by omega) so.2 so.1 q v1 (bit_or hh j1 q (by omega)), po.1, j4]
                  congr 2
                  clear so
                  omega
                refine lm_G_sg 3 (pc' := 203) (L' := [some (.ref 64), some (.int (nI i)), some (.int (nI (ownA F s))), some (.int (nI z)), some (.int (nI tt)), some (.int (nI hh)), some (.int (nI j)), some (.int y), some (.int (nI q))]) (S' := [.int (nI q), .int (nI tt), .ref 64]) (σ' := lm_T M1 v G) rfl trivial ?_
                refine lm_G_ca (j := 226) (as := [.ref 64, .int (nI tt), .int (nI q)]) (rest := []) rfl (Or.inl rfl) (Nat.le_of_ble_eq_true rfl) (Nat.le_of_ble_eq_true rfl) (Nat.le_of_ble_eq_true rfl) (Nat.le_of_ble_eq_true rfl) rfl ?_
                refine m_wayOf hF hs h1 j5 j6 v1 v2 ?_
                show lm_G X (d + 2) 228 106 0 0 206 [some (.ref 64), some (.int (nI i)), some (.int (nI (ownA F s))), some (.int (nI z)), some (.int (nI tt)), some (.int (nI hh)), some (.int (nI j)), some (.int y), some (.int (nI q))] [.int (nI (wN s tt q))] (lm_T M1 v G) Q
                refine lm_G_sg 5 (pc' := 215) (L' := [some (.ref 64), some (.int (nI i)), some (.int (nI (ownA F s))), some (.int (nI z)), some (.int (nI tt)), some (.int (nI hh)), some (.int (nI j)), some (.int y), some (.int (nI q))]) (S' := [.int ((nI q) <<< ((6 : Int32) &&& 31)), .ref 91, .int (nI (wN s tt q))]) (σ' := lm_T M1 v G) rfl trivial ?_
                rw [show nI q <<< ((6 : Int32) &&& 31) = nI (64 * q) from shl6 q (by omega)]
                refine lm_G_sg 5 (pc' := 222) (L' := [some (.ref 64), some (.int (nI i)), some (.int (nI (ownA F s))), some (.int (nI z)), some (.int (nI tt)), some (.int (nI hh)), some (.int (nI j)), some (.int y), some (.int (nI q))]) (S' := [.int ((nI hh) ||| ((1 : Int32) <<< ((nI q) &&& 31))), .int (nI (64 * q)), .ref 91, .int (nI (wN s tt q))]) (σ' := lm_T M1 v G) rfl trivial ?_
                rw [show (nI hh) ||| ((1 : Int32) <<< ((nI q) &&& 31)) = nI (hh ||| 2 ^ q) from or_bit (by omega)]
                refine lm_G_sg 1 (pc' := 223) (L' := [some (.ref 64), some (.int (nI i)), some (.int (nI (ownA F s))), some (.int (nI z)), some (.int (nI tt)), some (.int (nI hh)), some (.int (nI j)), some (.int y), some (.int (nI q))]) (S' := [.int ((nI (64 * q)) + (nI (hh ||| 2 ^ q))), .ref 91, .int (nI (wN s tt q))]) (σ' := lm_T M1 v G) rfl trivial ?_
                rw [show (nI (64 * q)) + (nI (hh ||| 2 ^ q)) = nI ((64 * q) + (hh ||| 2 ^ q)) from nI_add (64 * q) (hh ||| 2 ^ q)]
                refine lm_G_sg 1 (pc' := 224) (L' := [some (.ref 64), some (.int (nI i)), some (.int (nI (ownA F s))), some (.int (nI z)), some (.int (nI tt)), some (.int (nI hh)), some (.int (nI j)), some (.int y), some (.int (nI q))]) (S' := [.int (M1 91 (nI ((64 * q) + (hh ||| 2 ^ q))).toNatClampNeg), .int (nI (wN s tt q))]) (σ' := lm_T M1 v G) rfl ⟨(vp_in_nI (by omega) (by omega)), trivial, trivial⟩ ?_
                rw [show (nI ((64 * q) + (hh ||| 2 ^ q))).toNatClampNeg = ((64 * q) + (hh ||| 2 ^ q)) from nI_clamp (by omega)]
                rw [show M1 91 ((64 * q) + (hh ||| 2 ^ q)) = nI (dS s (fM F) (ownA F s) (lenA F s - 1 - j - 1) q (hh ||| 2 ^ q)) from eg2]
                refine lm_G_sg 1 (pc' := 225) (L' := [some (.ref 64), some (.int (nI i)), some (.int (nI (ownA F s))), some (.int (nI z)), some (.int (nI tt)), some (.int (nI hh)), some (.int (nI j)), some (.int y), some (.int (nI q))]) (S' := [.int ((nI (wN s tt q)) + (nI (dS s (fM F) (ownA F s) (lenA F s - 1 - j - 1) q (hh ||| 2 ^ q))))]) (σ' := lm_T M1 v G) rfl trivial ?_
                rw [show (nI (wN s tt q)) + (nI (dS s (fM F) (ownA F s) (lenA F s - 1 - j - 1) q (hh ||| 2 ^ q))) = nI ((wN s tt q) + (dS s (fM F) (ownA F s) (lenA F s - 1 - j - 1) q (hh ||| 2 ^ q))) from nI_add (wN s tt q) (dS s (fM F) (ownA F s) (lenA F s - 1 - j - 1) q (hh ||| 2 ^ q))]
                refine lm_G_sg 5 (pc' := 234) (L' := [some (.ref 64), some (.int (nI i)), some (.int (nI (ownA F s))), some (.int (nI z)), some (.int (nI tt)), some (.int (nI hh)), some (.int (nI j)), some (.int y), some (.int (nI q))]) (S' := [.int ((nI tt) <<< ((6 : Int32) &&& 31)), .ref 91, .int (nI ((wN s tt q) + (dS s (fM F) (ownA F s) (lenA F s - 1 - j - 1) q (hh ||| 2 ^ q))))]) (σ' := lm_T M1 v G) rfl trivial ?_
                rw [show nI tt <<< ((6 : Int32) &&& 31) = nI (64 * tt) from shl6 tt (by omega)]
                refine lm_G_sg 2 (pc' := 237) (L' := [some (.ref 64), some (.int (nI i)), some (.int (nI (ownA F s))), some (.int (nI z)), some (.int (nI tt)), some (.int (nI hh)), some (.int (nI j)), some (.int y), some (.int (nI q))]) (S' := [.int ((nI (64 * tt)) + (nI hh)), .ref 91, .int (nI ((wN s tt q) + (dS s (fM F) (ownA F s) (lenA F s - 1 - j - 1) q (hh ||| 2 ^ q))))]) (σ' := lm_T M1 v G) rfl trivial ?_
                rw [show (nI (64 * tt)) + (nI hh) = nI ((64 * tt) + hh) from nI_add (64 * tt) hh]
                refine lm_G_sg 1 (pc' := 238) (L' := [some (.ref 64), some (.int (nI i)), some (.int (nI (ownA F s))), some (.int (nI z)), some (.int (nI tt)), some (.int (nI hh)), some (.int (nI j)), some (.int y), some (.int (nI q))]) (S' := [.int (M1 91 (nI ((64 * tt) + hh)).toNatClampNeg), .int (nI ((wN s tt q) + (dS s (fM F) (ownA F s) (lenA F s - 1 - j - 1) q (hh ||| 2 ^ q))))]) (σ' := lm_T M1 v G) rfl ⟨(vp_in_nI (by omega) (by omega)), trivial, trivial⟩ ?_
                rw [show (nI ((64 * tt) + hh)).toNatClampNeg = ((64 * tt) + hh) from nI_clamp (by omega)]
                rw [show M1 91 ((64 * tt) + hh) = nI (dS s (fM F) (ownA F s) (lenA F s - 1 - j) tt hh) from eg]
                refine lm_G_br (b := ¬ (nI ((wN s tt q) + (dS s (fM F) (ownA F s) (lenA F s - 1 - j - 1) q (hh ||| 2 ^ q)))) = (nI (dS s (fM F) (ownA F s) (lenA F s - 1 - j) tt hh))) (t := 245) (S' := []) rfl (fun h9 => ?_) (fun h9 => ?_)
                ·
                  refine lm_G_sg 1 (pc' := 248) (L' := [some (.ref 64), some (.int (nI i)), some (.int (nI (ownA F s))), some (.int (nI z)), some (.int (nI tt)), some (.int (nI hh)), some (.int (nI j)), some (.int y), some (.int ((nI q) + (-1)))]) (S' := []) (σ' := lm_T M1 v G) rfl trivial ?_
                  rw [show (nI q) + (-1) = nI (fM F - (k + 1)) - 1 from desc hq (by omega)]
                  refine lm_G_sg 1 (pc' := 179) (L' := [some (.ref 64), some (.int (nI i)), some (.int (nI (ownA F s))), some (.int (nI z)), some (.int (nI tt)), some (.int (nI hh)), some (.int (nI j)), some (.int y), some (.int (nI (fM F - (k + 1)) - 1))]) (S' := []) (σ' := lm_T M1 v G) rfl trivial ?_
                  exact ih2 _ (by
                                      rcases hI2 with ⟨y1, y2⟩ | ⟨w, w1, w2, w3, w4, w5, w6⟩
                                      · exact Or.inl ⟨y1, fun u a1 a2 a3 => if e : u = q then (fun w => h9 (by rw [← w, e]; rfl)) else y2 u (by omega) a2 a3⟩
                                      · exact Or.inr ⟨w, w1, by omega, w3, w4, w5, fun u a1 a2 a3 => if e : u = q then (fun w => h9 (by rw [← w, e]; rfl)) else w6 u (by omega) a2 a3⟩)
                ·
                  have eq : (fuS s (fM F) (ownA F s) (lenA F s - 1 - j - 1) tt hh) q = dS s (fM F) (ownA F s) (lenA F s - 1 - j) tt hh := (nI_eq (by unfold fuS; omega) (by omega)).mp (Classical.not_not.mp h9)
                  refine lm_G_sg 3 (pc' := 248) (L' := [some (.ref 64), some (.int (nI i)), some (.int (nI (ownA F s))), some (.int (nI z)), some (.int (nI tt)), some (.int (nI hh)), some (.int (nI j)), some (.int (nI q)), some (.int ((nI q) + (-1)))]) (S' := []) (σ' := lm_T M1 v G) rfl trivial ?_
                  rw [show (nI q) + (-1) = nI (fM F - (k + 1)) - 1 from desc hq (by omega)]
                  refine lm_G_sg 1 (pc' := 179) (L' := [some (.ref 64), some (.int (nI i)), some (.int (nI (ownA F s))), some (.int (nI z)), some (.int (nI tt)), some (.int (nI hh)), some (.int (nI j)), some (.int (nI q)), some (.int (nI (fM F - (k + 1)) - 1))]) (S' := []) (σ' := lm_T M1 v G) rfl trivial ?_
                  exact ih2 _ (Or.inr ⟨q, rfl, by omega, v1, hv, eq, fun u a1 a2 => by omega⟩)
            ·
              revert hI2
              revert zz
              intro y hI2
              replace hI2 : (y = -1 ∧ ∀ u, fM F - (fM F) ≤ u → u < fM F → (vld (ownA F s) hh) u = true → (fuS s (fM F) (ownA F s) (lenA F s - 1 - j - 1) tt hh) u ≠ dS s (fM F) (ownA F s) (lenA F s - 1 - j) tt hh) ∨ ∃ w, y = nI w ∧ fM F - (fM F) ≤ w ∧ w < fM F ∧ (vld (ownA F s) hh) w = true ∧ (fuS s (fM F) (ownA F s) (lenA F s - 1 - j - 1) tt hh) w = dS s (fM F) (ownA F s) (lenA F s - 1 - j) tt hh ∧ ∀ u, fM F - (fM F) ≤ u → u < w → (vld (ownA F s) hh) u = true → (fuS s (fM F) (ownA F s) (lenA F s - 1 - j - 1) tt hh) u ≠ dS s (fM F) (ownA F s) (lenA F s - 1 - j) tt hh := hI2
              show lm_G X (d + 2) 228 106 0 0 179 [some (.ref 64), some (.int (nI i)), some (.int (nI (ownA F s))), some (.int (nI z)), some (.int (nI tt)), some (.int (nI hh)), some (.int (nI j)), some (.int y), some (.int (nI (fM F - (fM F)) - 1))] [] (lm_T M1 v G) Q
              rw [Nat.sub_self] at hI2 ⊢
              refine lm_G_sg 1 (pc' := 181) (L' := [some (.ref 64), some (.int (nI i)), some (.int (nI (ownA F s))), some (.int (nI z)), some (.int (nI tt)), some (.int (nI hh)), some (.int (nI j)), some (.int y), some (.int (nI 0 - 1))]) (S' := [.int (nI 0 - 1)]) (σ' := lm_T M1 v G) rfl trivial ?_
              refine lm_G_br (b := (nI 0 - 1) < 0) (t := 251) (S' := []) rfl (fun hc => ?_) (fun hc => absurd (by decide) hc)
              obtain ⟨w, w1, w2, w3, w4, w5, w6⟩ := hI2.resolve_left (fun y => y.2 _ (by omega) n1 n2 (by rw [n3, eD]))
              have ew : w = nxS s (fM F) (ownA F s) (lenA F s - 1 - j - 1) tt hh := by
                show w = (mnS (vld (ownA F s) hh) (fuS s (fM F) (ownA F s) (lenA F s - 1 - j - 1) tt hh) (fM F)).2
                apply Classical.byContradiction
                intro y
                rcases Nat.lt_or_gt_of_ne y with y | y
                · have := n4 w y w4
                  omega
                · exact w6 _ (by omega) y n2 (by rw [n3, eD])
              subst w1
              obtain ⟨v1, v2, v3, v4⟩ := vld_ok hF w4
              have po := pc_or hh j1 w (by omega) v4
              have so := sub_or _ hA hh j1 j2 w (by omega) v3
              have ol := or_lt hh j1 w (by omega)
              refine lm_G_sg 5 (pc' := 258) (L' := [some (.ref 64), some (.int (nI i)), some (.int (nI (ownA F s))), some (.int (nI z)), some (.int (nI tt)), some (.int (nI hh)), some (.int (nI j)), some (.int (nI w)), some (.int (nI 0 - 1))]) (S' := [.int ((nI hh) ||| ((1 : Int32) <<< ((nI w) &&& 31)))]) (σ' := lm_T M1 v G) rfl trivial ?_
              rw [show (nI hh) ||| ((1 : Int32) <<< ((nI w) &&& 31)) = nI (hh ||| 2 ^ w) from or_bit (by omega)]
              refine lm_G_sg 4 (pc' := 267) (L' := [some (.ref 64), some (.int (nI i)), some (.int (nI (ownA F s))), some (.int (nI z)), some (.int (nI w)), some (.int (nI (hh ||| 2 ^ w))), some (.int ((nI j) + 1)), some (.int (nI w)), some (.int (nI 0 - 1))]) (S' := []) (σ' := lm_T M1 v G) rfl trivial ?_
              rw [nI_1]
              refine lm_G_sg 1 (pc' := 160) (L' := [some (.ref 64), some (.int (nI i)), some (.int (nI (ownA F s))), some (.int (nI z)), some (.int (nI w)), some (.int (nI (hh ||| 2 ^ w))), some (.int (nI (j + 1))), some (.int (nI w)), some (.int (nI 0 - 1))]) (S' := []) (σ' := lm_T M1 v G) rfl trivial ?_
              refine lm_G_jk (L := [some (.ref 64), some (.int (nI i)), some (.int (nI (ownA F s))), some (.int (nI z)), some (.int (nI w)), some (.int (nI (hh ||| 2 ^ w))), some (.int (nI (j + 1))), none, none]) ⟨rfl, rfl, rfl, rfl, rfl, rfl, rfl, trivial⟩ ?_
              exact ih _ _ (⟨ol, so.1, so.2, by rw [po.1, j4], v1, v2, bit_or hh j1 w (by omega), by
                              rw [j9 (j + 1) (by omega), er, show j + 1 - j - 1 = 0 by omega]
                              simp only [pthS, if_true]
                              exact ew.symm, fun k hk => by
                              rw [j9 k (by omega), er]
                              simp only [pthS]
                              rw [if_neg (by omega), ← ew, show k - j - 1 - 1 = k - (j + 1) - 1 by omega, show lenA F s - 1 - (j + 1) = lenA F s - 1 - j - 1 by omega]⟩)
            ·
              try dsimp only
              exact Or.inl ⟨rfl, fun u a1 a2 => by omega⟩
          ·
            obtain ⟨tt, hh⟩ := zz
            replace hI : hh < 64 ∧ hh &&& ownA F s = hh ∧ hh ≤ ownA F s ∧ pcN hh = i + 1 ∧ tt < fM F ∧ sOw s tt ≠ -1 ∧ hh.testBit tt = true ∧ pthA F s i = tt ∧ (∀ k, i < k → pthA F s k = pthS s (fM F) (ownA F s) (lenA F s - 1 - i) tt hh (k - i - 1)) := hI
            show lm_G X (d + 2) 228 106 0 0 160 [some (.ref 64), some (.int (nI i)), some (.int (nI (ownA F s))), some (.int (nI z)), some (.int (nI tt)), some (.int (nI hh)), some (.int (nI i)), none, none] [] (lm_T M1 v G) Q
            obtain ⟨j1, j2, j3, j4, j5, j6, j7, j8, j9⟩ := hI
            refine lm_G_sg 2 (pc' := 163) (L' := [some (.ref 64), some (.int (nI i)), some (.int (nI (ownA F s))), some (.int (nI z)), some (.int (nI tt)), some (.int (nI hh)), some (.int (nI i)), none, none]) (S' := [.int (nI i), .int (nI i)]) (σ' := lm_T M1 v G) rfl trivial ?_
            refine lm_G_br (b := (nI i) ≤ (nI i)) (t := 270) (S' := []) rfl (fun hc => ?_) (fun hc => absurd (nI_le (Nat.le_refl _) (by omega)) hc)
            refine lm_G_sg 1 (pc' := 272) (L' := [some (.ref 64), some (.int (nI i)), some (.int (nI (ownA F s))), some (.int (nI z)), some (.int (nI tt)), some (.int (nI hh)), some (.int (nI i)), none, none]) (S' := [.int (nI tt)]) (σ' := lm_T M1 v G) rfl trivial ?_
            rw [j8] at hQ
            exact lm_G_re rfl trivial (Nat.zero_le _) (Nat.zero_le _) (hQ _ h1 f1 c1)
          ·
            try dsimp only
            exact ⟨(pc_1 t (by omega)).2.2.1, (sub_1 _ hA t (by omega) (vld_ok hF t4).2.2.1).1, (sub_1 _ hA t (by omega) (vld_ok hF t4).2.2.1).2.1, (pc_1 t (by omega)).1, t3, (vld_ok hF t4).2.1, (pc_1 t (by omega)).2.1, eP, fun k hk => eQ k hk⟩
      ·
        try dsimp only
        exact ⟨by omega, fun u a1 a2 => by omega, Or.inl ⟨rfl, rfl⟩⟩
