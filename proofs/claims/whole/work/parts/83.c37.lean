/-! ===== contracts: the model reads an expression, whole ===== -/
set_option maxRecDepth 10000 in
theorem m_readExpr {X : lm_X} {T : Tx} {J : Bool} {h w : Nat} {sub : Nat → PR} (hT : okT T) (hL : okL T sub) (hw : w ≤ 5) (hnb : ∀ p, canB T p = false → lvl T 0 sub p = .inr (1, stS' T p)) (hsub : ∀ d, MQe X T J (d + (h + 2)) 166 [.ref 64, .int (nI w)] sub) : ∀ d, MQe X T J (d + (h + 3)) 167 [.ref 64, .int (nI w)] (lvl T 0 sub) := by
  refine fun d => ⟨?_, m_exB⟩
  intro M G Q p K hg hp h28 hk hkl hok her
  show lm_G X (d + (h + 3)) 167 106 0 0 0 [some (.ref 64), some (.int (nI w)), none] [] (lm_T M (vvJ J) G) Q
  have hn := hT.1
  have kl := tk_le (T := T) (p := p)
  have kB : ∀ (M9 : Nat → Fn) (e9 : Nat) (a9 : Nat) (z9 : ¬ M9 64 25 = 0) (b9 : BM M9 e9 a9) (f9 : FrP M M9) (q9 : lvl T 0 sub p = .inr (e9, a9)), lm_G X (d + (h + 3)) 167 106 0 0 67 [some (.ref 64), some (.int (nI w)), none] [] (lm_T M9 (vvJ J) G) Q := by
    intro M9 e9 a9 z9 b9 f9 q9
    refine lm_G_sg 2 (pc' := 71) (L' := [some (.ref 64), some (.int (nI w)), none]) (S' := [.ref 1014, .ref 64]) (σ' := lm_T M9 (vvJ J) G) rfl trivial ?_
    refine lm_G_ca (j := 155) (as := [.ref 64, .ref 1014]) (rest := []) rfl (Or.inl rfl) (Nat.le_of_ble_eq_true rfl) (Nat.le_of_ble_eq_true rfl) (Nat.le_of_ble_eq_true rfl) (Nat.le_of_ble_eq_true rfl) rfl ?_
    refine m_isB14 z9 ?_
    show lm_G X (d + (h + 3)) 167 106 0 0 74 [some (.ref 64), some (.int (nI w)), none] [.int 0] (lm_T M9 (vvJ J) G) Q
    refine lm_G_br (b := 0 = 0) (t := 95) (S' := []) rfl (fun hc => ?_) (fun hc => absurd rfl hc)
    exact lm_G_re rfl trivial (Nat.zero_le _) (Nat.zero_le _) (her _ _ q9 _ b9 z9 f9)
  have k39 : ∀ (un : True), lm_G X (d + (h + 3)) 167 106 0 0 39 [some (.ref 64), some (.int (nI w)), some (.int (b2i (canB T p)))] [] (lm_T M (vvJ J) G) Q := by
    intro un
    refine lm_G_sg 1 (pc' := 40) (L' := [some (.ref 64), some (.int (nI w)), some (.int (b2i (canB T p)))]) (S' := [.int (b2i (canB T p))]) (σ' := lm_T M (vvJ J) G) rfl trivial ?_
    refine lm_G_br (b := ¬ (b2i (canB T p)) = 0) (t := 51) (S' := []) rfl (fun gc => ?_) (fun gc => ?_)
    rotate_left
    ·
      have nb := b2i_0 (Classical.not_not.mp gc)
      refine lm_G_sg 2 (pc' := 45) (L' := [some (.ref 64), some (.int (nI w)), some (.int (b2i (canB T p)))]) (S' := [.int 1, .ref 64]) (σ' := lm_T M (vvJ J) G) rfl trivial ?_
      refine lm_G_ca (j := 154) (as := [.ref 64, .int 1]) (rest := []) rfl (Or.inl rfl) (Nat.le_of_ble_eq_true rfl) (Nat.le_of_ble_eq_true rfl) (Nat.le_of_ble_eq_true rfl) (Nat.le_of_ble_eq_true rfl) rfl ?_
      refine m_wrong hg.2 ?_
      show lm_G X (d + (h + 3)) 167 106 0 0 48 [some (.ref 64), some (.int (nI w)), some (.int (b2i (canB T p)))] [] (lm_T (lm_wr (lm_wr M 64 25 1) 64 26 (M 64 23)) (vvJ J) G) Q
      have z1 : ¬ (lm_wr (lm_wr M 64 25 1) 64 26 (M 64 23)) 64 25 = 0 := wr_nz (by decide)
      refine lm_G_sg 3 (pc' := 64) (L' := [some (.ref 64), some (.int (nI w)), some (.int (b2i (canB T p)))]) (S' := [.int (nI w), .ref 64]) (σ' := lm_T (lm_wr (lm_wr M 64 25 1) 64 26 (M 64 23)) (vvJ J) G) rfl trivial ?_
      refine lm_G_ca (j := 166) (as := [.ref 64, .int (nI w)]) (rest := []) rfl (Or.inl rfl) (Nat.le_of_ble_eq_true rfl) (Nat.le_of_ble_eq_true rfl) (Nat.le_of_ble_eq_true rfl) (Nat.le_of_ble_eq_true rfl) rfl ?_
      refine (hsub d).2 _ _ _ _ z1 ?_
      show lm_G X (d + (h + 3)) 167 106 0 0 67 [some (.ref 64), some (.int (nI w)), some (.int (b2i (canB T p)))] [] (lm_T (lm_wr (lm_wr M 64 25 1) 64 26 (M 64 23)) (vvJ J) G) Q
      refine lm_G_jk (L := [some (.ref 64), some (.int (nI w)), none]) ⟨rfl, rfl, trivial⟩ ?_
      exact kB _ 1 _ z1 ⟨rfl, hg.1.2.2.1⟩ (FrP_w64 (FrP_w64 (FrP_rf _) (by decide)) (by decide)) (hnb p nb)
    ·
      refine lm_G_sg 2 (pc' := 54) (L' := [some (.ref 64), some (.int (nI w)), some (.int (b2i (canB T p)))]) (S' := [.int 6, .int (nI w)]) (σ' := lm_T M (vvJ J) G) rfl trivial ?_
      refine lm_G_br (b := ¬ (nI w) = 6) (t := 62) (S' := []) rfl (fun hc => ?_) (fun hc => absurd ((nI_eq (b := 6) (by omega) (by omega)).mp (Classical.not_not.mp hc)) (by omega))
      refine lm_G_sg 2 (pc' := 64) (L' := [some (.ref 64), some (.int (nI w)), some (.int (b2i (canB T p)))]) (S' := [.int (nI w), .ref 64]) (σ' := lm_T M (vvJ J) G) rfl trivial ?_
      refine lm_G_ca (j := 166) (as := [.ref 64, .int (nI w)]) (rest := []) rfl (Or.inl rfl) (Nat.le_of_ble_eq_true rfl) (Nat.le_of_ble_eq_true rfl) (Nat.le_of_ble_eq_true rfl) (Nat.le_of_ble_eq_true rfl) rfl ?_
      refine (hsub d).1 M G _ (p) (K) hg hp h28 hk hkl (fun r2 c2 er2 M2 g2 k2 f2 => ?_) (fun e2 a2 er2 M2 b2 z2 f2 => ?_)
      ·
        show lm_G X (d + (h + 3)) 167 106 0 0 67 [some (.ref 64), some (.int (nI w)), some (.int (b2i (canB T p)))] [] (lm_T M2 (vvJ J) G) Q
        obtain ⟨o1, o2, o3⟩ := hL _ _ _ hp er2
        refine lm_G_jk (L := [some (.ref 64), some (.int (nI w)), none]) ⟨rfl, rfl, trivial⟩ ?_
        refine lm_ind (α := (Nat → Fn) × Nat × Cd) (St := fun (j : Nat) zz => (fun (M3 : Nat → Fn) (u : Nat) (c : Cd) => lm_G X (d + (h + 3)) 167 106 0 0 67 [some (.ref 64), some (.int (nI w)), none] [] (lm_T M3 (vvJ J) G) Q) zz.1 zz.2.1 zz.2.2) (Inv := fun (j : Nat) zz => (fun (M3 : Nat → Fn) (u : Nat) (c : Cd) => GM M3 T u ∧ u ≤ tN T ∧ MCode M3 J (K ++ c) ∧ (K ++ c).length ≤ u ∧ 2 * j ≤ u ∧ FrJ J M M3 ∧ chn T 0 sub (700 - j) u c = lvl T 0 sub p) zz.1 zz.2.1 zz.2.2) (700) (fun j zz hj hI ih => ?_) (fun zz hI => ?_) (0) (M2, r2, c2) (by omega) ?_
        ·
          obtain ⟨M3, u, c⟩ := zz
          replace hI : GM M3 T u ∧ u ≤ tN T ∧ MCode M3 J (K ++ c) ∧ (K ++ c).length ≤ u ∧ 2 * j ≤ u ∧ FrJ J M M3 ∧ chn T 0 sub (700 - j) u c = lvl T 0 sub p := hI
          replace ih : ∀ (M3 : Nat → Fn) (u : Nat) (c : Cd) (_ : GM M3 T u ∧ u ≤ tN T ∧ MCode M3 J (K ++ c) ∧ (K ++ c).length ≤ u ∧ 2 * (j + 1) ≤ u ∧ FrJ J M M3 ∧ chn T 0 sub (700 - (j + 1)) u c = lvl T 0 sub p), lm_G X (d + (h + 3)) 167 106 0 0 67 [some (.ref 64), some (.int (nI w)), none] [] (lm_T M3 (vvJ J) G) Q := fun M3 u c q => ih (M3, u, c) q
          show lm_G X (d + (h + 3)) 167 106 0 0 67 [some (.ref 64), some (.int (nI w)), none] [] (lm_T M3 (vvJ J) G) Q
          obtain ⟨g3, l3, k3, kl3, j3, F3, eR⟩ := hI
          have h283 : M3 64 28 = b2i J := ((F3.2.1 28 (by decide) (by decide) (by decide) (by decide) (by decide) (by decide) (by decide)).trans h28)
          have k40 : ∀ (h9 : ¬ opS T 0 u = 9), lm_G X (d + (h + 3)) 167 106 0 0 77 [some (.ref 64), some (.int (nI w)), none] [] (lm_T M3 (vvJ J) G) Q := by
            intro h9
            have hg_ := en_gt l3 (op_kn h9)
            have hl := (en_le l3).2.1
            have ef : 700 - j = (700 - (j + 1)) + 1 := by omega
            rw [ef] at eR
            refine lm_G_sg 1 (pc' := 78) (L' := [some (.ref 64), some (.int (nI w)), none]) (S' := [.ref 64]) (σ' := lm_T M3 (vvJ J) G) rfl trivial ?_
            refine lm_G_ca (j := 153) (as := [.ref 64]) (rest := []) rfl (Or.inl rfl) (Nat.le_of_ble_eq_true rfl) (Nat.le_of_ble_eq_true rfl) (Nat.le_of_ble_eq_true rfl) (Nat.le_of_ble_eq_true rfl) rfl ?_
            refine m_stepOn (p := enS T u) hT g3.1.1 hl g3.1.2.2.2.2.1 (fun M4 r4 f4 => ?_)
            show lm_G X (d + (h + 3)) 167 106 0 0 81 [some (.ref 64), some (.int (nI w)), none] [] (lm_T M4 (vvJ J) G) Q
            have g4 : GM M4 T (enS T u) := ⟨r4, (f4.2 25 (by decide) (by decide) (by decide) (by decide) (by decide)).trans g3.2⟩
            have k4 := MC_K k3 f4
            have F4 := FrJ_tr F3 (FrJ_K f4)
            have h284 : M4 64 28 = b2i J := ((F4.2.1 28 (by decide) (by decide) (by decide) (by decide) (by decide) (by decide) (by decide)).trans h28)
            refine lm_G_sg 2 (pc' := 83) (L' := [some (.ref 64), some (.int (nI w)), none]) (S' := [.int (nI w), .ref 64]) (σ' := lm_T M4 (vvJ J) G) rfl trivial ?_
            refine lm_G_ca (j := 166) (as := [.ref 64, .int (nI w)]) (rest := []) rfl (Or.inl rfl) (Nat.le_of_ble_eq_true rfl) (Nat.le_of_ble_eq_true rfl) (Nat.le_of_ble_eq_true rfl) (Nat.le_of_ble_eq_true rfl) rfl ?_
            refine (hsub d).1 M4 G _ (enS T u) (K ++ c) g4 hl h284 k4 (by omega) (fun r6 c6 er6 M6 g6 k6 f6 => ?_) (fun e6 a6 er6 M6 b6 z6 f6 => ?_)
            ·
              show lm_G X (d + (h + 3)) 167 106 0 0 86 [some (.ref 64), some (.int (nI w)), none] [] (lm_T M6 (vvJ J) G) Q
              obtain ⟨p1, p2, p3⟩ := hL _ _ _ hl er6
              rw [chn_i h9 er6] at eR
              have F6 := FrJ_tr F4 f6
              have h286 : M6 64 28 = b2i J := ((F6.2.1 28 (by decide) (by decide) (by decide) (by decide) (by decide) (by decide) (by decide)).trans h28)
              refine lm_G_sg 2 (pc' := 89) (L' := [some (.ref 64), some (.int (nI w)), none]) (S' := [.int (-27), .ref 64]) (σ' := lm_T M6 (vvJ J) G) rfl trivial ?_
              rw [show (-27 : Int32) = encM (2, opS T 0 u) from by rw [op_w0 h9]; decide]
              refine lm_G_ca (j := 161) (as := [.ref 64, .int (encM (2, opS T 0 u))]) (rest := []) rfl (Or.inl rfl) (Nat.le_of_ble_eq_true rfl) (Nat.le_of_ble_eq_true rfl) (Nat.le_of_ble_eq_true rfl) (Nat.le_of_ble_eq_true rfl) rfl ?_
              refine m_lay (x := (2, opS T 0 u)) g6 h286 k6 (by simp only [List.length_append] at kl3 ⊢; omega) (fun M7 g7 k7 f7 => ?_)
              show lm_G X (d + (h + 3)) 167 106 0 0 92 [some (.ref 64), some (.int (nI w)), none] [] (lm_T M7 (vvJ J) G) Q
              rw [List.append_assoc, List.append_assoc, ← List.append_assoc c] at k7
              refine lm_G_sg 1 (pc' := 67) (L' := [some (.ref 64), some (.int (nI w)), none]) (S' := []) (σ' := lm_T M7 (vvJ J) G) rfl trivial ?_
              exact ih _ _ _ (⟨g7, p2, k7, by simp only [List.length_append, List.length_cons, List.length_nil] at kl3 ⊢; omega, by omega, FrJ_tr F6 f7, eR⟩)
            ·
              show lm_G X (d + (h + 3)) 167 106 0 0 86 [some (.ref 64), some (.int (nI w)), none] [] (lm_T M6 (vvJ J) G) Q
              refine lm_G_sg 2 (pc' := 89) (L' := [some (.ref 64), some (.int (nI w)), none]) (S' := [.int (-27), .ref 64]) (σ' := lm_T M6 (vvJ J) G) rfl trivial ?_
              refine lm_G_ca (j := 161) (as := [.ref 64, .int (-27)]) (rest := []) rfl (Or.inl rfl) (Nat.le_of_ble_eq_true rfl) (Nat.le_of_ble_eq_true rfl) (Nat.le_of_ble_eq_true rfl) (Nat.le_of_ble_eq_true rfl) rfl ?_
              refine m_layB z6 ?_
              show lm_G X (d + (h + 3)) 167 106 0 0 92 [some (.ref 64), some (.int (nI w)), none] [] (lm_T M6 (vvJ J) G) Q
              refine lm_G_sg 1 (pc' := 67) (L' := [some (.ref 64), some (.int (nI w)), none]) (S' := []) (σ' := lm_T M6 (vvJ J) G) rfl trivial ?_
              exact kB _ _ _ z6 b6 (FrP_tr (FrP_J F4) f6) (by rw [← eR]; exact chn_r h9 er6)
          refine lm_G_sg 2 (pc' := 71) (L' := [some (.ref 64), some (.int (nI w)), none]) (S' := [.ref 1014, .ref 64]) (σ' := lm_T M3 (vvJ J) G) rfl trivial ?_
          refine lm_G_ca (j := 155) (as := [.ref 64, .ref 1014]) (rest := []) rfl (Or.inl rfl) (Nat.le_of_ble_eq_true rfl) (Nat.le_of_ble_eq_true rfl) (Nat.le_of_ble_eq_true rfl) (Nat.le_of_ble_eq_true rfl) rfl ?_
          refine m_is14 hT l3 g3 ?_
          show lm_G X (d + (h + 3)) 167 106 0 0 74 [some (.ref 64), some (.int (nI w)), none] [.int (b2i (isWd T u w14))] (lm_T M3 (vvJ J) G) Q
          refine lm_G_br (b := (b2i (isWd T u w14)) = 0) (t := 95) (S' := []) rfl (fun s1 => ?_) (fun s1 => ?_)
          ·
            exact lm_G_re rfl trivial (Nat.zero_le _) (Nat.zero_le _) (hok _ _ (by rw [← eR]; exact chn_9 (by simp [opS, b2i_0 s1])) _ g3 k3 F3)
          ·
            exact k40 (by simp [opS, b2i_1 s1])
        ·
          obtain ⟨M3, u, c⟩ := zz
          replace hI : GM M3 T u ∧ u ≤ tN T ∧ MCode M3 J (K ++ c) ∧ (K ++ c).length ≤ u ∧ 2 * 700 ≤ u ∧ FrJ J M M3 ∧ chn T 0 sub (700 - 700) u c = lvl T 0 sub p := hI
          show lm_G X (d + (h + 3)) 167 106 0 0 67 [some (.ref 64), some (.int (nI w)), none] [] (lm_T M3 (vvJ J) G) Q
          obtain ⟨g3, l3, k3, kl3, j3, F3, eR⟩ := hI
          exfalso
          omega
        ·
          try dsimp only
          exact ⟨g2, o2, k2, by simp only [List.length_append]; omega, by omega, f2, by rw [lvl_i er2]; rfl⟩
      ·
        show lm_G X (d + (h + 3)) 167 106 0 0 67 [some (.ref 64), some (.int (nI w)), some (.int (b2i (canB T p)))] [] (lm_T M2 (vvJ J) G) Q
        refine lm_G_jk (L := [some (.ref 64), some (.int (nI w)), none]) ⟨rfl, rfl, trivial⟩ ?_
        exact kB _ _ _ z2 b2 f2 (lvl_r er2)
  refine lm_G_sg 2 (pc' := 4) (L' := [some (.ref 64), some (.int (nI w)), none]) (S' := [.int (M 64 25)]) (σ' := lm_T M (vvJ J) G) rfl trivial ?_
  rw [show M 64 25 = 0 from hg.2]
  refine lm_G_br (b := 0 = 0) (t := 8) (S' := []) rfl (fun hc => ?_) (fun hc => absurd rfl hc)
  refine lm_G_sg 2 (pc' := 12) (L' := [some (.ref 64), some (.int (nI w)), none]) (S' := [.int (M 64 21)]) (σ' := lm_T M (vvJ J) G) rfl trivial ?_
  rw [show M 64 21 = nI (tkS T p) from hg.1.2.1]
  refine lm_G_sg 1 (pc' := 13) (L' := [some (.ref 64), some (.int (nI w)), none]) (S' := [.int 2, .int (nI (tkS T p))]) (σ' := lm_T M (vvJ J) G) rfl trivial ?_
  refine lm_G_br (b := (nI (tkS T p)) = 2) (t := 33) (S' := []) rfl (fun t2 => ?_) (fun t2 => ?_)
  ·
    have k_ := k39 trivial
    rw [show canB T p = true from by unfold canB; rw [decide_eq_true (tk_2.mp ((nI_eq (b := 2) (by omega) (by omega)).mp t2))]; rfl] at k_
    refine lm_G_sg 3 (pc' := 39) (L' := [some (.ref 64), some (.int (nI w)), some (.int 1)]) (S' := []) (σ' := lm_T M (vvJ J) G) rfl trivial ?_
    exact k_ 
  ·
    have n2 : ¬ knS T p = 2 := fun q => t2 (by rw [tk_2.mpr q]; rfl)
    refine lm_G_sg 2 (pc' := 20) (L' := [some (.ref 64), some (.int (nI w)), none]) (S' := [.int (M 64 21)]) (σ' := lm_T M (vvJ J) G) rfl trivial ?_
    rw [show M 64 21 = nI (tkS T p) from hg.1.2.1]
    refine lm_G_sg 1 (pc' := 21) (L' := [some (.ref 64), some (.int (nI w)), none]) (S' := [.int 1, .int (nI (tkS T p))]) (σ' := lm_T M (vvJ J) G) rfl trivial ?_
    refine lm_G_br (b := (nI (tkS T p)) = 1) (t := 33) (S' := []) rfl (fun t1 => ?_) (fun t1 => ?_)
    ·
      have k_ := k39 trivial
      rw [show canB T p = true from by unfold canB; rw [decide_eq_true (tk_1.mp ((nI_eq (b := 1) (by omega) (by omega)).mp t1)), Bool.true_or, Bool.or_true]] at k_
      refine lm_G_sg 3 (pc' := 39) (L' := [some (.ref 64), some (.int (nI w)), some (.int 1)]) (S' := []) (σ' := lm_T M (vvJ J) G) rfl trivial ?_
      exact k_ 
    ·
      have n1 : ¬ knS T p = 1 := fun q => t1 (by rw [tk_1.mpr q]; rfl)
      have ec : canB T p = isSg T p 40 := by unfold canB; rw [decide_eq_false n2, decide_eq_false n1]; rfl
      refine lm_G_sg 2 (pc' := 27) (L' := [some (.ref 64), some (.int (nI w)), none]) (S' := [.int 40, .ref 64]) (σ' := lm_T M (vvJ J) G) rfl trivial ?_
      refine lm_G_ca (j := 157) (as := [.ref 64, .int 40]) (rest := []) rfl (Or.inl rfl) (Nat.le_of_ble_eq_true rfl) (Nat.le_of_ble_eq_true rfl) (Nat.le_of_ble_eq_true rfl) (Nat.le_of_ble_eq_true rfl) rfl ?_
      refine m_isMarked (c := 40) hT hp hg (by decide) (by omega) ?_
      show lm_G X (d + (h + 3)) 167 106 0 0 30 [some (.ref 64), some (.int (nI w)), none] [.int (b2i (isSg T p 40))] (lm_T M (vvJ J) G) Q
      refine lm_G_br (b := (b2i (isSg T p 40)) = 0) (t := 37) (S' := []) rfl (fun t0 => ?_) (fun t0 => ?_)
      ·
        have k_ := k39 trivial
        rw [show canB T p = false from ec.trans (b2i_0 t0)] at k_
        refine lm_G_sg 2 (pc' := 39) (L' := [some (.ref 64), some (.int (nI w)), some (.int 0)]) (S' := []) (σ' := lm_T M (vvJ J) G) rfl trivial ?_
        exact k_ 
      ·
        have k_ := k39 trivial
        rw [show canB T p = true from ec.trans (b2i_1 t0)] at k_
        refine lm_G_sg 3 (pc' := 39) (L' := [some (.ref 64), some (.int (nI w)), some (.int 1)]) (S' := []) (σ' := lm_T M (vvJ J) G) rfl trivial ?_
        exact k_ 
set_option maxRecDepth 10000 in
theorem m_readExpr6 {X : lm_X} {T : Tx} {J : Bool} (hT : okT T) : ∀ d, MQe X T J (d + 5) 167 [.ref 64, .int (nI 6)] (mE T J 6) := by
  refine fun d => ⟨?_, m_exB⟩
  intro M G Q p K hg hp h28 hk hkl hok her
  show lm_G X (d + 5) 167 106 0 0 0 [some (.ref 64), some (.int (nI 6)), none] [] (lm_T M (vvJ J) G) Q
  have hn := hT.1
  have kl := tk_le (T := T) (p := p)
  have k39 : ∀ (un : True), lm_G X (d + 5) 167 106 0 0 39 [some (.ref 64), some (.int (nI 6)), some (.int (b2i (canB T p)))] [] (lm_T M (vvJ J) G) Q := by
    intro un
    refine lm_G_sg 1 (pc' := 40) (L' := [some (.ref 64), some (.int (nI 6)), some (.int (b2i (canB T p)))]) (S' := [.int (b2i (canB T p))]) (σ' := lm_T M (vvJ J) G) rfl trivial ?_
    refine lm_G_br (b := ¬ (b2i (canB T p)) = 0) (t := 51) (S' := []) rfl (fun gc => ?_) (fun gc => ?_)
    rotate_left
    ·
      have nb := b2i_0 (Classical.not_not.mp gc)
      refine lm_G_sg 2 (pc' := 45) (L' := [some (.ref 64), some (.int (nI 6)), some (.int (b2i (canB T p)))]) (S' := [.int 1, .ref 64]) (σ' := lm_T M (vvJ J) G) rfl trivial ?_
      refine lm_G_ca (j := 154) (as := [.ref 64, .int 1]) (rest := []) rfl (Or.inl rfl) (Nat.le_of_ble_eq_true rfl) (Nat.le_of_ble_eq_true rfl) (Nat.le_of_ble_eq_true rfl) (Nat.le_of_ble_eq_true rfl) rfl ?_
      refine m_wrong hg.2 ?_
      show lm_G X (d + 5) 167 106 0 0 48 [some (.ref 64), some (.int (nI 6)), some (.int (b2i (canB T p)))] [] (lm_T (lm_wr (lm_wr M 64 25 1) 64 26 (M 64 23)) (vvJ J) G) Q
      have z1 : ¬ (lm_wr (lm_wr M 64 25 1) 64 26 (M 64 23)) 64 25 = 0 := wr_nz (by decide)
      refine lm_G_sg 3 (pc' := 64) (L' := [some (.ref 64), some (.int (nI 6)), some (.int (b2i (canB T p)))]) (S' := [.int (nI 6), .ref 64]) (σ' := lm_T (lm_wr (lm_wr M 64 25 1) 64 26 (M 64 23)) (vvJ J) G) rfl trivial ?_
      refine lm_G_ca (j := 166) (as := [.ref 64, .int (nI 6)]) (rest := []) rfl (Or.inl rfl) (Nat.le_of_ble_eq_true rfl) (Nat.le_of_ble_eq_true rfl) (Nat.le_of_ble_eq_true rfl) (Nat.le_of_ble_eq_true rfl) rfl ?_
      refine (m_anB (m_ntB (m_suB (m_prB m_ptB)))) _ _ _ _ z1 ?_
      show lm_G X (d + 5) 167 106 0 0 67 [some (.ref 64), some (.int (nI 6)), some (.int (b2i (canB T p)))] [] (lm_T (lm_wr (lm_wr M 64 25 1) 64 26 (M 64 23)) (vvJ J) G) Q
      refine lm_G_sg 2 (pc' := 71) (L' := [some (.ref 64), some (.int (nI 6)), some (.int (b2i (canB T p)))]) (S' := [.ref 1014, .ref 64]) (σ' := lm_T (lm_wr (lm_wr M 64 25 1) 64 26 (M 64 23)) (vvJ J) G) rfl trivial ?_
      refine lm_G_ca (j := 155) (as := [.ref 64, .ref 1014]) (rest := []) rfl (Or.inl rfl) (Nat.le_of_ble_eq_true rfl) (Nat.le_of_ble_eq_true rfl) (Nat.le_of_ble_eq_true rfl) (Nat.le_of_ble_eq_true rfl) rfl ?_
      refine m_isB14 z1 ?_
      show lm_G X (d + 5) 167 106 0 0 74 [some (.ref 64), some (.int (nI 6)), some (.int (b2i (canB T p)))] [.int 0] (lm_T (lm_wr (lm_wr M 64 25 1) 64 26 (M 64 23)) (vvJ J) G) Q
      refine lm_G_br (b := 0 = 0) (t := 95) (S' := []) rfl (fun hc => ?_) (fun hc => absurd rfl hc)
      exact lm_G_re rfl trivial (Nat.zero_le _) (Nat.zero_le _) (her _ _ (by rw [mE_6, nb]; rfl) _ ⟨rfl, hg.1.2.2.1⟩ z1 (FrP_w64 (FrP_w64 (FrP_rf _) (by decide)) (by decide)))
    ·
      have nb := b2i_1 gc
      refine lm_G_sg 2 (pc' := 54) (L' := [some (.ref 64), some (.int (nI 6)), some (.int (b2i (canB T p)))]) (S' := [.int 6, .int (nI 6)]) (σ' := lm_T M (vvJ J) G) rfl trivial ?_
      refine lm_G_br (b := ¬ (nI 6) = 6) (t := 62) (S' := []) rfl (fun hc => absurd rfl hc) (fun hc => ?_)
      refine lm_G_sg 2 (pc' := 59) (L' := [some (.ref 64), some (.int (nI 6)), some (.int (b2i (canB T p)))]) (S' := [.int 2, .ref 64]) (σ' := lm_T M (vvJ J) G) rfl trivial ?_
      refine lm_G_ca (j := 154) (as := [.ref 64, .int 2]) (rest := []) rfl (Or.inl rfl) (Nat.le_of_ble_eq_true rfl) (Nat.le_of_ble_eq_true rfl) (Nat.le_of_ble_eq_true rfl) (Nat.le_of_ble_eq_true rfl) rfl ?_
      refine m_wrong hg.2 ?_
      show lm_G X (d + 5) 167 106 0 0 62 [some (.ref 64), some (.int (nI 6)), some (.int (b2i (canB T p)))] [] (lm_T (lm_wr (lm_wr M 64 25 2) 64 26 (M 64 23)) (vvJ J) G) Q
      have z1 : ¬ (lm_wr (lm_wr M 64 25 2) 64 26 (M 64 23)) 64 25 = 0 := wr_nz (by decide)
      refine lm_G_sg 2 (pc' := 64) (L' := [some (.ref 64), some (.int (nI 6)), some (.int (b2i (canB T p)))]) (S' := [.int (nI 6), .ref 64]) (σ' := lm_T (lm_wr (lm_wr M 64 25 2) 64 26 (M 64 23)) (vvJ J) G) rfl trivial ?_
      refine lm_G_ca (j := 166) (as := [.ref 64, .int (nI 6)]) (rest := []) rfl (Or.inl rfl) (Nat.le_of_ble_eq_true rfl) (Nat.le_of_ble_eq_true rfl) (Nat.le_of_ble_eq_true rfl) (Nat.le_of_ble_eq_true rfl) rfl ?_
      refine (m_anB (m_ntB (m_suB (m_prB m_ptB)))) _ _ _ _ z1 ?_
      show lm_G X (d + 5) 167 106 0 0 67 [some (.ref 64), some (.int (nI 6)), some (.int (b2i (canB T p)))] [] (lm_T (lm_wr (lm_wr M 64 25 2) 64 26 (M 64 23)) (vvJ J) G) Q
      refine lm_G_sg 2 (pc' := 71) (L' := [some (.ref 64), some (.int (nI 6)), some (.int (b2i (canB T p)))]) (S' := [.ref 1014, .ref 64]) (σ' := lm_T (lm_wr (lm_wr M 64 25 2) 64 26 (M 64 23)) (vvJ J) G) rfl trivial ?_
      refine lm_G_ca (j := 155) (as := [.ref 64, .ref 1014]) (rest := []) rfl (Or.inl rfl) (Nat.le_of_ble_eq_true rfl) (Nat.le_of_ble_eq_true rfl) (Nat.le_of_ble_eq_true rfl) (Nat.le_of_ble_eq_true rfl) rfl ?_
      refine m_isB14 z1 ?_
      show lm_G X (d + 5) 167 106 0 0 74 [some (.ref 64), some (.int (nI 6)), some (.int (b2i (canB T p)))] [.int 0] (lm_T (lm_wr (lm_wr M 64 25 2) 64 26 (M 64 23)) (vvJ J) G) Q
      refine lm_G_br (b := 0 = 0) (t := 95) (S' := []) rfl (fun hc => ?_) (fun hc => absurd rfl hc)
      exact lm_G_re rfl trivial (Nat.zero_le _) (Nat.zero_le _) (her _ _ (by rw [mE_6, nb]; rfl) _ ⟨rfl, hg.1.2.2.1⟩ z1 (FrP_w64 (FrP_w64 (FrP_rf _) (by decide)) (by decide)))
  refine lm_G_sg 2 (pc' := 4) (L' := [some (.ref 64), some (.int (nI 6)), none]) (S' := [.int (M 64 25)]) (σ' := lm_T M (vvJ J) G) rfl trivial ?_
  rw [show M 64 25 = 0 from hg.2]
  refine lm_G_br (b := 0 = 0) (t := 8) (S' := []) rfl (fun hc => ?_) (fun hc => absurd rfl hc)
  refine lm_G_sg 2 (pc' := 12) (L' := [some (.ref 64), some (.int (nI 6)), none]) (S' := [.int (M 64 21)]) (σ' := lm_T M (vvJ J) G) rfl trivial ?_
  rw [show M 64 21 = nI (tkS T p) from hg.1.2.1]
  refine lm_G_sg 1 (pc' := 13) (L' := [some (.ref 64), some (.int (nI 6)), none]) (S' := [.int 2, .int (nI (tkS T p))]) (σ' := lm_T M (vvJ J) G) rfl trivial ?_
  refine lm_G_br (b := (nI (tkS T p)) = 2) (t := 33) (S' := []) rfl (fun t2 => ?_) (fun t2 => ?_)
  ·
    have k_ := k39 trivial
    rw [show canB T p = true from by unfold canB; rw [decide_eq_true (tk_2.mp ((nI_eq (b := 2) (by omega) (by omega)).mp t2))]; rfl] at k_
    refine lm_G_sg 3 (pc' := 39) (L' := [some (.ref 64), some (.int (nI 6)), some (.int 1)]) (S' := []) (σ' := lm_T M (vvJ J) G) rfl trivial ?_
    exact k_ 
  ·
    have n2 : ¬ knS T p = 2 := fun q => t2 (by rw [tk_2.mpr q]; rfl)
    refine lm_G_sg 2 (pc' := 20) (L' := [some (.ref 64), some (.int (nI 6)), none]) (S' := [.int (M 64 21)]) (σ' := lm_T M (vvJ J) G) rfl trivial ?_
    rw [show M 64 21 = nI (tkS T p) from hg.1.2.1]
    refine lm_G_sg 1 (pc' := 21) (L' := [some (.ref 64), some (.int (nI 6)), none]) (S' := [.int 1, .int (nI (tkS T p))]) (σ' := lm_T M (vvJ J) G) rfl trivial ?_
    refine lm_G_br (b := (nI (tkS T p)) = 1) (t := 33) (S' := []) rfl (fun t1 => ?_) (fun t1 => ?_)
    ·
      have k_ := k39 trivial
      rw [show canB T p = true from by unfold canB; rw [decide_eq_true (tk_1.mp ((nI_eq (b := 1) (by omega) (by omega)).mp t1)), Bool.true_or, Bool.or_true]] at k_
      refine lm_G_sg 3 (pc' := 39) (L' := [some (.ref 64), some (.int (nI 6)), some (.int 1)]) (S' := []) (σ' := lm_T M (vvJ J) G) rfl trivial ?_
      exact k_ 
    ·
      have n1 : ¬ knS T p = 1 := fun q => t1 (by rw [tk_1.mpr q]; rfl)
      have ec : canB T p = isSg T p 40 := by unfold canB; rw [decide_eq_false n2, decide_eq_false n1]; rfl
      refine lm_G_sg 2 (pc' := 27) (L' := [some (.ref 64), some (.int (nI 6)), none]) (S' := [.int 40, .ref 64]) (σ' := lm_T M (vvJ J) G) rfl trivial ?_
      refine lm_G_ca (j := 157) (as := [.ref 64, .int 40]) (rest := []) rfl (Or.inl rfl) (Nat.le_of_ble_eq_true rfl) (Nat.le_of_ble_eq_true rfl) (Nat.le_of_ble_eq_true rfl) (Nat.le_of_ble_eq_true rfl) rfl ?_
      refine m_isMarked (c := 40) hT hp hg (by decide) (by omega) ?_
      show lm_G X (d + 5) 167 106 0 0 30 [some (.ref 64), some (.int (nI 6)), none] [.int (b2i (isSg T p 40))] (lm_T M (vvJ J) G) Q
      refine lm_G_br (b := (b2i (isSg T p 40)) = 0) (t := 37) (S' := []) rfl (fun t0 => ?_) (fun t0 => ?_)
      ·
        have k_ := k39 trivial
        rw [show canB T p = false from ec.trans (b2i_0 t0)] at k_
        refine lm_G_sg 2 (pc' := 39) (L' := [some (.ref 64), some (.int (nI 6)), some (.int 0)]) (S' := []) (σ' := lm_T M (vvJ J) G) rfl trivial ?_
        exact k_ 
      ·
        have k_ := k39 trivial
        rw [show canB T p = true from ec.trans (b2i_1 t0)] at k_
        refine lm_G_sg 3 (pc' := 39) (L' := [some (.ref 64), some (.int (nI 6)), some (.int 1)]) (S' := []) (σ' := lm_T M (vvJ J) G) rfl trivial ?_
        exact k_ 
theorem m_expr {X : lm_X} {T : Tx} {J : Bool} (hT : okT T) : ∀ f, f ≤ 6 → ∀ d, MQe X T J (d + (5 + 6 * f)) 167 [.ref 64, .int (nI (6 - f))] (mE T J (6 - f))
  | 0, _ => m_readExpr6 hT
  | f + 1, hf => by
    have ih := m_expr (X := X) (J := J) hT f (by omega)
    rw [show 6 - f = 6 - (f + 1) + 1 by omega] at ih
    obtain ⟨w, ew⟩ : ∃ w, w = 6 - (f + 1) := ⟨_, rfl⟩
    rw [← ew] at ih ⊢
    have hw : w ≤ 5 := by omega
    have e := mE_s (T := T) (J := J) hw
    have l0 : okL T (ptS T J false (mE T J (w + 1))) := okL_pt (fun _ => okL_mE)
    have l4 := okL_lvl (lv := 4) l0
    have l3 := okL_lvl (lv := 3) l4
    have l2 := okL_tst l3
    have l1 := okL_lvl (lv := 1) l2
    have a5 := m_readPart (h := 3 + 6 * f) hT hw okL_mE (fun d => by have := ih d; rw [show 5 + 6 * f = 3 + 6 * f + 2 by omega] at this; exact this)
    have a4 := m_readProduct (h := 4 + 6 * f) hT l0 (fun d => by have := a5 d; rw [show 3 + 6 * f + 3 = 4 + 6 * f + 2 by omega] at this; exact this)
    have a3 := m_readSum (h := 5 + 6 * f) hT l4 (fun d => by have := a4 d; rw [show 4 + 6 * f + 3 = 5 + 6 * f + 2 by omega] at this; exact this)
    have a2 := m_readNot (h := 6 + 6 * f) hT l3 (fun d => by have := a3 d; rw [show 5 + 6 * f + 3 = 6 + 6 * f + 2 by omega] at this; exact this)
    have a1 := m_readAnd (h := 7 + 6 * f) hT l2 (fun d => by have := a2 d; rw [show 6 + 6 * f + 3 = 7 + 6 * f + 2 by omega] at this; exact this)
    have a0 := m_readExpr (h := 8 + 6 * f) hT l1 hw (fun p nb => by
      have := mE_nb (J := J) (w := w) nb
      rw [e] at this
      exact this) (fun d => by have := a1 d; rw [show 7 + 6 * f + 3 = 8 + 6 * f + 2 by omega] at this; exact this)
    intro d
    have := a0 d
    rw [show 8 + 6 * f + 3 = 5 + 6 * (f + 1) by omega] at this
    rw [e]
    exact this
