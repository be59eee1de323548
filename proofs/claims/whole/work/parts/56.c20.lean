/-! ===== contracts: a game, the model ===== -/
set_option maxRecDepth 10000 in
theorem m_tellGains {X : lm_X} {d v : Nat} {M : Nat → Nat → Int32} {G : Nat → Nat → Int64} {Q : lm_O → lm_S → Prop} {F : Fa} {s : Sc} {M0 : Nat → Fn} {p o : Nat} (hF : okF F) (h : RM M F s) (hs : okS F s) (f0 : FrN M0 M) (c0 : M 64 4 = 0) (l0 : M 64 42 = 0) (hp : p < fN F) (ho : o < fN F) (hpo : p ≠ o) (hQ : ∀ M1, TM M0 F s M1 s → gnM F s p o (M1 98) 4 → Q (.inl none) (lm_T M1 v G)) : lm_Q X (d + 6) 236 [.ref 64, .int (nI p), .int (nI o)] (lm_T M v G) Q := by
  have hn := hF.n
  have hm := hF.m
  show lm_G X (d + 6) 236 106 0 0 0 [some (.ref 64), some (.int (nI p)), some (.int (nI o)), none, none, none, none, none] [] (lm_T M v G) Q
  refine lm_G_sg 4 (pc' := 6) (L' := [some (.ref 64), some (.int (nI p)), some (.int (nI o)), none, none, none, none, none]) (S' := [.int 0, .ref 90, .ref 64]) (σ' := lm_T M v G) rfl trivial ?_
  refine lm_G_ca (j := 177) (as := [.ref 64, .ref 90, .int 0]) (rest := []) rfl (Or.inl rfl) (Nat.le_of_ble_eq_true rfl) (Nat.le_of_ble_eq_true rfl) (Nat.le_of_ble_eq_true rfl) (Nat.le_of_ble_eq_true rfl) rfl ?_
  refine t_pack hF h f0 c0 l0 (fun M1 t1 => ?_)
  show lm_G X (d + 6) 236 106 0 0 9 [some (.ref 64), some (.int (nI p)), some (.int (nI o)), none, none, none, none, none] [] (lm_T M1 v G) Q
  refine lm_G_sg 2 (pc' := 11) (L' := [some (.ref 64), some (.int (nI p)), some (.int (nI o)), some (.int 0), none, none, none, none]) (S' := []) (σ' := lm_T M1 v G) rfl trivial ?_
  refine lm_ind (α := (Nat → Fn)) (St := fun (j : Nat) zz => (fun (M2 : Nat → Fn) => lm_G X (d + 6) 236 106 0 0 11 [some (.ref 64), some (.int (nI p)), some (.int (nI o)), some (.int (nI j)), none, none, none, none] [] (lm_T M2 v G) Q) zz) (Inv := fun (j : Nat) zz => (fun (M2 : Nat → Fn) => TM M0 F s M2 s ∧ gnM F s p o (M2 98) j) zz) (4) (fun j zz hj hI ih => ?_) (fun zz hI => ?_) (0) M1 (by omega) ?_
  ·
    revert ih hI
    revert zz
    intro M2 hI ih
    replace hI : TM M0 F s M2 s ∧ gnM F s p o (M2 98) j := hI
    replace ih : ∀ (M2 : Nat → Fn) (_ : TM M0 F s M2 s ∧ gnM F s p o (M2 98) (j + 1)), lm_G X (d + 6) 236 106 0 0 11 [some (.ref 64), some (.int (nI p)), some (.int (nI o)), some (.int (nI (j + 1))), none, none, none, none] [] (lm_T M2 v G) Q := fun M2 q => ih M2 q
    show lm_G X (d + 6) 236 106 0 0 11 [some (.ref 64), some (.int (nI p)), some (.int (nI o)), some (.int (nI j)), none, none, none, none] [] (lm_T M2 v G) Q
    obtain ⟨t2, g2⟩ := hI
    obtain ⟨S0, es0⟩ : ∃ S0, S0 = hqS F (gmW p o j) s (fN F) := ⟨_, rfl⟩
    have k90 : ∀ (M3 : Nat → Fn) (t3 : TM M0 F s M3 S0) (r3 : M3 98 = M2 98), lm_G X (d + 6) 236 106 0 0 90 [some (.ref 64), some (.int (nI p)), some (.int (nI o)), some (.int (nI j)), none, none, none, none] [] (lm_T M3 v G) Q := by
      intro M3 t3 r3
      refine lm_G_sg 2 (pc' := 93) (L' := [some (.ref 64), some (.int (nI p)), some (.int (nI o)), some (.int (nI j)), none, none, none, none]) (S' := [.int 8, .ref 64]) (σ' := lm_T M3 v G) rfl trivial ?_
      have hs0 : okS F S0 := by rw [es0]; exact hq_ok hs _
      have hb0 : sBr S0 = sBr s := by rw [es0]; exact hq_br _
      refine lm_G_ca (j := 194) (as := [.ref 64, .int 8]) (rest := []) rfl (Or.inl rfl) (Nat.le_of_ble_eq_true rfl) (Nat.le_of_ble_eq_true rfl) (Nat.le_of_ble_eq_true rfl) (Nat.le_of_ble_eq_true rfl) rfl ?_
      refine m_goOn (n := 8) (lf := nl) hF t3.1 hs0 (fun _ hq => nl_M hF.n hq t3.2.2.2.2) (by omega) (fun M4 h4 k4 e4 => ?_)
      show lm_G X (d + 6) 236 106 0 0 96 [some (.ref 64), some (.int (nI p)), some (.int (nI o)), some (.int (nI j)), none, none, none, none] [] (lm_T M4 v G) Q
      have t4 := TM_M t3 k4 h4
      rw [es0] at t4
      refine lm_G_sg 2 (pc' := 98) (L' := [some (.ref 64), some (.int (nI p)), some (.int (nI o)), some (.int (nI j)), none, none, none, none]) (S' := [.int (nI p), .ref 64]) (σ' := lm_T M4 v G) rfl trivial ?_
      refine lm_G_ca (j := 183) (as := [.ref 64, .int (nI p)]) (rest := []) rfl (Or.inl rfl) (Nat.le_of_ble_eq_true rfl) (Nat.le_of_ble_eq_true rfl) (Nat.le_of_ble_eq_true rfl) (Nat.le_of_ble_eq_true rfl) rfl ?_
      refine m_ownedBy (s := gmS F s p o j) hF t4.1 ?_
      show lm_G X (d + 6) 236 106 0 0 101 [some (.ref 64), some (.int (nI p)), some (.int (nI o)), some (.int (nI j)), none, none, none, none] [.int (ownS F (sOw (gmS F s p o j)) (nI p))] (lm_T M4 v G) Q
      refine lm_G_ca (j := 144) (as := [.int (ownS F (sOw (gmS F s p o j)) (nI p))]) (rest := []) rfl (Or.inl rfl) (Nat.le_of_ble_eq_true rfl) (Nat.le_of_ble_eq_true rfl) (Nat.le_of_ble_eq_true rfl) (Nat.le_of_ble_eq_true rfl) rfl ?_
      refine m_bits (own_lt hF _ _) ?_
      show lm_G X (d + 6) 236 106 0 0 104 [some (.ref 64), some (.int (nI p)), some (.int (nI o)), some (.int (nI j)), none, none, none, none] [.int (gmX F s p o j p)] (lm_T M4 v G) Q
      refine lm_G_sg 3 (pc' := 108) (L' := [some (.ref 64), some (.int (nI p)), some (.int (nI o)), some (.int (nI j)), none, none, some (.int (gmX F s p o j p)), none]) (S' := [.int (nI o), .ref 64]) (σ' := lm_T M4 v G) rfl trivial ?_
      refine lm_G_ca (j := 183) (as := [.ref 64, .int (nI o)]) (rest := []) rfl (Or.inl rfl) (Nat.le_of_ble_eq_true rfl) (Nat.le_of_ble_eq_true rfl) (Nat.le_of_ble_eq_true rfl) (Nat.le_of_ble_eq_true rfl) rfl ?_
      refine m_ownedBy (s := gmS F s p o j) hF t4.1 ?_
      show lm_G X (d + 6) 236 106 0 0 111 [some (.ref 64), some (.int (nI p)), some (.int (nI o)), some (.int (nI j)), none, none, some (.int (gmX F s p o j p)), none] [.int (ownS F (sOw (gmS F s p o j)) (nI o))] (lm_T M4 v G) Q
      refine lm_G_ca (j := 144) (as := [.int (ownS F (sOw (gmS F s p o j)) (nI o))]) (rest := []) rfl (Or.inl rfl) (Nat.le_of_ble_eq_true rfl) (Nat.le_of_ble_eq_true rfl) (Nat.le_of_ble_eq_true rfl) (Nat.le_of_ble_eq_true rfl) rfl ?_
      refine m_bits (own_lt hF _ _) ?_
      show lm_G X (d + 6) 236 106 0 0 114 [some (.ref 64), some (.int (nI p)), some (.int (nI o)), some (.int (nI j)), none, none, some (.int (gmX F s p o j p)), none] [.int (gmX F s p o j o)] (lm_T M4 v G) Q
      refine lm_G_sg 6 (pc' := 123) (L' := [some (.ref 64), some (.int (nI p)), some (.int (nI o)), some (.int (nI j)), none, none, some (.int (gmX F s p o j p)), some (.int (gmX F s p o j o))]) (S' := [.int (2 * (nI j)), .ref 98]) (σ' := lm_T M4 v G) rfl trivial ?_
      rw [show 2 * (nI j) = nI (2 * j) from pk_mul 2 j]
      refine lm_G_sg 6 (pc' := 131) (L' := [some (.ref 64), some (.int (nI p)), some (.int (nI o)), some (.int (nI j)), none, none, some (.int (gmX F s p o j p)), some (.int (gmX F s p o j o))]) (S' := []) (σ' := lm_T (lm_wr M4 98 ((nI (2 * j)).toNatClampNeg) ((4 * (gmX F s p o j p)) - (gmX F s p o j o))) v G) rfl ⟨(vp_in_nI (by omega) (by omega)), trivial, trivial⟩ ?_
      rw [show (nI (2 * j)).toNatClampNeg = (2 * j) from nI_clamp (by omega)]
      refine lm_G_sg 5 (pc' := 138) (L' := [some (.ref 64), some (.int (nI p)), some (.int (nI o)), some (.int (nI j)), none, none, some (.int (gmX F s p o j p)), some (.int (gmX F s p o j o))]) (S' := [.int (2 * (nI j)), .ref 98]) (σ' := lm_T (lm_wr M4 98 (2 * j) ((4 * (gmX F s p o j p)) - (gmX F s p o j o))) v G) rfl trivial ?_
      rw [show 2 * (nI j) = nI (2 * j) from pk_mul 2 j]
      refine lm_G_sg 2 (pc' := 140) (L' := [some (.ref 64), some (.int (nI p)), some (.int (nI o)), some (.int (nI j)), none, none, some (.int (gmX F s p o j p)), some (.int (gmX F s p o j o))]) (S' := [.int ((nI (2 * j)) + 1), .ref 98]) (σ' := lm_T (lm_wr M4 98 (2 * j) ((4 * (gmX F s p o j p)) - (gmX F s p o j o))) v G) rfl trivial ?_
      rw [show (nI (2 * j)) + 1 = nI ((2 * j) + 1) from nI_add (2 * j) 1]
      refine lm_G_sg 6 (pc' := 148) (L' := [some (.ref 64), some (.int (nI p)), some (.int (nI o)), some (.int (nI j)), none, none, some (.int (gmX F s p o j p)), some (.int (gmX F s p o j o))]) (S' := []) (σ' := lm_T (lm_wr (lm_wr M4 98 (2 * j) ((4 * (gmX F s p o j p)) - (gmX F s p o j o))) 98 ((nI ((2 * j) + 1)).toNatClampNeg) ((4 * (gmX F s p o j o)) - (gmX F s p o j p))) v G) rfl ⟨(vp_in_nI (by omega) (by omega)), trivial, trivial⟩ ?_
      rw [show (nI ((2 * j) + 1)).toNatClampNeg = ((2 * j) + 1) from nI_clamp (by omega)]
      have t5 := TM_wr (TM_wr t4 (a := 98) (j := 2 * j) (x := 4 * gmX F s p o j p - gmX F s p o j o) rfl (by decide) (by decide) (RM_wr t4.1 (by decide))) (a := 98) (j := 2 * j + 1) (x := 4 * gmX F s p o j o - gmX F s p o j p) rfl (by decide) (by decide) (RM_wr (RM_wr t4.1 (by decide)) (by decide))
      have t5b : TM M0 F s (lm_wr (lm_wr M4 98 (2 * j) ((4 * (gmX F s p o j p)) - (gmX F s p o j o))) 98 ((2 * j) + 1) ((4 * (gmX F s p o j o)) - (gmX F s p o j p))) (gmS F s p o j) := t5
      have e5 : (lm_wr (lm_wr M4 98 (2 * j) ((4 * (gmX F s p o j p)) - (gmX F s p o j o))) 98 ((2 * j) + 1) ((4 * (gmX F s p o j o)) - (gmX F s p o j p))) 98 (2 * j) = gn1 F s p o j := (wr_at (by omega)).trans wr_same
      have e6 : (lm_wr (lm_wr M4 98 (2 * j) ((4 * (gmX F s p o j p)) - (gmX F s p o j o))) 98 ((2 * j) + 1) ((4 * (gmX F s p o j o)) - (gmX F s p o j p))) 98 (2 * j + 1) = gn2 F s p o j := wr_same
      have e7 : ∀ i, i ≠ 2 * j → i ≠ 2 * j + 1 → (lm_wr (lm_wr M4 98 (2 * j) ((4 * (gmX F s p o j p)) - (gmX F s p o j o))) 98 ((2 * j) + 1) ((4 * (gmX F s p o j o)) - (gmX F s p o j p))) 98 i = M2 98 i := fun i h1 h2 => by rw [wr_at h2, wr_at h1, k4.1 98 rfl, r3]
      revert t5b e5 e6 e7
      generalize lm_wr (lm_wr M4 98 (2 * j) ((4 * (gmX F s p o j p)) - (gmX F s p o j o))) 98 ((2 * j) + 1) ((4 * (gmX F s p o j o)) - (gmX F s p o j p)) = M5
      intro t5b e5 e6 e7
      refine lm_G_sg 4 (pc' := 154) (L' := [some (.ref 64), some (.int (nI p)), some (.int (nI o)), some (.int (nI j)), none, none, some (.int (gmX F s p o j p)), some (.int (gmX F s p o j o))]) (S' := [.int 0, .ref 90, .ref 64]) (σ' := lm_T M5 v G) rfl trivial ?_
      refine lm_G_ca (j := 178) (as := [.ref 64, .ref 90, .int 0]) (rest := []) rfl (Or.inl rfl) (Nat.le_of_ble_eq_true rfl) (Nat.le_of_ble_eq_true rfl) (Nat.le_of_ble_eq_true rfl) (Nat.le_of_ble_eq_true rfl) rfl ?_
      refine m_unpack90 (s := s) (a := 0) hF t5b.1.1 (by rw [show sBr s = sBr (gmS F s p o j) from by unfold gmS; rw [br_hrs, ← es0, hb0]]; exact t5b.1.br) t5b.2.2.1 (by omega) (fun M6 h6 k6 => ?_)
      show lm_G X (d + 6) 236 106 0 0 157 [some (.ref 64), some (.int (nI p)), some (.int (nI o)), some (.int (nI j)), none, none, some (.int (gmX F s p o j p)), some (.int (gmX F s p o j o))] [] (lm_T M6 v G) Q
      refine lm_G_sg 1 (pc' := 160) (L' := [some (.ref 64), some (.int (nI p)), some (.int (nI o)), some (.int ((nI j) + 1)), none, none, some (.int (gmX F s p o j p)), some (.int (gmX F s p o j o))]) (S' := []) (σ' := lm_T M6 v G) rfl trivial ?_
      rw [nI_1]
      refine lm_G_sg 1 (pc' := 11) (L' := [some (.ref 64), some (.int (nI p)), some (.int (nI o)), some (.int (nI (j + 1))), none, none, some (.int (gmX F s p o j p)), some (.int (gmX F s p o j o))]) (S' := []) (σ' := lm_T M6 v G) rfl trivial ?_
      refine lm_G_jk (L := [some (.ref 64), some (.int (nI p)), some (.int (nI o)), some (.int (nI (j + 1))), none, none, none, none]) ⟨rfl, rfl, rfl, rfl, rfl, rfl, trivial⟩ ?_
      exact ih _ (⟨TM_U t5b k6 h6, fun i hi => by
              rw [k6.1 98 rfl]
              by_cases e : i = j
              · subst e; exact ⟨e5, e6⟩
              · exact ⟨(e7 _ (by omega) (by omega)).trans (g2 i (by omega)).1, (e7 _ (by omega) (by omega)).trans (g2 i (by omega)).2⟩⟩)
    refine lm_G_sg 2 (pc' := 13) (L' := [some (.ref 64), some (.int (nI p)), some (.int (nI o)), some (.int (nI j)), none, none, none, none]) (S' := [.int 4, .int (nI j)]) (σ' := lm_T M2 v G) rfl trivial ?_
    refine lm_G_br (b := 4 ≤ (nI j)) (t := 163) (S' := []) rfl (fun hc => absurd hc (nI_ge (b := 4) hj (by omega))) (fun hc => ?_)
    refine lm_G_sg 3 (pc' := 19) (L' := [some (.ref 64), some (.int (nI p)), some (.int (nI o)), some (.int (nI j)), none, none, none, none]) (S' := [.int ((nI j) / 2)]) (σ' := lm_T M2 v G) rfl ⟨(by decide), trivial, trivial⟩ ?_
    rw [show (nI j) / 2 = nI (j / 2) from nI_div (b := 2) (by omega) (by omega)]
    refine lm_G_sg 1 (pc' := 20) (L' := [some (.ref 64), some (.int (nI p)), some (.int (nI o)), some (.int (nI j)), none, none, none, none]) (S' := [.int 1, .int (nI (j / 2))]) (σ' := lm_T M2 v G) rfl trivial ?_
    have k44 : lm_G X (d + 6) 236 106 0 0 44 [some (.ref 64), some (.int (nI p)), some (.int (nI o)), some (.int (nI j)), some (.int (b2i (decide (j / 2 = 1)))), some (.int (b2i (decide (j % 2 = 1)))), none, none] [] (lm_T M2 v G) Q := by
      rcases Nat.lt_or_gt_of_ne hpo with ho1 | ho1
      ·
        refine lm_G_sg 2 (pc' := 46) (L' := [some (.ref 64), some (.int (nI p)), some (.int (nI o)), some (.int (nI j)), some (.int (b2i (decide (j / 2 = 1)))), some (.int (b2i (decide (j % 2 = 1)))), none, none]) (S' := [.int (nI o), .int (nI p)]) (σ' := lm_T M2 v G) rfl trivial ?_
        refine lm_G_br (b := (nI o) ≤ (nI p)) (t := 61) (S' := []) rfl (fun hc => absurd hc (nI_ge ho1 (by omega))) (fun hc => ?_)
        refine lm_G_sg 1 (pc' := 51) (L' := [some (.ref 64), some (.int (nI p)), some (.int (nI o)), some (.int (nI j)), some (.int (b2i (decide (j / 2 = 1)))), some (.int (b2i (decide (j % 2 = 1)))), none, none]) (S' := [.int (b2i (decide (j / 2 = 1)))]) (σ' := lm_T M2 v G) rfl trivial ?_
        refine lm_G_br (b := (b2i (decide (j / 2 = 1))) = 0) (t := 61) (S' := []) rfl (fun h1 => ?_) (fun h1 => ?_)
        ·
          have d1 : ¬ j / 2 = 1 := of_decide_eq_false (b2i_0 h1)
          refine lm_G_sg 1 (pc' := 63) (L' := [some (.ref 64), some (.int (nI p)), some (.int (nI o)), some (.int (nI j)), some (.int (b2i (decide (j / 2 = 1)))), some (.int (b2i (decide (j % 2 = 1)))), none, none]) (S' := [.int (b2i (decide (j % 2 = 1)))]) (σ' := lm_T M2 v G) rfl trivial ?_
          refine lm_G_br (b := (b2i (decide (j % 2 = 1))) = 0) (t := 73) (S' := []) rfl (fun h2 => ?_) (fun h2 => ?_)
          ·
            have d2 : ¬ j % 2 = 1 := of_decide_eq_false (b2i_0 h2)
            refine lm_G_sg 2 (pc' := 75) (L' := [some (.ref 64), some (.int (nI p)), some (.int (nI o)), some (.int (nI j)), some (.int (b2i (decide (j / 2 = 1)))), some (.int (b2i (decide (j % 2 = 1)))), none, none]) (S' := [.int (nI o), .int (nI p)]) (σ' := lm_T M2 v G) rfl trivial ?_
            refine lm_G_br (b := (nI p) ≤ (nI o)) (t := 90) (S' := []) rfl (fun h3 => ?_) (fun h3 => absurd (nI_le (by omega) (by omega)) h3)
            have ef : s = S0 := by
              rw [es0, gm_lt ho1 ho]
              unfold gm2 gm1
              rw [if_neg d2, if_neg d1]
            refine lm_G_jk (L := [some (.ref 64), some (.int (nI p)), some (.int (nI o)), some (.int (nI j)), none, none, none, none]) ⟨rfl, rfl, rfl, rfl, rfl, rfl, trivial⟩ ?_
            exact k90 _ (by rw [← ef]; exact t2) rfl
          ·
            have d2 : j % 2 = 1 := of_decide_eq_true (b2i_1 h2)
            refine lm_G_sg 4 (pc' := 70) (L' := [some (.ref 64), some (.int (nI p)), some (.int (nI o)), some (.int (nI j)), some (.int (b2i (decide (j / 2 = 1)))), some (.int (b2i (decide (j % 2 = 1)))), none, none]) (S' := [.int ((1 : Int32) <<< ((nI o) &&& 31)), .ref 64]) (σ' := lm_T M2 v G) rfl trivial ?_
            refine lm_G_ca (j := 191) (as := [.ref 64, .int ((1 : Int32) <<< ((nI o) &&& 31))]) (rest := []) rfl (Or.inl rfl) (Nat.le_of_ble_eq_true rfl) (Nat.le_of_ble_eq_true rfl) (Nat.le_of_ble_eq_true rfl) (Nat.le_of_ble_eq_true rfl) rfl ?_
            refine m_allStop hF t2.1 (fun Mb hMb eMb kMb => ?_)
            show lm_G X (d + 6) 236 106 0 0 73 [some (.ref 64), some (.int (nI p)), some (.int (nI o)), some (.int (nI j)), some (.int (b2i (decide (j / 2 = 1)))), some (.int (b2i (decide (j % 2 = 1)))), none, none] [] (lm_T Mb v G) Q
            have tMb := TM_M t2 kMb hMb
            refine lm_G_sg 2 (pc' := 75) (L' := [some (.ref 64), some (.int (nI p)), some (.int (nI o)), some (.int (nI j)), some (.int (b2i (decide (j / 2 = 1)))), some (.int (b2i (decide (j % 2 = 1)))), none, none]) (S' := [.int (nI o), .int (nI p)]) (σ' := lm_T Mb v G) rfl trivial ?_
            refine lm_G_br (b := (nI p) ≤ (nI o)) (t := 90) (S' := []) rfl (fun h3 => ?_) (fun h3 => absurd (nI_le (by omega) (by omega)) h3)
            have ef : husS F (s) o = S0 := by
              rw [es0, gm_lt ho1 ho]
              unfold gm2 gm1
              rw [if_pos d2, if_neg d1]
            refine lm_G_jk (L := [some (.ref 64), some (.int (nI p)), some (.int (nI o)), some (.int (nI j)), none, none, none, none]) ⟨rfl, rfl, rfl, rfl, rfl, rfl, trivial⟩ ?_
            exact k90 _ (by rw [← ef]; exact tMb) (kMb.1 98 rfl)
        ·
          have d1 : j / 2 = 1 := of_decide_eq_true (b2i_1 h1)
          refine lm_G_sg 4 (pc' := 58) (L' := [some (.ref 64), some (.int (nI p)), some (.int (nI o)), some (.int (nI j)), some (.int (b2i (decide (j / 2 = 1)))), some (.int (b2i (decide (j % 2 = 1)))), none, none]) (S' := [.int ((1 : Int32) <<< ((nI p) &&& 31)), .ref 64]) (σ' := lm_T M2 v G) rfl trivial ?_
          refine lm_G_ca (j := 191) (as := [.ref 64, .int ((1 : Int32) <<< ((nI p) &&& 31))]) (rest := []) rfl (Or.inl rfl) (Nat.le_of_ble_eq_true rfl) (Nat.le_of_ble_eq_true rfl) (Nat.le_of_ble_eq_true rfl) (Nat.le_of_ble_eq_true rfl) rfl ?_
          refine m_allStop hF t2.1 (fun Ma hMa eMa kMa => ?_)
          show lm_G X (d + 6) 236 106 0 0 61 [some (.ref 64), some (.int (nI p)), some (.int (nI o)), some (.int (nI j)), some (.int (b2i (decide (j / 2 = 1)))), some (.int (b2i (decide (j % 2 = 1)))), none, none] [] (lm_T Ma v G) Q
          have tMa := TM_M t2 kMa hMa
          refine lm_G_sg 1 (pc' := 63) (L' := [some (.ref 64), some (.int (nI p)), some (.int (nI o)), some (.int (nI j)), some (.int (b2i (decide (j / 2 = 1)))), some (.int (b2i (decide (j % 2 = 1)))), none, none]) (S' := [.int (b2i (decide (j % 2 = 1)))]) (σ' := lm_T Ma v G) rfl trivial ?_
          refine lm_G_br (b := (b2i (decide (j % 2 = 1))) = 0) (t := 73) (S' := []) rfl (fun h2 => ?_) (fun h2 => ?_)
          ·
            have d2 : ¬ j % 2 = 1 := of_decide_eq_false (b2i_0 h2)
            refine lm_G_sg 2 (pc' := 75) (L' := [some (.ref 64), some (.int (nI p)), some (.int (nI o)), some (.int (nI j)), some (.int (b2i (decide (j / 2 = 1)))), some (.int (b2i (decide (j % 2 = 1)))), none, none]) (S' := [.int (nI o), .int (nI p)]) (σ' := lm_T Ma v G) rfl trivial ?_
            refine lm_G_br (b := (nI p) ≤ (nI o)) (t := 90) (S' := []) rfl (fun h3 => ?_) (fun h3 => absurd (nI_le (by omega) (by omega)) h3)
            have ef : husS F s p = S0 := by
              rw [es0, gm_lt ho1 ho]
              unfold gm2 gm1
              rw [if_neg d2, if_pos d1]
            refine lm_G_jk (L := [some (.ref 64), some (.int (nI p)), some (.int (nI o)), some (.int (nI j)), none, none, none, none]) ⟨rfl, rfl, rfl, rfl, rfl, rfl, trivial⟩ ?_
            exact k90 _ (by rw [← ef]; exact tMa) (kMa.1 98 rfl)
          ·
            have d2 : j % 2 = 1 := of_decide_eq_true (b2i_1 h2)
            refine lm_G_sg 4 (pc' := 70) (L' := [some (.ref 64), some (.int (nI p)), some (.int (nI o)), some (.int (nI j)), some (.int (b2i (decide (j / 2 = 1)))), some (.int (b2i (decide (j % 2 = 1)))), none, none]) (S' := [.int ((1 : Int32) <<< ((nI o) &&& 31)), .ref 64]) (σ' := lm_T Ma v G) rfl trivial ?_
            refine lm_G_ca (j := 191) (as := [.ref 64, .int ((1 : Int32) <<< ((nI o) &&& 31))]) (rest := []) rfl (Or.inl rfl) (Nat.le_of_ble_eq_true rfl) (Nat.le_of_ble_eq_true rfl) (Nat.le_of_ble_eq_true rfl) (Nat.le_of_ble_eq_true rfl) rfl ?_
            refine m_allStop hF tMa.1 (fun Mb hMb eMb kMb => ?_)
            show lm_G X (d + 6) 236 106 0 0 73 [some (.ref 64), some (.int (nI p)), some (.int (nI o)), some (.int (nI j)), some (.int (b2i (decide (j / 2 = 1)))), some (.int (b2i (decide (j % 2 = 1)))), none, none] [] (lm_T Mb v G) Q
            have tMb := TM_M tMa kMb hMb
            refine lm_G_sg 2 (pc' := 75) (L' := [some (.ref 64), some (.int (nI p)), some (.int (nI o)), some (.int (nI j)), some (.int (b2i (decide (j / 2 = 1)))), some (.int (b2i (decide (j % 2 = 1)))), none, none]) (S' := [.int (nI o), .int (nI p)]) (σ' := lm_T Mb v G) rfl trivial ?_
            refine lm_G_br (b := (nI p) ≤ (nI o)) (t := 90) (S' := []) rfl (fun h3 => ?_) (fun h3 => absurd (nI_le (by omega) (by omega)) h3)
            have ef : husS F (husS F s p) o = S0 := by
              rw [es0, gm_lt ho1 ho]
              unfold gm2 gm1
              rw [if_pos d2, if_pos d1]
            refine lm_G_jk (L := [some (.ref 64), some (.int (nI p)), some (.int (nI o)), some (.int (nI j)), none, none, none, none]) ⟨rfl, rfl, rfl, rfl, rfl, rfl, trivial⟩ ?_
            exact k90 _ (by rw [← ef]; exact tMb) ((kMb.1 98 rfl).trans (kMa.1 98 rfl))
      ·
        refine lm_G_sg 2 (pc' := 46) (L' := [some (.ref 64), some (.int (nI p)), some (.int (nI o)), some (.int (nI j)), some (.int (b2i (decide (j / 2 = 1)))), some (.int (b2i (decide (j % 2 = 1)))), none, none]) (S' := [.int (nI o), .int (nI p)]) (σ' := lm_T M2 v G) rfl trivial ?_
        refine lm_G_br (b := (nI o) ≤ (nI p)) (t := 61) (S' := []) rfl (fun hc => ?_) (fun hc => absurd (nI_le (Nat.le_of_lt ho1) (by omega)) hc)
        refine lm_G_sg 1 (pc' := 63) (L' := [some (.ref 64), some (.int (nI p)), some (.int (nI o)), some (.int (nI j)), some (.int (b2i (decide (j / 2 = 1)))), some (.int (b2i (decide (j % 2 = 1)))), none, none]) (S' := [.int (b2i (decide (j % 2 = 1)))]) (σ' := lm_T M2 v G) rfl trivial ?_
        refine lm_G_br (b := (b2i (decide (j % 2 = 1))) = 0) (t := 73) (S' := []) rfl (fun h2 => ?_) (fun h2 => ?_)
        ·
          have d2 : ¬ j % 2 = 1 := of_decide_eq_false (b2i_0 h2)
          refine lm_G_sg 2 (pc' := 75) (L' := [some (.ref 64), some (.int (nI p)), some (.int (nI o)), some (.int (nI j)), some (.int (b2i (decide (j / 2 = 1)))), some (.int (b2i (decide (j % 2 = 1)))), none, none]) (S' := [.int (nI o), .int (nI p)]) (σ' := lm_T M2 v G) rfl trivial ?_
          refine lm_G_br (b := (nI p) ≤ (nI o)) (t := 90) (S' := []) rfl (fun h3 => absurd h3 (nI_ge ho1 (by omega))) (fun h3 => ?_)
          refine lm_G_sg 1 (pc' := 80) (L' := [some (.ref 64), some (.int (nI p)), some (.int (nI o)), some (.int (nI j)), some (.int (b2i (decide (j / 2 = 1)))), some (.int (b2i (decide (j % 2 = 1)))), none, none]) (S' := [.int (b2i (decide (j / 2 = 1)))]) (σ' := lm_T M2 v G) rfl trivial ?_
          refine lm_G_br (b := (b2i (decide (j / 2 = 1))) = 0) (t := 90) (S' := []) rfl (fun h1 => ?_) (fun h1 => ?_)
          ·
            have d1 : ¬ j / 2 = 1 := of_decide_eq_false (b2i_0 h1)
            have ef : s = S0 := by
              rw [es0, gm_gt ho1 hp]
              unfold gm2 gm1
              rw [if_neg d1, if_neg d2]
            refine lm_G_jk (L := [some (.ref 64), some (.int (nI p)), some (.int (nI o)), some (.int (nI j)), none, none, none, none]) ⟨rfl, rfl, rfl, rfl, rfl, rfl, trivial⟩ ?_
            exact k90 _ (by rw [← ef]; exact t2) rfl
          ·
            have d1 : j / 2 = 1 := of_decide_eq_true (b2i_1 h1)
            refine lm_G_sg 4 (pc' := 87) (L' := [some (.ref 64), some (.int (nI p)), some (.int (nI o)), some (.int (nI j)), some (.int (b2i (decide (j / 2 = 1)))), some (.int (b2i (decide (j % 2 = 1)))), none, none]) (S' := [.int ((1 : Int32) <<< ((nI p) &&& 31)), .ref 64]) (σ' := lm_T M2 v G) rfl trivial ?_
            refine lm_G_ca (j := 191) (as := [.ref 64, .int ((1 : Int32) <<< ((nI p) &&& 31))]) (rest := []) rfl (Or.inl rfl) (Nat.le_of_ble_eq_true rfl) (Nat.le_of_ble_eq_true rfl) (Nat.le_of_ble_eq_true rfl) (Nat.le_of_ble_eq_true rfl) rfl ?_
            refine m_allStop hF t2.1 (fun Mb hMb eMb kMb => ?_)
            show lm_G X (d + 6) 236 106 0 0 90 [some (.ref 64), some (.int (nI p)), some (.int (nI o)), some (.int (nI j)), some (.int (b2i (decide (j / 2 = 1)))), some (.int (b2i (decide (j % 2 = 1)))), none, none] [] (lm_T Mb v G) Q
            have tMb := TM_M t2 kMb hMb
            have ef : husS F (s) p = S0 := by
              rw [es0, gm_gt ho1 hp]
              unfold gm2 gm1
              rw [if_pos d1, if_neg d2]
            refine lm_G_jk (L := [some (.ref 64), some (.int (nI p)), some (.int (nI o)), some (.int (nI j)), none, none, none, none]) ⟨rfl, rfl, rfl, rfl, rfl, rfl, trivial⟩ ?_
            exact k90 _ (by rw [← ef]; exact tMb) (kMb.1 98 rfl)
        ·
          have d2 : j % 2 = 1 := of_decide_eq_true (b2i_1 h2)
          refine lm_G_sg 4 (pc' := 70) (L' := [some (.ref 64), some (.int (nI p)), some (.int (nI o)), some (.int (nI j)), some (.int (b2i (decide (j / 2 = 1)))), some (.int (b2i (decide (j % 2 = 1)))), none, none]) (S' := [.int ((1 : Int32) <<< ((nI o) &&& 31)), .ref 64]) (σ' := lm_T M2 v G) rfl trivial ?_
          refine lm_G_ca (j := 191) (as := [.ref 64, .int ((1 : Int32) <<< ((nI o) &&& 31))]) (rest := []) rfl (Or.inl rfl) (Nat.le_of_ble_eq_true rfl) (Nat.le_of_ble_eq_true rfl) (Nat.le_of_ble_eq_true rfl) (Nat.le_of_ble_eq_true rfl) rfl ?_
          refine m_allStop hF t2.1 (fun Ma hMa eMa kMa => ?_)
          show lm_G X (d + 6) 236 106 0 0 73 [some (.ref 64), some (.int (nI p)), some (.int (nI o)), some (.int (nI j)), some (.int (b2i (decide (j / 2 = 1)))), some (.int (b2i (decide (j % 2 = 1)))), none, none] [] (lm_T Ma v G) Q
          have tMa := TM_M t2 kMa hMa
          refine lm_G_sg 2 (pc' := 75) (L' := [some (.ref 64), some (.int (nI p)), some (.int (nI o)), some (.int (nI j)), some (.int (b2i (decide (j / 2 = 1)))), some (.int (b2i (decide (j % 2 = 1)))), none, none]) (S' := [.int (nI o), .int (nI p)]) (σ' := lm_T Ma v G) rfl trivial ?_
          refine lm_G_br (b := (nI p) ≤ (nI o)) (t := 90) (S' := []) rfl (fun h3 => absurd h3 (nI_ge ho1 (by omega))) (fun h3 => ?_)
          refine lm_G_sg 1 (pc' := 80) (L' := [some (.ref 64), some (.int (nI p)), some (.int (nI o)), some (.int (nI j)), some (.int (b2i (decide (j / 2 = 1)))), some (.int (b2i (decide (j % 2 = 1)))), none, none]) (S' := [.int (b2i (decide (j / 2 = 1)))]) (σ' := lm_T Ma v G) rfl trivial ?_
          refine lm_G_br (b := (b2i (decide (j / 2 = 1))) = 0) (t := 90) (S' := []) rfl (fun h1 => ?_) (fun h1 => ?_)
          ·
            have d1 : ¬ j / 2 = 1 := of_decide_eq_false (b2i_0 h1)
            have ef : husS F s o = S0 := by
              rw [es0, gm_gt ho1 hp]
              unfold gm2 gm1
              rw [if_neg d1, if_pos d2]
            refine lm_G_jk (L := [some (.ref 64), some (.int (nI p)), some (.int (nI o)), some (.int (nI j)), none, none, none, none]) ⟨rfl, rfl, rfl, rfl, rfl, rfl, trivial⟩ ?_
            exact k90 _ (by rw [← ef]; exact tMa) (kMa.1 98 rfl)
          ·
            have d1 : j / 2 = 1 := of_decide_eq_true (b2i_1 h1)
            refine lm_G_sg 4 (pc' := 87) (L' := [some (.ref 64), some (.int (nI p)), some (.int (nI o)), some (.int (nI j)), some (.int (b2i (decide (j / 2 = 1)))), some (.int (b2i (decide (j % 2 = 1)))), none, none]) (S' := [.int ((1 : Int32) <<< ((nI p) &&& 31)), .ref 64]) (σ' := lm_T Ma v G) rfl trivial ?_
            refine lm_G_ca (j := 191) (as := [.ref 64, .int ((1 : Int32) <<< ((nI p) &&& 31))]) (rest := []) rfl (Or.inl rfl) (Nat.le_of_ble_eq_true rfl) (Nat.le_of_ble_eq_true rfl) (Nat.le_of_ble_eq_true rfl) (Nat.le_of_ble_eq_true rfl) rfl ?_
            refine m_allStop hF tMa.1 (fun Mb hMb eMb kMb => ?_)
            show lm_G X (d + 6) 236 106 0 0 90 [some (.ref 64), some (.int (nI p)), some (.int (nI o)), some (.int (nI j)), some (.int (b2i (decide (j / 2 = 1)))), some (.int (b2i (decide (j % 2 = 1)))), none, none] [] (lm_T Mb v G) Q
            have tMb := TM_M tMa kMb hMb
            have ef : husS F (husS F s o) p = S0 := by
              rw [es0, gm_gt ho1 hp]
              unfold gm2 gm1
              rw [if_pos d1, if_pos d2]
            refine lm_G_jk (L := [some (.ref 64), some (.int (nI p)), some (.int (nI o)), some (.int (nI j)), none, none, none, none]) ⟨rfl, rfl, rfl, rfl, rfl, rfl, trivial⟩ ?_
            exact k90 _ (by rw [← ef]; exact tMb) ((kMb.1 98 rfl).trans (kMa.1 98 rfl))
    refine lm_G_br (b := ¬ (nI (j / 2)) = 1) (t := 27) (S' := []) rfl (fun h1 => ?_) (fun h1 => ?_)
    ·
      have e1 : b2i (decide (j / 2 = 1)) = 0 := b2i_f (decide_eq_false (fun w => h1 (by rw [w]; rfl)))
      refine lm_G_sg 5 (pc' := 33) (L' := [some (.ref 64), some (.int (nI p)), some (.int (nI o)), some (.int (nI j)), some (.int 0), none, none, none]) (S' := [.int ((nI j) - (nI j) / 2 * 2)]) (σ' := lm_T M2 v G) rfl ⟨(by decide), trivial, trivial⟩ ?_
      rw [show (nI j) - (nI j) / 2 * 2 = nI (j % 2) from nI_rem (b := 2) (by omega) (by omega)]
      refine lm_G_sg 1 (pc' := 34) (L' := [some (.ref 64), some (.int (nI p)), some (.int (nI o)), some (.int (nI j)), some (.int 0), none, none, none]) (S' := [.int 1, .int (nI (j % 2))]) (σ' := lm_T M2 v G) rfl trivial ?_
      refine lm_G_br (b := ¬ (nI (j % 2)) = 1) (t := 41) (S' := []) rfl (fun h2 => ?_) (fun h2 => ?_)
      ·
        have e2 : b2i (decide (j % 2 = 1)) = 0 := b2i_f (decide_eq_false (fun w => h2 (by rw [w]; rfl)))
        refine lm_G_sg 2 (pc' := 44) (L' := [some (.ref 64), some (.int (nI p)), some (.int (nI o)), some (.int (nI j)), some (.int 0), some (.int 0), none, none]) (S' := []) (σ' := lm_T M2 v G) rfl trivial ?_
        rw [e1, e2] at k44
        exact k44
      ·
        have e2 : b2i (decide (j % 2 = 1)) = 1 := b2i_t (decide_eq_true ((nI_eq (b := 1) (by omega) (by omega)).mp (Classical.not_not.mp h2)))
        refine lm_G_sg 3 (pc' := 44) (L' := [some (.ref 64), some (.int (nI p)), some (.int (nI o)), some (.int (nI j)), some (.int 0), some (.int 1), none, none]) (S' := []) (σ' := lm_T M2 v G) rfl trivial ?_
        rw [e1, e2] at k44
        exact k44
    ·
      have e1 : b2i (decide (j / 2 = 1)) = 1 := b2i_t (decide_eq_true ((nI_eq (b := 1) (by omega) (by omega)).mp (Classical.not_not.mp h1)))
      refine lm_G_sg 6 (pc' := 33) (L' := [some (.ref 64), some (.int (nI p)), some (.int (nI o)), some (.int (nI j)), some (.int 1), none, none, none]) (S' := [.int ((nI j) - (nI j) / 2 * 2)]) (σ' := lm_T M2 v G) rfl ⟨(by decide), trivial, trivial⟩ ?_
      rw [show (nI j) - (nI j) / 2 * 2 = nI (j % 2) from nI_rem (b := 2) (by omega) (by omega)]
      refine lm_G_sg 1 (pc' := 34) (L' := [some (.ref 64), some (.int (nI p)), some (.int (nI o)), some (.int (nI j)), some (.int 1), none, none, none]) (S' := [.int 1, .int (nI (j % 2))]) (σ' := lm_T M2 v G) rfl trivial ?_
      refine lm_G_br (b := ¬ (nI (j % 2)) = 1) (t := 41) (S' := []) rfl (fun h2 => ?_) (fun h2 => ?_)
      ·
        have e2 : b2i (decide (j % 2 = 1)) = 0 := b2i_f (decide_eq_false (fun w => h2 (by rw [w]; rfl)))
        refine lm_G_sg 2 (pc' := 44) (L' := [some (.ref 64), some (.int (nI p)), some (.int (nI o)), some (.int (nI j)), some (.int 1), some (.int 0), none, none]) (S' := []) (σ' := lm_T M2 v G) rfl trivial ?_
        rw [e1, e2] at k44
        exact k44
      ·
        have e2 : b2i (decide (j % 2 = 1)) = 1 := b2i_t (decide_eq_true ((nI_eq (b := 1) (by omega) (by omega)).mp (Classical.not_not.mp h2)))
        refine lm_G_sg 3 (pc' := 44) (L' := [some (.ref 64), some (.int (nI p)), some (.int (nI o)), some (.int (nI j)), some (.int 1), some (.int 1), none, none]) (S' := []) (σ' := lm_T M2 v G) rfl trivial ?_
        rw [e1, e2] at k44
        exact k44
  ·
    revert hI
    revert zz
    intro M2 hI
    replace hI : TM M0 F s M2 s ∧ gnM F s p o (M2 98) 4 := hI
    show lm_G X (d + 6) 236 106 0 0 11 [some (.ref 64), some (.int (nI p)), some (.int (nI o)), some (.int (nI 4)), none, none, none, none] [] (lm_T M2 v G) Q
    obtain ⟨t2, g2⟩ := hI
    refine lm_G_sg 2 (pc' := 13) (L' := [some (.ref 64), some (.int (nI p)), some (.int (nI o)), some (.int (nI 4)), none, none, none, none]) (S' := [.int 4, .int (nI 4)]) (σ' := lm_T M2 v G) rfl trivial ?_
    refine lm_G_br (b := 4 ≤ (nI 4)) (t := 163) (S' := []) rfl (fun hc => ?_) (fun hc => absurd (nI_le (a := 4) (Nat.le_refl _) (by omega)) hc)
    exact lm_G_re rfl trivial (Nat.zero_le _) (Nat.zero_le _) (hQ _ t2 g2)
  ·
    try dsimp only
    exact ⟨t1, fun i hi => by omega⟩
set_option maxRecDepth 10000 in
theorem m_game {X : lm_X} {d v : Nat} {M : Nat → Nat → Int32} {G : Nat → Nat → Int64} {Q : lm_O → lm_S → Prop} {F : Fa} {s : Sc} {x y w : Int32} (hF : okF F) (h : RM M F s) (hs : okS F s) (hl : M 64 42 = 0) (hQ : ∀ M1, RM M1 F s → FrN M M1 → M1 64 4 = cd (aGam F s x y w) → Q (.inl (some (.int (vl (aGam F s x y w))))) (lm_T M1 v G)) : lm_Q X (d + 7) 237 [.ref 64, .int x, .int y, .int w] (lm_T M v G) Q := by
  have hn := hF.n
  have hm := hF.m
  show lm_G X (d + 7) 237 106 0 0 0 [some (.ref 64), some (.int x), some (.int y), some (.int w), none, none, none, none, none] [] (lm_T M v G) Q
  refine lm_G_sg 3 (pc' := 5) (L' := [some (.ref 64), some (.int x), some (.int y), some (.int w), none, none, none, none, none]) (S' := []) (σ' := lm_T (lm_wr M 64 4 0) v G) rfl ⟨trivial, trivial, trivial⟩ ?_
  have h0 : RM (lm_wr M 64 4 0) F s := RM_taken h 4 (by decide) 0
  have f0 : FrN M (lm_wr M 64 4 0) := FrN_w64 (FrN_rf _) (by decide)
  have c0 : (lm_wr M 64 4 0) 64 4 = 0 := wr_same
  have l0 : (lm_wr M 64 4 0) 64 42 = 0 := (wr_at (by decide)).trans hl
  revert h0 f0 c0 l0
  generalize lm_wr M 64 4 0 = M0
  intro h0 f0 c0 l0
  refine lm_G_sg 2 (pc' := 7) (L' := [some (.ref 64), some (.int x), some (.int y), some (.int w), none, none, none, none, none]) (S' := [.int x, .ref 64]) (σ' := lm_T M0 v G) rfl trivial ?_
  refine lm_G_ca (j := 145) (as := [.ref 64, .int x]) (rest := []) rfl (Or.inl rfl) (Nat.le_of_ble_eq_true rfl) (Nat.le_of_ble_eq_true rfl) (Nat.le_of_ble_eq_true rfl) (Nat.le_of_ble_eq_true rfl) rfl ?_
  refine m_isPerson hF h0 ?_
  show lm_G X (d + 7) 237 106 0 0 10 [some (.ref 64), some (.int x), some (.int y), some (.int w), none, none, none, none, none] [.int (b2i (isP (fN F) x))] (lm_T M0 v G) Q
  refine lm_G_br (b := (b2i (isP (fN F) x)) = 0) (t := 31) (S' := []) rfl (fun hx => ?_) (fun hx => ?_)
  ·
    replace hx := b2i_0 hx
    refine lm_G_sg 2 (pc' := 33) (L' := [some (.ref 64), some (.int x), some (.int y), some (.int w), none, none, none, none, none]) (S' := [.int 1, .ref 64]) (σ' := lm_T M0 v G) rfl trivial ?_
    refine lm_G_ca (j := 141) (as := [.ref 64, .int 1]) (rest := []) rfl (Or.inl rfl) (Nat.le_of_ble_eq_true rfl) (Nat.le_of_ble_eq_true rfl) (Nat.le_of_ble_eq_true rfl) (Nat.le_of_ble_eq_true rfl) rfl ?_
    refine m_fail ?_
    show lm_G X (d + 7) 237 106 0 0 36 [some (.ref 64), some (.int x), some (.int y), some (.int w), none, none, none, none, none] [.int 0] (lm_T (lm_wr M0 64 4 1) v G) Q
    rw [show aGam F s x y w = .inr false from by simp +decide only [aGam, hx, if_true, if_false, Bool.and_true, Bool.true_and, Bool.and_self, Bool.false_and, Bool.and_false, Bool.false_eq_true]] at hQ
    exact lm_G_re rfl trivial (Nat.zero_le _) (Nat.zero_le _) (hQ _ (RM_taken h0 4 (by decide) 1) (FrN_w64 f0 (by decide)) wr_same)
  ·
    replace hx := b2i_1 hx
    refine lm_G_sg 2 (pc' := 15) (L' := [some (.ref 64), some (.int x), some (.int y), some (.int w), none, none, none, none, none]) (S' := [.int y, .ref 64]) (σ' := lm_T M0 v G) rfl trivial ?_
    refine lm_G_ca (j := 145) (as := [.ref 64, .int y]) (rest := []) rfl (Or.inl rfl) (Nat.le_of_ble_eq_true rfl) (Nat.le_of_ble_eq_true rfl) (Nat.le_of_ble_eq_true rfl) (Nat.le_of_ble_eq_true rfl) rfl ?_
    refine m_isPerson hF h0 ?_
    show lm_G X (d + 7) 237 106 0 0 18 [some (.ref 64), some (.int x), some (.int y), some (.int w), none, none, none, none, none] [.int (b2i (isP (fN F) y))] (lm_T M0 v G) Q
    refine lm_G_br (b := (b2i (isP (fN F) y)) = 0) (t := 31) (S' := []) rfl (fun hy => ?_) (fun hy => ?_)
    ·
      replace hy := b2i_0 hy
      refine lm_G_sg 2 (pc' := 33) (L' := [some (.ref 64), some (.int x), some (.int y), some (.int w), none, none, none, none, none]) (S' := [.int 1, .ref 64]) (σ' := lm_T M0 v G) rfl trivial ?_
      refine lm_G_ca (j := 141) (as := [.ref 64, .int 1]) (rest := []) rfl (Or.inl rfl) (Nat.le_of_ble_eq_true rfl) (Nat.le_of_ble_eq_true rfl) (Nat.le_of_ble_eq_true rfl) (Nat.le_of_ble_eq_true rfl) rfl ?_
      refine m_fail ?_
      show lm_G X (d + 7) 237 106 0 0 36 [some (.ref 64), some (.int x), some (.int y), some (.int w), none, none, none, none, none] [.int 0] (lm_T (lm_wr M0 64 4 1) v G) Q
      rw [show aGam F s x y w = .inr false from by simp +decide only [aGam, hy, hx, if_true, if_false, Bool.and_true, Bool.true_and, Bool.and_self, Bool.false_and, Bool.and_false, Bool.false_eq_true]] at hQ
      exact lm_G_re rfl trivial (Nat.zero_le _) (Nat.zero_le _) (hQ _ (RM_taken h0 4 (by decide) 1) (FrN_w64 f0 (by decide)) wr_same)
    ·
      replace hy := b2i_1 hy
      refine lm_G_sg 4 (pc' := 25) (L' := [some (.ref 64), some (.int x), some (.int y), some (.int w), none, none, none, none, none]) (S' := [.long 1, .long 0, .long w.toInt64]) (σ' := lm_T M0 v G) rfl trivial ?_
      refine lm_G_ca (j := 142) (as := [.long w.toInt64, .long 0, .long 1]) (rest := []) rfl (Or.inl rfl) (Nat.le_of_ble_eq_true rfl) (Nat.le_of_ble_eq_true rfl) (Nat.le_of_ble_eq_true rfl) (Nat.le_of_ble_eq_true rfl) rfl ?_
      refine c_isIn ?_
      show lm_G X (d + 7) 237 106 0 0 28 [some (.ref 64), some (.int x), some (.int y), some (.int w), none, none, none, none, none] [.int (b2i (inL (w.toInt64) 0 1))] (lm_T M0 v G) Q
      rw [show inL (w.toInt64) 0 1 = isP 2 w from inL_1 _]
      refine lm_G_br (b := ¬ (b2i (isP 2 w)) = 0) (t := 37) (S' := []) rfl (fun hw => ?_) (fun hw => ?_)
      rotate_left
      ·
        replace hw := b2i_0 (Classical.not_not.mp hw)
        refine lm_G_sg 2 (pc' := 33) (L' := [some (.ref 64), some (.int x), some (.int y), some (.int w), none, none, none, none, none]) (S' := [.int 1, .ref 64]) (σ' := lm_T M0 v G) rfl trivial ?_
        refine lm_G_ca (j := 141) (as := [.ref 64, .int 1]) (rest := []) rfl (Or.inl rfl) (Nat.le_of_ble_eq_true rfl) (Nat.le_of_ble_eq_true rfl) (Nat.le_of_ble_eq_true rfl) (Nat.le_of_ble_eq_true rfl) rfl ?_
        refine m_fail ?_
        show lm_G X (d + 7) 237 106 0 0 36 [some (.ref 64), some (.int x), some (.int y), some (.int w), none, none, none, none, none] [.int 0] (lm_T (lm_wr M0 64 4 1) v G) Q
        rw [show aGam F s x y w = .inr false from by simp +decide only [aGam, hw, hx, hy, if_true, if_false, Bool.and_true, Bool.true_and, Bool.and_self, Bool.false_and, Bool.and_false, Bool.false_eq_true]] at hQ
        exact lm_G_re rfl trivial (Nat.zero_le _) (Nat.zero_le _) (hQ _ (RM_taken h0 4 (by decide) 1) (FrN_w64 f0 (by decide)) wr_same)
      ·
        replace hw := b2i_1 hw
        refine lm_G_sg 2 (pc' := 39) (L' := [some (.ref 64), some (.int x), some (.int y), some (.int w), none, none, none, none, none]) (S' := [.int y, .int x]) (σ' := lm_T M0 v G) rfl trivial ?_
        refine lm_G_br (b := ¬ x = y) (t := 48) (S' := []) rfl (fun h1 => ?_) (fun h1 => ?_)
        rotate_left
        ·
          have h2 : decide (x ≠ y) = false := decide_eq_false h1
          refine lm_G_sg 2 (pc' := 44) (L' := [some (.ref 64), some (.int x), some (.int y), some (.int w), none, none, none, none, none]) (S' := [.int 2, .ref 64]) (σ' := lm_T M0 v G) rfl trivial ?_
          refine lm_G_ca (j := 141) (as := [.ref 64, .int 2]) (rest := []) rfl (Or.inl rfl) (Nat.le_of_ble_eq_true rfl) (Nat.le_of_ble_eq_true rfl) (Nat.le_of_ble_eq_true rfl) (Nat.le_of_ble_eq_true rfl) rfl ?_
          refine m_fail ?_
          show lm_G X (d + 7) 237 106 0 0 47 [some (.ref 64), some (.int x), some (.int y), some (.int w), none, none, none, none, none] [.int 0] (lm_T (lm_wr M0 64 4 2) v G) Q
          rw [show aGam F s x y w = .inr true from by simp +decide only [aGam, hx, hy, hw, h2, if_true, if_false, Bool.and_true, Bool.true_and, Bool.and_self, Bool.false_and, Bool.and_false, Bool.false_eq_true]] at hQ
          exact lm_G_re rfl trivial (Nat.zero_le _) (Nat.zero_le _) (hQ _ (RM_taken h0 4 (by decide) 2) (FrN_w64 f0 (by decide)) wr_same)
        ·
          have h2 : decide (x ≠ y) = true := decide_eq_true h1
          obtain ⟨p, hp, rfl⟩ := isP_nI hx (by omega)
          have cp : (nI p).toNatClampNeg = p := nI_clamp (by omega)
          obtain ⟨o, ho, rfl⟩ := isP_nI hy (by omega)
          have co : (nI o).toNatClampNeg = o := nI_clamp (by omega)
          have hpo : p ≠ o := fun e => h1 (by rw [e])
          have la1 : lsI (sHu s p) ≤ 1 := by unfold lsI; split <;> omega
          have lb1 : lsI (sHu s o) ≤ 1 := by unfold lsI; split <;> omega
          have k82 : lm_G X (d + 7) 237 106 0 0 82 [some (.ref 64), some (.int (nI p)), some (.int (nI o)), some (.int w), some (.int (nI (lsI (sHu s p)))), some (.int (nI (lsI (sHu s o)))), none, none, none] [] (lm_T M0 v G) Q := by
            refine lm_G_sg 3 (pc' := 85) (L' := [some (.ref 64), some (.int (nI p)), some (.int (nI o)), some (.int w), some (.int (nI (lsI (sHu s p)))), some (.int (nI (lsI (sHu s o)))), none, none, none]) (S' := [.int (nI o), .int (nI p), .ref 64]) (σ' := lm_T M0 v G) rfl trivial ?_
            refine lm_G_ca (j := 236) (as := [.ref 64, .int (nI p), .int (nI o)]) (rest := []) rfl (Or.inl rfl) (Nat.le_of_ble_eq_true rfl) (Nat.le_of_ble_eq_true rfl) (Nat.le_of_ble_eq_true rfl) (Nat.le_of_ble_eq_true rfl) rfl ?_
            refine m_tellGains hF h0 hs f0 c0 l0 hp ho hpo (fun M1 t1 g1 => ?_)
            show lm_G X (d + 7) 237 106 0 0 88 [some (.ref 64), some (.int (nI p)), some (.int (nI o)), some (.int w), some (.int (nI (lsI (sHu s p)))), some (.int (nI (lsI (sHu s o)))), none, none, none] [] (lm_T M1 v G) Q
            refine lm_G_sg 6 (pc' := 97) (L' := [some (.ref 64), some (.int (nI p)), some (.int (nI o)), some (.int w), some (.int (nI (lsI (sHu s p)))), some (.int (nI (lsI (sHu s o)))), some (.int 0), some (.int (-1)), some (.int 0)]) (S' := []) (σ' := lm_T M1 v G) rfl trivial ?_
            refine lm_ind (α := Unit) (St := fun (j : Nat) zz => lm_G X (d + 7) 237 106 0 0 97 [some (.ref 64), some (.int (nI p)), some (.int (nI o)), some (.int w), some (.int (nI (lsI (sHu s p)))), some (.int (nI (lsI (sHu s o)))), some (.int (ctS (okc F s p o) j)), some (.int (fiC (okc F s p o) j)), some (.int (nI j))] [] (lm_T M1 v G) Q) (Inv := fun (j : Nat) zz => True) (4) (fun j zz hj hI ih => ?_) (fun zz hI => ?_) (0) () (by omega) ?_
            ·
              replace hI : True := hI
              replace ih : ∀ (_ : True), lm_G X (d + 7) 237 106 0 0 97 [some (.ref 64), some (.int (nI p)), some (.int (nI o)), some (.int w), some (.int (nI (lsI (sHu s p)))), some (.int (nI (lsI (sHu s o)))), some (.int (ctS (okc F s p o) (j + 1))), some (.int (fiC (okc F s p o) (j + 1))), some (.int (nI (j + 1)))] [] (lm_T M1 v G) Q := fun q => ih () q
              show lm_G X (d + 7) 237 106 0 0 97 [some (.ref 64), some (.int (nI p)), some (.int (nI o)), some (.int w), some (.int (nI (lsI (sHu s p)))), some (.int (nI (lsI (sHu s o)))), some (.int (ctS (okc F s p o) j)), some (.int (fiC (okc F s p o) j)), some (.int (nI j))] [] (lm_T M1 v G) Q
              obtain ⟨x2, x2l⟩ := xr_2 j hj
              obtain ⟨x1, x1l⟩ := xr_1 j hj
              refine lm_G_sg 2 (pc' := 100) (L' := [some (.ref 64), some (.int (nI p)), some (.int (nI o)), some (.int w), some (.int (nI (lsI (sHu s p)))), some (.int (nI (lsI (sHu s o)))), some (.int (ctS (okc F s p o) j)), some (.int (fiC (okc F s p o) j)), some (.int (nI j))]) (S' := [.int 4, .int (nI j)]) (σ' := lm_T M1 v G) rfl trivial ?_
              refine lm_G_br (b := 4 ≤ (nI j)) (t := 229) (S' := []) rfl (fun hc => absurd hc (nI_ge (b := 4) hj (by omega))) (fun hc => ?_)
              have k223 : ∀ (eo : (okc F s p o) j = false), lm_G X (d + 7) 237 106 0 0 223 [some (.ref 64), some (.int (nI p)), some (.int (nI o)), some (.int w), some (.int (nI (lsI (sHu s p)))), some (.int (nI (lsI (sHu s o)))), some (.int (ctS (okc F s p o) j)), some (.int (fiC (okc F s p o) j)), some (.int (nI j))] [] (lm_T M1 v G) Q := by
                intro eo
                rw [ct_n eo, fc_n eo] at ih
                refine lm_G_sg 1 (pc' := 226) (L' := [some (.ref 64), some (.int (nI p)), some (.int (nI o)), some (.int w), some (.int (nI (lsI (sHu s p)))), some (.int (nI (lsI (sHu s o)))), some (.int (ctS (okc F s p o) j)), some (.int (fiC (okc F s p o) j)), some (.int ((nI j) + 1))]) (S' := []) (σ' := lm_T M1 v G) rfl trivial ?_
                rw [nI_1]
                refine lm_G_sg 1 (pc' := 97) (L' := [some (.ref 64), some (.int (nI p)), some (.int (nI o)), some (.int w), some (.int (nI (lsI (sHu s p)))), some (.int (nI (lsI (sHu s o)))), some (.int (ctS (okc F s p o) j)), some (.int (fiC (okc F s p o) j)), some (.int (nI (j + 1)))]) (S' := []) (σ' := lm_T M1 v G) rfl trivial ?_
                exact ih  trivial
              have k195 : ∀ (eo : (okc F s p o) j = true), lm_G X (d + 7) 237 106 0 0 195 [some (.ref 64), some (.int (nI p)), some (.int (nI o)), some (.int w), some (.int (nI (lsI (sHu s p)))), some (.int (nI (lsI (sHu s o)))), some (.int (ctS (okc F s p o) j)), some (.int (fiC (okc F s p o) j)), some (.int (nI j))] [] (lm_T M1 v G) Q := by
                intro eo
                rw [ct_y eo] at ih
                refine lm_G_sg 3 (pc' := 201) (L' := [some (.ref 64), some (.int (nI p)), some (.int (nI o)), some (.int w), some (.int (nI (lsI (sHu s p)))), some (.int (nI (lsI (sHu s o)))), some (.int ((ctS (okc F s p o) j) + 1)), some (.int (fiC (okc F s p o) j)), some (.int (nI j))]) (S' := [.int (-1), .int (fiC (okc F s p o) j)]) (σ' := lm_T M1 v G) rfl trivial ?_
                refine lm_G_br (b := ¬ (fiC (okc F s p o) j) = (-1)) (t := 219) (S' := []) rfl (fun h6 => ?_) (fun h6 => ?_)
                ·
                  refine lm_G_sg 3 (pc' := 226) (L' := [some (.ref 64), some (.int (nI p)), some (.int (nI o)), some (.int w), some (.int (nI (lsI (sHu s p)))), some (.int (nI (lsI (sHu s o)))), some (.int ((ctS (okc F s p o) j) + 1)), some (.int (fiC (okc F s p o) j)), some (.int ((nI j) + 1))]) (S' := []) (σ' := lm_T M1 v G) rfl trivial ?_
                  rw [nI_1]
                  refine lm_G_sg 1 (pc' := 97) (L' := [some (.ref 64), some (.int (nI p)), some (.int (nI o)), some (.int w), some (.int (nI (lsI (sHu s p)))), some (.int (nI (lsI (sHu s o)))), some (.int ((ctS (okc F s p o) j) + 1)), some (.int (fiC (okc F s p o) j)), some (.int (nI (j + 1)))]) (S' := []) (σ' := lm_T M1 v G) rfl trivial ?_
                  rw [fc_k h6] at ih
                  exact ih  trivial
                ·
                  refine lm_G_sg 4 (pc' := 210) (L' := [some (.ref 64), some (.int (nI p)), some (.int (nI o)), some (.int w), some (.int (nI (lsI (sHu s p)))), some (.int (nI (lsI (sHu s o)))), some (.int ((ctS (okc F s p o) j) + 1)), some (.int (fiC (okc F s p o) j)), some (.int (nI j))]) (S' := [.int ((nI j) / 2), .int 10]) (σ' := lm_T M1 v G) rfl ⟨(by decide), trivial, trivial⟩ ?_
                  rw [show (nI j) / 2 = nI (j / 2) from nI_div (b := 2) (by omega) (by omega)]
                  refine lm_G_sg 1 (pc' := 211) (L' := [some (.ref 64), some (.int (nI p)), some (.int (nI o)), some (.int w), some (.int (nI (lsI (sHu s p)))), some (.int (nI (lsI (sHu s o)))), some (.int ((ctS (okc F s p o) j) + 1)), some (.int (fiC (okc F s p o) j)), some (.int (nI j))]) (S' := [.int (10 * (nI (j / 2)))]) (σ' := lm_T M1 v G) rfl trivial ?_
                  rw [show 10 * (nI (j / 2)) = nI (10 * (j / 2)) from pk_mul 10 (j / 2)]
                  refine lm_G_sg 3 (pc' := 215) (L' := [some (.ref 64), some (.int (nI p)), some (.int (nI o)), some (.int w), some (.int (nI (lsI (sHu s p)))), some (.int (nI (lsI (sHu s o)))), some (.int ((ctS (okc F s p o) j) + 1)), some (.int (fiC (okc F s p o) j)), some (.int (nI j))]) (S' := [.int ((nI j) - (nI j) / 2 * 2), .int (nI (10 * (j / 2)))]) (σ' := lm_T M1 v G) rfl ⟨(by decide), trivial, trivial⟩ ?_
                  rw [show (nI j) - (nI j) / 2 * 2 = nI (j % 2) from nI_rem (b := 2) (by omega) (by omega)]
                  refine lm_G_sg 1 (pc' := 216) (L' := [some (.ref 64), some (.int (nI p)), some (.int (nI o)), some (.int w), some (.int (nI (lsI (sHu s p)))), some (.int (nI (lsI (sHu s o)))), some (.int ((ctS (okc F s p o) j) + 1)), some (.int (fiC (okc F s p o) j)), some (.int (nI j))]) (S' := [.int ((nI (10 * (j / 2))) + (nI (j % 2)))]) (σ' := lm_T M1 v G) rfl trivial ?_
                  rw [show (nI (10 * (j / 2))) + (nI (j % 2)) = nI ((10 * (j / 2)) + (j % 2)) from nI_add (10 * (j / 2)) (j % 2)]
                  refine lm_G_sg 3 (pc' := 226) (L' := [some (.ref 64), some (.int (nI p)), some (.int (nI o)), some (.int w), some (.int (nI (lsI (sHu s p)))), some (.int (nI (lsI (sHu s o)))), some (.int ((ctS (okc F s p o) j) + 1)), some (.int (nI ((10 * (j / 2)) + (j % 2)))), some (.int ((nI j) + 1))]) (S' := []) (σ' := lm_T M1 v G) rfl trivial ?_
                  rw [nI_1]
                  refine lm_G_sg 1 (pc' := 97) (L' := [some (.ref 64), some (.int (nI p)), some (.int (nI o)), some (.int w), some (.int (nI (lsI (sHu s p)))), some (.int (nI (lsI (sHu s o)))), some (.int ((ctS (okc F s p o) j) + 1)), some (.int (nI ((10 * (j / 2)) + (j % 2)))), some (.int (nI (j + 1)))]) (S' := []) (σ' := lm_T M1 v G) rfl trivial ?_
                  rw [fc_y eo (Classical.not_not.mp h6) (by omega)] at ih
                  exact ih  trivial
              have k160 : ∀ (ea : (okc F s p o) j = rsS F s p o j) (r1 : (decide (sHu s p = -1) || decide (gn1 F s p o (xr2 j) ≤ gn1 F s p o j)) = true), lm_G X (d + 7) 237 106 0 0 160 [some (.ref 64), some (.int (nI p)), some (.int (nI o)), some (.int w), some (.int (nI (lsI (sHu s p)))), some (.int (nI (lsI (sHu s o)))), some (.int (ctS (okc F s p o) j)), some (.int (fiC (okc F s p o) j)), some (.int (nI j))] [] (lm_T M1 v G) Q := by
                intro ea r1
                refine lm_G_sg 1 (pc' := 162) (L' := [some (.ref 64), some (.int (nI p)), some (.int (nI o)), some (.int w), some (.int (nI (lsI (sHu s p)))), some (.int (nI (lsI (sHu s o)))), some (.int (ctS (okc F s p o) j)), some (.int (fiC (okc F s p o) j)), some (.int (nI j))]) (S' := [.int (nI (lsI (sHu s o)))]) (σ' := lm_T M1 v G) rfl trivial ?_
                refine lm_G_br (b := (nI (lsI (sHu s o))) = 0) (t := 195) (S' := []) rfl (fun h7 => ?_) (fun h7 => ?_)
                ·
                  have e0 : sHu s o = -1 := by
                    unfold lsI at h7
                    by_cases w : sHu s o = -1
                    · exact w
                    · rw [if_neg w] at h7; exact absurd h7 (by decide)
                  exact k195 (by rw [ea]; unfold rsS; rw [r1, decide_eq_true e0]; rfl)
                ·
                  have e0 : ¬ sHu s o = -1 := by
                    intro w
                    unfold lsI at h7
                    rw [if_pos w] at h7
                    exact h7 rfl
                  refine lm_G_sg 6 (pc' := 174) (L' := [some (.ref 64), some (.int (nI p)), some (.int (nI o)), some (.int w), some (.int (nI (lsI (sHu s p)))), some (.int (nI (lsI (sHu s o)))), some (.int (ctS (okc F s p o) j)), some (.int (fiC (okc F s p o) j)), some (.int (nI j))]) (S' := [.int ((nI j) ^^^ 1), .int 2, .ref 98]) (σ' := lm_T M1 v G) rfl trivial ?_
                  rw [x1]
                  refine lm_G_sg 1 (pc' := 175) (L' := [some (.ref 64), some (.int (nI p)), some (.int (nI o)), some (.int w), some (.int (nI (lsI (sHu s p)))), some (.int (nI (lsI (sHu s o)))), some (.int (ctS (okc F s p o) j)), some (.int (fiC (okc F s p o) j)), some (.int (nI j))]) (S' := [.int (2 * (nI (xr1 j))), .ref 98]) (σ' := lm_T M1 v G) rfl trivial ?_
                  rw [show 2 * (nI (xr1 j)) = nI (2 * (xr1 j)) from pk_mul 2 (xr1 j)]
                  refine lm_G_sg 2 (pc' := 177) (L' := [some (.ref 64), some (.int (nI p)), some (.int (nI o)), some (.int w), some (.int (nI (lsI (sHu s p)))), some (.int (nI (lsI (sHu s o)))), some (.int (ctS (okc F s p o) j)), some (.int (fiC (okc F s p o) j)), some (.int (nI j))]) (S' := [.int ((nI (2 * (xr1 j))) + 1), .ref 98]) (σ' := lm_T M1 v G) rfl trivial ?_
                  rw [show (nI (2 * (xr1 j))) + 1 = nI ((2 * (xr1 j)) + 1) from nI_add (2 * (xr1 j)) 1]
                  refine lm_G_sg 1 (pc' := 178) (L' := [some (.ref 64), some (.int (nI p)), some (.int (nI o)), some (.int w), some (.int (nI (lsI (sHu s p)))), some (.int (nI (lsI (sHu s o)))), some (.int (ctS (okc F s p o) j)), some (.int (fiC (okc F s p o) j)), some (.int (nI j))]) (S' := [.int (M1 98 (nI ((2 * (xr1 j)) + 1)).toNatClampNeg)]) (σ' := lm_T M1 v G) rfl ⟨(vp_in_nI (by omega) (by omega)), trivial, trivial⟩ ?_
                  rw [show (nI ((2 * (xr1 j)) + 1)).toNatClampNeg = ((2 * (xr1 j)) + 1) from nI_clamp (by omega)]
                  rw [(g1 _ x1l).2]
                  refine lm_G_sg 5 (pc' := 186) (L' := [some (.ref 64), some (.int (nI p)), some (.int (nI o)), some (.int w), some (.int (nI (lsI (sHu s p)))), some (.int (nI (lsI (sHu s o)))), some (.int (ctS (okc F s p o) j)), some (.int (fiC (okc F s p o) j)), some (.int (nI j))]) (S' := [.int (2 * (nI j)), .ref 98, .int (gn2 F s p o (xr1 j))]) (σ' := lm_T M1 v G) rfl trivial ?_
                  rw [show 2 * (nI j) = nI (2 * j) from pk_mul 2 j]
                  refine lm_G_sg 2 (pc' := 188) (L' := [some (.ref 64), some (.int (nI p)), some (.int (nI o)), some (.int w), some (.int (nI (lsI (sHu s p)))), some (.int (nI (lsI (sHu s o)))), some (.int (ctS (okc F s p o) j)), some (.int (fiC (okc F s p o) j)), some (.int (nI j))]) (S' := [.int ((nI (2 * j)) + 1), .ref 98, .int (gn2 F s p o (xr1 j))]) (σ' := lm_T M1 v G) rfl trivial ?_
                  rw [show (nI (2 * j)) + 1 = nI ((2 * j) + 1) from nI_add (2 * j) 1]
                  refine lm_G_sg 1 (pc' := 189) (L' := [some (.ref 64), some (.int (nI p)), some (.int (nI o)), some (.int w), some (.int (nI (lsI (sHu s p)))), some (.int (nI (lsI (sHu s o)))), some (.int (ctS (okc F s p o) j)), some (.int (fiC (okc F s p o) j)), some (.int (nI j))]) (S' := [.int (M1 98 (nI ((2 * j) + 1)).toNatClampNeg), .int (gn2 F s p o (xr1 j))]) (σ' := lm_T M1 v G) rfl ⟨(vp_in_nI (by omega) (by omega)), trivial, trivial⟩ ?_
                  rw [show (nI ((2 * j) + 1)).toNatClampNeg = ((2 * j) + 1) from nI_clamp (by omega)]
                  rw [(g1 _ hj).2]
                  refine lm_G_br (b := (gn2 F s p o (xr1 j)) ≤ (gn2 F s p o j)) (t := 195) (S' := []) rfl (fun h8 => ?_) (fun h8 => ?_)
                  ·
                    exact k195 (by rw [ea]; unfold rsS; rw [r1, decide_eq_true h8, Bool.or_true]; rfl)
                  ·
                    refine lm_G_sg 1 (pc' := 223) (L' := [some (.ref 64), some (.int (nI p)), some (.int (nI o)), some (.int w), some (.int (nI (lsI (sHu s p)))), some (.int (nI (lsI (sHu s o)))), some (.int (ctS (okc F s p o) j)), some (.int (fiC (okc F s p o) j)), some (.int (nI j))]) (S' := []) (σ' := lm_T M1 v G) rfl trivial ?_
                    exact k223 (by rw [ea]; unfold rsS; rw [decide_eq_false e0, decide_eq_false h8, Bool.or_false, Bool.and_false])
              have k132 : ∀ (ea : (okc F s p o) j = rsS F s p o j), lm_G X (d + 7) 237 106 0 0 132 [some (.ref 64), some (.int (nI p)), some (.int (nI o)), some (.int w), some (.int (nI (lsI (sHu s p)))), some (.int (nI (lsI (sHu s o)))), some (.int (ctS (okc F s p o) j)), some (.int (fiC (okc F s p o) j)), some (.int (nI j))] [] (lm_T M1 v G) Q := by
                intro ea
                refine lm_G_sg 1 (pc' := 134) (L' := [some (.ref 64), some (.int (nI p)), some (.int (nI o)), some (.int w), some (.int (nI (lsI (sHu s p)))), some (.int (nI (lsI (sHu s o)))), some (.int (ctS (okc F s p o) j)), some (.int (fiC (okc F s p o) j)), some (.int (nI j))]) (S' := [.int (nI (lsI (sHu s p)))]) (σ' := lm_T M1 v G) rfl trivial ?_
                refine lm_G_br (b := (nI (lsI (sHu s p))) = 0) (t := 160) (S' := []) rfl (fun h7 => ?_) (fun h7 => ?_)
                ·
                  have e0 : sHu s p = -1 := by
                    unfold lsI at h7
                    by_cases w : sHu s p = -1
                    · exact w
                    · rw [if_neg w] at h7; exact absurd h7 (by decide)
                  exact k160 ea (by rw [decide_eq_true e0]; rfl)
                ·
                  have e0 : ¬ sHu s p = -1 := by
                    intro w
                    unfold lsI at h7
                    rw [if_pos w] at h7
                    exact h7 rfl
                  refine lm_G_sg 6 (pc' := 146) (L' := [some (.ref 64), some (.int (nI p)), some (.int (nI o)), some (.int w), some (.int (nI (lsI (sHu s p)))), some (.int (nI (lsI (sHu s o)))), some (.int (ctS (okc F s p o) j)), some (.int (fiC (okc F s p o) j)), some (.int (nI j))]) (S' := [.int ((nI j) ^^^ 2), .int 2, .ref 98]) (σ' := lm_T M1 v G) rfl trivial ?_
                  rw [x2]
                  refine lm_G_sg 1 (pc' := 147) (L' := [some (.ref 64), some (.int (nI p)), some (.int (nI o)), some (.int w), some (.int (nI (lsI (sHu s p)))), some (.int (nI (lsI (sHu s o)))), some (.int (ctS (okc F s p o) j)), some (.int (fiC (okc F s p o) j)), some (.int (nI j))]) (S' := [.int (2 * (nI (xr2 j))), .ref 98]) (σ' := lm_T M1 v G) rfl trivial ?_
                  rw [show 2 * (nI (xr2 j)) = nI (2 * (xr2 j)) from pk_mul 2 (xr2 j)]
                  refine lm_G_sg 1 (pc' := 148) (L' := [some (.ref 64), some (.int (nI p)), some (.int (nI o)), some (.int w), some (.int (nI (lsI (sHu s p)))), some (.int (nI (lsI (sHu s o)))), some (.int (ctS (okc F s p o) j)), some (.int (fiC (okc F s p o) j)), some (.int (nI j))]) (S' := [.int (M1 98 (nI (2 * (xr2 j))).toNatClampNeg)]) (σ' := lm_T M1 v G) rfl ⟨(vp_in_nI (by omega) (by omega)), trivial, trivial⟩ ?_
                  rw [show (nI (2 * (xr2 j))).toNatClampNeg = (2 * (xr2 j)) from nI_clamp (by omega)]
                  rw [(g1 _ x2l).1]
                  refine lm_G_sg 5 (pc' := 156) (L' := [some (.ref 64), some (.int (nI p)), some (.int (nI o)), some (.int w), some (.int (nI (lsI (sHu s p)))), some (.int (nI (lsI (sHu s o)))), some (.int (ctS (okc F s p o) j)), some (.int (fiC (okc F s p o) j)), some (.int (nI j))]) (S' := [.int (2 * (nI j)), .ref 98, .int (gn1 F s p o (xr2 j))]) (σ' := lm_T M1 v G) rfl trivial ?_
                  rw [show 2 * (nI j) = nI (2 * j) from pk_mul 2 j]
                  refine lm_G_sg 1 (pc' := 157) (L' := [some (.ref 64), some (.int (nI p)), some (.int (nI o)), some (.int w), some (.int (nI (lsI (sHu s p)))), some (.int (nI (lsI (sHu s o)))), some (.int (ctS (okc F s p o) j)), some (.int (fiC (okc F s p o) j)), some (.int (nI j))]) (S' := [.int (M1 98 (nI (2 * j)).toNatClampNeg), .int (gn1 F s p o (xr2 j))]) (σ' := lm_T M1 v G) rfl ⟨(vp_in_nI (by omega) (by omega)), trivial, trivial⟩ ?_
                  rw [show (nI (2 * j)).toNatClampNeg = (2 * j) from nI_clamp (by omega)]
                  rw [(g1 _ hj).1]
                  refine lm_G_br (b := (gn1 F s p o j) < (gn1 F s p o (xr2 j))) (t := 223) (S' := []) rfl (fun h8 => ?_) (fun h8 => ?_)
                  ·
                    exact k223 (by rw [ea]; unfold rsS; rw [decide_eq_false e0, decide_eq_false (Int32.not_le.mpr h8)]; rfl)
                  ·
                    exact k160 ea (by rw [decide_eq_true (Int32.not_lt.mp h8), Bool.or_true])
              have k116 : ∀ (e1 : j / 2 = 0 ∨ sHu s p ≠ -1), lm_G X (d + 7) 237 106 0 0 116 [some (.ref 64), some (.int (nI p)), some (.int (nI o)), some (.int w), some (.int (nI (lsI (sHu s p)))), some (.int (nI (lsI (sHu s o)))), some (.int (ctS (okc F s p o) j)), some (.int (fiC (okc F s p o) j)), some (.int (nI j))] [] (lm_T M1 v G) Q := by
                intro e1
                refine lm_G_sg 3 (pc' := 120) (L' := [some (.ref 64), some (.int (nI p)), some (.int (nI o)), some (.int w), some (.int (nI (lsI (sHu s p)))), some (.int (nI (lsI (sHu s o)))), some (.int (ctS (okc F s p o) j)), some (.int (fiC (okc F s p o) j)), some (.int (nI j))]) (S' := [.int ((nI j) - (nI j) / 2 * 2)]) (σ' := lm_T M1 v G) rfl ⟨(by decide), trivial, trivial⟩ ?_
                rw [show (nI j) - (nI j) / 2 * 2 = nI (j % 2) from nI_rem (b := 2) (by omega) (by omega)]
                refine lm_G_sg 1 (pc' := 121) (L' := [some (.ref 64), some (.int (nI p)), some (.int (nI o)), some (.int w), some (.int (nI (lsI (sHu s p)))), some (.int (nI (lsI (sHu s o)))), some (.int (ctS (okc F s p o) j)), some (.int (fiC (okc F s p o) j)), some (.int (nI j))]) (S' := [.int 1, .int (nI (j % 2))]) (σ' := lm_T M1 v G) rfl trivial ?_
                refine lm_G_br (b := ¬ (nI (j % 2)) = 1) (t := 132) (S' := []) rfl (fun h7 => ?_) (fun h7 => ?_)
                ·
                  have d2 : j % 2 = 0 := by
                    have : ¬ j % 2 = 1 := fun w => h7 (by rw [w]; rfl)
                    omega
                  exact k132 (ok_al e1 (Or.inl d2))
                ·
                  have d2 : j % 2 = 1 := (nI_eq (b := 1) (by omega) (by omega)).mp (Classical.not_not.mp h7)
                  refine lm_G_sg 1 (pc' := 126) (L' := [some (.ref 64), some (.int (nI p)), some (.int (nI o)), some (.int w), some (.int (nI (lsI (sHu s p)))), some (.int (nI (lsI (sHu s o)))), some (.int (ctS (okc F s p o) j)), some (.int (fiC (okc F s p o) j)), some (.int (nI j))]) (S' := [.int (nI (lsI (sHu s o)))]) (σ' := lm_T M1 v G) rfl trivial ?_
                  refine lm_G_br (b := ¬ (nI (lsI (sHu s o))) = 0) (t := 132) (S' := []) rfl (fun h8 => ?_) (fun h8 => ?_)
                  ·
                    have e0 : ¬ sHu s o = -1 := by
                      intro w
                      unfold lsI at h8
                      rw [if_pos w] at h8
                      exact h8 rfl
                    exact k132 (ok_al e1 (Or.inr e0))
                  ·
                    replace h8 := Classical.not_not.mp h8
                    have e0 : sHu s o = -1 := by
                      unfold lsI at h8
                      by_cases w : sHu s o = -1
                      · exact w
                      · rw [if_neg w] at h8; exact absurd h8 (by decide)
                    refine lm_G_sg 1 (pc' := 223) (L' := [some (.ref 64), some (.int (nI p)), some (.int (nI o)), some (.int w), some (.int (nI (lsI (sHu s p)))), some (.int (nI (lsI (sHu s o)))), some (.int (ctS (okc F s p o) j)), some (.int (fiC (okc F s p o) j)), some (.int (nI j))]) (S' := []) (σ' := lm_T M1 v G) rfl trivial ?_
                    exact k223 (ok_sk1 e0 d2)
              refine lm_G_sg 3 (pc' := 107) (L' := [some (.ref 64), some (.int (nI p)), some (.int (nI o)), some (.int w), some (.int (nI (lsI (sHu s p)))), some (.int (nI (lsI (sHu s o)))), some (.int (ctS (okc F s p o) j)), some (.int (fiC (okc F s p o) j)), some (.int (nI j))]) (S' := [.int ((nI j) / 2)]) (σ' := lm_T M1 v G) rfl ⟨(by decide), trivial, trivial⟩ ?_
              rw [show (nI j) / 2 = nI (j / 2) from nI_div (b := 2) (by omega) (by omega)]
              refine lm_G_sg 1 (pc' := 108) (L' := [some (.ref 64), some (.int (nI p)), some (.int (nI o)), some (.int w), some (.int (nI (lsI (sHu s p)))), some (.int (nI (lsI (sHu s o)))), some (.int (ctS (okc F s p o) j)), some (.int (fiC (okc F s p o) j)), some (.int (nI j))]) (S' := [.int 1, .int (nI (j / 2))]) (σ' := lm_T M1 v G) rfl trivial ?_
              refine lm_G_br (b := ¬ (nI (j / 2)) = 1) (t := 116) (S' := []) rfl (fun h7 => ?_) (fun h7 => ?_)
              ·
                have d2 : j / 2 = 0 := by
                  have : ¬ j / 2 = 1 := fun w => h7 (by rw [w]; rfl)
                  omega
                exact k116 (Or.inl d2)
              ·
                have d2 : j / 2 = 1 := (nI_eq (b := 1) (by omega) (by omega)).mp (Classical.not_not.mp h7)
                refine lm_G_sg 1 (pc' := 113) (L' := [some (.ref 64), some (.int (nI p)), some (.int (nI o)), some (.int w), some (.int (nI (lsI (sHu s p)))), some (.int (nI (lsI (sHu s o)))), some (.int (ctS (okc F s p o) j)), some (.int (fiC (okc F s p o) j)), some (.int (nI j))]) (S' := [.int (nI (lsI (sHu s p)))]) (σ' := lm_T M1 v G) rfl trivial ?_
                refine lm_G_br (b := (nI (lsI (sHu s p))) = 0) (t := 223) (S' := []) rfl (fun h8 => ?_) (fun h8 => ?_)
                ·
                  have e0 : sHu s p = -1 := by
                    unfold lsI at h8
                    by_cases w : sHu s p = -1
                    · exact w
                    · rw [if_neg w] at h8; exact absurd h8 (by decide)
                  exact k223 (ok_sk2 e0 d2)
                ·
                  have e0 : ¬ sHu s p = -1 := by
                    intro w
                    unfold lsI at h8
                    rw [if_pos w] at h8
                    exact h8 rfl
                  exact k116 (Or.inr e0)
            ·
              replace hI : True := hI
              show lm_G X (d + 7) 237 106 0 0 97 [some (.ref 64), some (.int (nI p)), some (.int (nI o)), some (.int w), some (.int (nI (lsI (sHu s p)))), some (.int (nI (lsI (sHu s o)))), some (.int (ctS (okc F s p o) 4)), some (.int (fiC (okc F s p o) 4)), some (.int (nI 4))] [] (lm_T M1 v G) Q
              refine lm_G_sg 2 (pc' := 100) (L' := [some (.ref 64), some (.int (nI p)), some (.int (nI o)), some (.int w), some (.int (nI (lsI (sHu s p)))), some (.int (nI (lsI (sHu s o)))), some (.int (ctS (okc F s p o) 4)), some (.int (fiC (okc F s p o) 4)), some (.int (nI 4))]) (S' := [.int 4, .int (nI 4)]) (σ' := lm_T M1 v G) rfl trivial ?_
              refine lm_G_br (b := 4 ≤ (nI 4)) (t := 229) (S' := []) rfl (fun hc => ?_) (fun hc => absurd (nI_le (a := 4) (Nat.le_refl _) (by omega)) hc)
              refine lm_G_sg 1 (pc' := 230) (L' := [some (.ref 64), some (.int (nI p)), some (.int (nI o)), some (.int w), some (.int (nI (lsI (sHu s p)))), some (.int (nI (lsI (sHu s o)))), some (.int (ctS (okc F s p o) 4)), some (.int (fiC (okc F s p o) 4)), some (.int (nI 4))]) (S' := [.int w]) (σ' := lm_T M1 v G) rfl trivial ?_
              rcases isP_2 hw with rfl | rfl
              ·
                refine lm_G_br (b := ¬ 0 = 0) (t := 238) (S' := []) rfl (fun hc => absurd rfl hc) (fun hc => ?_)
                refine lm_G_sg 2 (pc' := 240) (L' := [some (.ref 64), some (.int (nI p)), some (.int (nI o)), some (.int 0), some (.int (nI (lsI (sHu s p)))), some (.int (nI (lsI (sHu s o)))), some (.int (ctS (okc F s p o) 4)), some (.int (fiC (okc F s p o) 4)), some (.int (nI 4))]) (S' := [.int (ctS (okc F s p o) 4)]) (σ' := lm_T M1 v G) rfl trivial ?_
                rw [show aGam F s (nI p) (nI o) 0 = .inl (ctS (okc F s p o) 4) from by simp +decide only [aGam, hx, hy, hw, h2, cp, co, if_true, if_false, Bool.and_true, Bool.true_and, Bool.and_self, Bool.false_and, Bool.and_false, Bool.false_eq_true]] at hQ
                exact lm_G_re rfl trivial (Nat.zero_le _) (Nat.zero_le _) (hQ _ t1.1 t1.2.1 t1.2.2.2.1)
              ·
                refine lm_G_br (b := ¬ 1 = 0) (t := 238) (S' := []) rfl (fun hc => ?_) (fun hc => absurd (by decide) hc)
                refine lm_G_sg 1 (pc' := 240) (L' := [some (.ref 64), some (.int (nI p)), some (.int (nI o)), some (.int 1), some (.int (nI (lsI (sHu s p)))), some (.int (nI (lsI (sHu s o)))), some (.int (ctS (okc F s p o) 4)), some (.int (fiC (okc F s p o) 4)), some (.int (nI 4))]) (S' := [.int (fiC (okc F s p o) 4)]) (σ' := lm_T M1 v G) rfl trivial ?_
                rw [show aGam F s (nI p) (nI o) 1 = .inl (fiC (okc F s p o) 4) from by simp +decide only [aGam, hx, hy, hw, h2, cp, co, if_true, if_false, Bool.and_true, Bool.true_and, Bool.and_self, Bool.false_and, Bool.and_false, Bool.false_eq_true]] at hQ
                exact lm_G_re rfl trivial (Nat.zero_le _) (Nat.zero_le _) (hQ _ t1.1 t1.2.1 t1.2.2.2.1)
            ·
              trivial
          refine lm_G_sg 4 (pc' := 54) (L' := [some (.ref 64), some (.int (nI p)), some (.int (nI o)), some (.int w), none, none, none, none, none]) (S' := [.int (M0 82 (nI p).toNatClampNeg)]) (σ' := lm_T M0 v G) rfl ⟨(vp_in_nI (by omega) (by omega)), trivial, trivial⟩ ?_
          rw [show (nI p).toNatClampNeg = p from nI_clamp (by omega)]
          rw [show M0 82 p = sHu s p from h0.hu p (by omega)]
          refine lm_G_sg 1 (pc' := 55) (L' := [some (.ref 64), some (.int (nI p)), some (.int (nI o)), some (.int w), none, none, none, none, none]) (S' := [.int (-1), .int (sHu s p)]) (σ' := lm_T M0 v G) rfl trivial ?_
          refine lm_G_br (b := (sHu s p) = (-1)) (t := 62) (S' := []) rfl (fun h3 => ?_) (fun h3 => ?_)
          ·
            refine lm_G_sg 6 (pc' := 71) (L' := [some (.ref 64), some (.int (nI p)), some (.int (nI o)), some (.int w), some (.int 0), none, none, none, none]) (S' := [.int (M0 82 (nI o).toNatClampNeg)]) (σ' := lm_T M0 v G) rfl ⟨(vp_in_nI (by omega) (by omega)), trivial, trivial⟩ ?_
            rw [show (nI o).toNatClampNeg = o from nI_clamp (by omega)]
            rw [show M0 82 o = sHu s o from h0.hu o (by omega)]
            refine lm_G_sg 1 (pc' := 72) (L' := [some (.ref 64), some (.int (nI p)), some (.int (nI o)), some (.int w), some (.int 0), none, none, none, none]) (S' := [.int (-1), .int (sHu s o)]) (σ' := lm_T M0 v G) rfl trivial ?_
            refine lm_G_br (b := (sHu s o) = (-1)) (t := 79) (S' := []) rfl (fun h4 => ?_) (fun h4 => ?_)
            ·
              refine lm_G_sg 2 (pc' := 82) (L' := [some (.ref 64), some (.int (nI p)), some (.int (nI o)), some (.int w), some (.int 0), some (.int 0), none, none, none]) (S' := []) (σ' := lm_T M0 v G) rfl trivial ?_
              rw [show lsI (sHu s p) = 0 from (if_pos h3), show lsI (sHu s o) = 0 from (if_pos h4)] at k82
              exact k82
            ·
              refine lm_G_sg 3 (pc' := 82) (L' := [some (.ref 64), some (.int (nI p)), some (.int (nI o)), some (.int w), some (.int 0), some (.int 1), none, none, none]) (S' := []) (σ' := lm_T M0 v G) rfl trivial ?_
              rw [show lsI (sHu s p) = 0 from (if_pos h3), show lsI (sHu s o) = 1 from (if_neg h4)] at k82
              exact k82
          ·
            refine lm_G_sg 7 (pc' := 71) (L' := [some (.ref 64), some (.int (nI p)), some (.int (nI o)), some (.int w), some (.int 1), none, none, none, none]) (S' := [.int (M0 82 (nI o).toNatClampNeg)]) (σ' := lm_T M0 v G) rfl ⟨(vp_in_nI (by omega) (by omega)), trivial, trivial⟩ ?_
            rw [show (nI o).toNatClampNeg = o from nI_clamp (by omega)]
            rw [show M0 82 o = sHu s o from h0.hu o (by omega)]
            refine lm_G_sg 1 (pc' := 72) (L' := [some (.ref 64), some (.int (nI p)), some (.int (nI o)), some (.int w), some (.int 1), none, none, none, none]) (S' := [.int (-1), .int (sHu s o)]) (σ' := lm_T M0 v G) rfl trivial ?_
            refine lm_G_br (b := (sHu s o) = (-1)) (t := 79) (S' := []) rfl (fun h4 => ?_) (fun h4 => ?_)
            ·
              refine lm_G_sg 2 (pc' := 82) (L' := [some (.ref 64), some (.int (nI p)), some (.int (nI o)), some (.int w), some (.int 1), some (.int 0), none, none, none]) (S' := []) (σ' := lm_T M0 v G) rfl trivial ?_
              rw [show lsI (sHu s p) = 1 from (if_neg h3), show lsI (sHu s o) = 0 from (if_pos h4)] at k82
              exact k82
            ·
              refine lm_G_sg 3 (pc' := 82) (L' := [some (.ref 64), some (.int (nI p)), some (.int (nI o)), some (.int w), some (.int 1), some (.int 1), none, none, none]) (S' := []) (σ' := lm_T M0 v G) rfl trivial ?_
              rw [show lsI (sHu s p) = 1 from (if_neg h3), show lsI (sHu s o) = 1 from (if_neg h4)] at k82
              exact k82
