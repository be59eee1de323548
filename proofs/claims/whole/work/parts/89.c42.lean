/-! ===== contracts: the model reads the other lines ===== -/
theorem PV_put (v u : Nat) : lm_wp (lm_PV v) 64 3 (some u) = lm_PV u := by
  funext a j
  unfold lm_PV lm_wp va_up
  by_cases ha : a = 64
  · by_cases hj : j = 3
    · simp [ha, hj]
    · simp [ha, hj]
  · simp [ha]
set_option maxRecDepth 10000 in
theorem m_sayTune {X : lm_X} {T : Tx} {D : Dr} (hT : okT T) : ∀ d, ML X T (d + 3) 170 [.ref 64] D (tuL T D) := by
  intro d
  intro v M G Q p hg hp h0 hd hD hok her
  show lm_G X (d + 3) 170 106 0 0 0 [some (.ref 64), none, none] [] (lm_T M v G) Q
  have hn := hT.1
  obtain ⟨g1_, g2_, g3_, g4_, g5_⟩ := e_ge hp
  obtain ⟨l1, l2, l3, l4, l5⟩ := e_le hp
  have hgt : p < e1 T p := en_gt hp h0
  have hN := hD.1
  have hM := hD.2.1
  refine lm_G_sg 3 (pc' := 4) (L' := [some (.ref 64), none, none]) (S' := [.int 6, .int 1, .ref 64]) (σ' := lm_T M v G) rfl trivial ?_
  refine lm_G_ca (j := 168) (as := [.ref 64, .int 1, .int 6]) (rest := []) rfl (Or.inl rfl) (Nat.le_of_ble_eq_true rfl) (Nat.le_of_ble_eq_true rfl) (Nat.le_of_ble_eq_true rfl) (Nat.le_of_ble_eq_true rfl) rfl ?_
  refine m_another1 (n := dM D) hT hp hg (by omega) hd.2.1 ⟨fun e8 M1 g1 f1 => ?_, fun e8 M1 b1 z1 f1 => ?_⟩
  rotate_left
  ·
    show lm_G X (d + 3) 170 106 0 0 7 [some (.ref 64), none, none] [.int 0] (lm_T M1 v G) Q
    refine lm_G_br (b := ¬ 0 = 0) (t := 11) (S' := []) rfl (fun hc => absurd rfl hc) (fun hc => ?_)
    exact lm_G_re rfl trivial (Nat.zero_le _) (Nat.zero_le _) (her _ _ (by unfold tuL; rw [if_pos (by omega)]) _ v b1 z1 f1)
  ·
    show lm_G X (d + 3) 170 106 0 0 7 [some (.ref 64), none, none] [.int 1] (lm_T M1 v G) Q
    have h6 : ¬ 6 ≤ dM D := by omega
    have ep : tuL T D p = nuL T (e1 T p) 0 9 fun a => if isWd T (e2 T p) w3 then nuL T (e3 T p) 0 9999 fun x => if x < dNo D then .inl (e4 T p, adT D a (nI x)) else .inr (3, stS' T (e3 T p)) else .inl (e2 T p, adT D a (-1)) := if_neg h6
    obtain ⟨m, em⟩ : ∃ q, q = dM D := ⟨_, rfl⟩
    rw [← em] at h6 hM e8
    have h66 : M1 68 6 = nI m := by rw [FrK_row f1 (by decide), em]; exact hd.2.1
    have kB : ∀ (N : Nat → Fn) (e9 : Nat) (a9 : Nat) (z9 : ¬ N 64 25 = 0) (b9 : BM N e9 a9) (f9 : FrP M N) (es : tuL T D p = .inr (e9, a9)), lm_G X (d + 3) 170 106 0 0 105 [some (.ref 64), some (.int (nI (6 + m))), none] [] (lm_T N v G) Q := by
      intro N e9 a9 z9 b9 f9 es
      refine lm_G_sg 8 (pc' := 116) (L' := [some (.ref 64), some (.int (nI (6 + m))), none]) (S' := []) (σ' := lm_T (lm_wr N 68 6 ((N 68 6) + 1)) v G) rfl ⟨(lm_inb_ok rfl), trivial, (lm_inb_ok rfl), trivial, trivial⟩ ?_
      exact lm_G_re rfl trivial (Nat.zero_le _) (Nat.zero_le _) (her _ _ es _ v (by exact b9) (by exact z9) (FrP_w68 f9 (by omega)))
    have k105 : ∀ (N : Nat → Fn) (u : Nat) (a : Nat) (o : Int32) (gN : GM N T u) (wa : N 74 = upd (M 74) (6 + m) (nI a)) (wo : N 75 = upd (M 75) (6 + m) o) (oo : ∀ r, r ≠ 64 → r ≠ 74 → r ≠ 75 → N r = M r) (vv : FrP M N) (es : tuL T D p = .inl (u, adT D a o)), lm_G X (d + 3) 170 106 0 0 105 [some (.ref 64), some (.int (nI (6 + m))), none] [] (lm_T N v G) Q := by
      intro N u a o gN wa wo oo vv es
      have hN6 : N 68 6 = nI m := by rw [oo 68 (by decide) (by decide) (by decide), hd.2.1, em]
      refine lm_G_sg 5 (pc' := 113) (L' := [some (.ref 64), some (.int (nI (6 + m))), none]) (S' := [.int (N 68 6), .int 6, .ref 68]) (σ' := lm_T N v G) rfl ⟨(lm_inb_ok rfl), trivial, trivial⟩ ?_
      rw [show N 68 6 = nI m from hN6]
      refine lm_G_sg 2 (pc' := 115) (L' := [some (.ref 64), some (.int (nI (6 + m))), none]) (S' := [.int ((nI m) + 1), .int 6, .ref 68]) (σ' := lm_T N v G) rfl trivial ?_
      rw [show (nI m) + 1 = nI (m + 1) from nI_add m 1]
      refine lm_G_sg 1 (pc' := 116) (L' := [some (.ref 64), some (.int (nI (6 + m))), none]) (S' := []) (σ' := lm_T (lm_wr N 68 6 (nI (m + 1))) v G) rfl ⟨(lm_inb_ok rfl), trivial, trivial⟩ ?_
      exact lm_G_re rfl trivial (Nat.zero_le _) (Nat.zero_le _) (hok _ _ es _ v (GM_w gN (by decide) (by decide)) (by
        obtain ⟨q1, q2, q3, q4, q5, q6, q7, q8, q9, q10, q11, q12⟩ := hd
        have ro : ∀ r, r ≠ 64 → r ≠ 74 → r ≠ 75 → N r = M r := oo
        have r68 : N 68 = M 68 := ro 68 (by decide) (by decide) (by decide)
        refine ⟨?_, ?_, ?_, ?_, ?_, ?_, ?_, ?_, ?_, ?_, ?_, ?_⟩
        · show N 68 5 = _
          rw [r68]; exact q1
        · show nI (m + 1) = nI (dM D + 1)
          rw [em]
        · show N 68 7 = _
          rw [r68]; exact q3
        · show upH (N 70) (dNo D) 8 _
          rw [ro 70 (by decide) (by decide) (by decide)]; exact q4
        · show upH (N 71) (dNo D) 8 _
          rw [ro 71 (by decide) (by decide) (by decide)]; exact q5
        · show upH (N 72) (dNo D) 8 _
          rw [ro 72 (by decide) (by decide) (by decide)]; exact q6
        · show upH (N 73) (dNo D) 8 _
          rw [ro 73 (by decide) (by decide) (by decide)]; exact q7
        · show upH (N 69) (dNo D) 8 _
          rw [ro 69 (by decide) (by decide) (by decide)]; exact q8
        · show upH (N 74) (dM D + 1) 6 _
          rw [wa, em]; exact up_ad q9 _
        · show upH (N 75) (dM D + 1) 6 _
          rw [wo, em]; exact up_ad q10 _
        · show N 68 8 = _ ∧ ∀ i, i < (dR0 D).length → N 76 (700 + i) = _
          rw [r68, ro 76 (by decide) (by decide) (by decide)]; exact q11
        · show N 68 9 = _ ∧ ∀ i, i < (dR1 D).length → N 77 (700 + i) = _
          rw [r68, ro 77 (by decide) (by decide) (by decide)]; exact q12) (FrP_w68 vv (by omega)))
    refine lm_G_br (b := ¬ 1 = 0) (t := 11) (S' := []) rfl (fun hc => ?_) (fun hc => absurd (Classical.not_not.mp hc) (by decide))
    refine lm_G_sg 5 (pc' := 20) (L' := [some (.ref 64), none, none]) (S' := [.int (M1 68 6), .int 6]) (σ' := lm_T M1 v G) rfl ⟨(lm_inb_ok rfl), trivial, trivial⟩ ?_
    rw [show M1 68 6 = nI m from h66]
    refine lm_G_sg 1 (pc' := 21) (L' := [some (.ref 64), none, none]) (S' := [.int (6 + (nI m))]) (σ' := lm_T M1 v G) rfl trivial ?_
    rw [show 6 + (nI m) = nI (6 + m) from nI_add 6 m]
    refine lm_G_sg 1 (pc' := 22) (L' := [some (.ref 64), some (.int (nI (6 + m))), none]) (S' := []) (σ' := lm_T M1 v G) rfl trivial ?_
    refine lm_G_sg 6 (pc' := 31) (L' := [some (.ref 64), some (.int (nI (6 + m))), none]) (S' := [.int 9, .int 0, .ref 64, .int (nI (6 + m)), .ref 74]) (σ' := lm_T M1 v G) rfl trivial ?_
    refine lm_G_ca (j := 160) (as := [.ref 64, .int 0, .int 9]) (rest := [.int (nI (6 + m)), .ref 74]) rfl (Or.inl rfl) (Nat.le_of_ble_eq_true rfl) (Nat.le_of_ble_eq_true rfl) (Nat.le_of_ble_eq_true rfl) (Nat.le_of_ble_eq_true rfl) rfl ?_
    refine m_readNumber (p := e1 T p) (lo := 0) (hi := 9) hT l1 g1 (by omega) (by omega) ⟨fun x2 er2 M2 g2 f2 => ?_, fun f2_ er2 M2 b2 z2 f2 => ?_⟩
    rotate_left
    ·
      show lm_G X (d + 3) 170 106 0 0 34 [some (.ref 64), some (.int (nI (6 + m))), none] [.int 0, .int (nI (6 + m)), .ref 74] (lm_T M2 v G) Q
      refine lm_G_sg 1 (pc' := 35) (L' := [some (.ref 64), some (.int (nI (6 + m))), none]) (S' := []) (σ' := lm_T (lm_wr M2 74 ((nI (6 + m)).toNatClampNeg) 0) v G) rfl ⟨(vp_in_nI (by omega) (by omega)), trivial, trivial⟩ ?_
      rw [show (nI (6 + m)).toNatClampNeg = (6 + m) from nI_clamp (by omega)]
      refine lm_G_sg 5 (pc' := 42) (L' := [some (.ref 64), some (.int (nI (6 + m))), none]) (S' := []) (σ' := lm_T (lm_wr (lm_wr M2 74 (6 + m) 0) 75 ((nI (6 + m)).toNatClampNeg) (-1)) v G) rfl ⟨(vp_in_nI (by omega) (by omega)), trivial, trivial⟩ ?_
      rw [show (nI (6 + m)).toNatClampNeg = (6 + m) from nI_clamp (by omega)]
      refine lm_G_sg 2 (pc' := 46) (L' := [some (.ref 64), some (.int (nI (6 + m))), none]) (S' := [.ref 1003, .ref 64]) (σ' := lm_T (lm_wr (lm_wr M2 74 (6 + m) 0) 75 (6 + m) (-1)) v G) rfl trivial ?_
      have zb : ¬ (lm_wr (lm_wr M2 74 (6 + m) 0) 75 (6 + m) (-1)) 64 25 = 0 := z2
      have bb : BM (lm_wr (lm_wr M2 74 (6 + m) 0) 75 (6 + m) (-1)) f2_ (stS' T (e1 T p)) := b2
      have fb : FrP M (lm_wr (lm_wr M2 74 (6 + m) 0) 75 (6 + m) (-1)) := FrP_wr (FrP_wr (FrP_tr (FrP_K f1) f2) (by omega)) (by omega)
      revert zb bb fb
      generalize lm_wr (lm_wr M2 74 (6 + m) 0) 75 (6 + m) (-1) = B1
      intro zb bb fb
      refine lm_G_ca (j := 155) (as := [.ref 64, .ref 1003]) (rest := []) rfl (Or.inl rfl) (Nat.le_of_ble_eq_true rfl) (Nat.le_of_ble_eq_true rfl) (Nat.le_of_ble_eq_true rfl) (Nat.le_of_ble_eq_true rfl) rfl ?_
      refine m_isB3 zb ?_
      show lm_G X (d + 3) 170 106 0 0 49 [some (.ref 64), some (.int (nI (6 + m))), none] [.int 0] (lm_T B1 v G) Q
      refine lm_G_br (b := 0 = 0) (t := 105) (S' := []) rfl (fun hc => ?_) (fun hc => absurd rfl hc)
      exact kB _ _ _ zb bb fb (by rw [ep, nuL_f er2])
    ·
      show lm_G X (d + 3) 170 106 0 0 34 [some (.ref 64), some (.int (nI (6 + m))), none] [.int (nI x2), .int (nI (6 + m)), .ref 74] (lm_T M2 v G) Q
      rw [nuL_x er2] at ep
      refine lm_G_sg 1 (pc' := 35) (L' := [some (.ref 64), some (.int (nI (6 + m))), none]) (S' := []) (σ' := lm_T (lm_wr M2 74 ((nI (6 + m)).toNatClampNeg) (nI x2)) v G) rfl ⟨(vp_in_nI (by omega) (by omega)), trivial, trivial⟩ ?_
      rw [show (nI (6 + m)).toNatClampNeg = (6 + m) from nI_clamp (by omega)]
      refine lm_G_sg 5 (pc' := 42) (L' := [some (.ref 64), some (.int (nI (6 + m))), none]) (S' := []) (σ' := lm_T (lm_wr (lm_wr M2 74 (6 + m) (nI x2)) 75 ((nI (6 + m)).toNatClampNeg) (-1)) v G) rfl ⟨(vp_in_nI (by omega) (by omega)), trivial, trivial⟩ ?_
      rw [show (nI (6 + m)).toNatClampNeg = (6 + m) from nI_clamp (by omega)]
      refine lm_G_sg 2 (pc' := 46) (L' := [some (.ref 64), some (.int (nI (6 + m))), none]) (S' := [.ref 1003, .ref 64]) (σ' := lm_T (lm_wr (lm_wr M2 74 (6 + m) (nI x2)) 75 (6 + m) (-1)) v G) rfl trivial ?_
      have u1 : GM (lm_wr (lm_wr M2 74 (6 + m) (nI x2)) 75 (6 + m) (-1)) T (e2 T p) := GM_w (GM_w g2 (by decide) (by decide)) (by decide) (by decide)
      have v1 : FrP M (lm_wr (lm_wr M2 74 (6 + m) (nI x2)) 75 (6 + m) (-1)) := FrP_wr (FrP_wr (FrP_tr (FrP_K f1) (FrP_K f2)) (by omega)) (by omega)
      have wa : (lm_wr (lm_wr M2 74 (6 + m) (nI x2)) 75 (6 + m) (-1)) 74 = upd (M 74) (6 + m) (nI x2) := by show upd (M2 74) (6 + m) _ = _; rw [FrK_row f2 (by decide), FrK_row f1 (by decide)]
      have wo : (lm_wr (lm_wr M2 74 (6 + m) (nI x2)) 75 (6 + m) (-1)) 75 = upd (M 75) (6 + m) (-1) := by show upd (M2 75) (6 + m) _ = _; rw [FrK_row f2 (by decide), FrK_row f1 (by decide)]
      have o1 : ∀ r, r ≠ 64 → r ≠ 74 → r ≠ 75 → (lm_wr (lm_wr M2 74 (6 + m) (nI x2)) 75 (6 + m) (-1)) r = M r := fun r h1 h2 h3 => by rw [wr_row h3, wr_row h2]; exact (FrK_row f2 h1).trans (FrK_row f1 h1)
      revert u1 v1 wa wo o1
      generalize lm_wr (lm_wr M2 74 (6 + m) (nI x2)) 75 (6 + m) (-1) = N1
      intro u1 v1 wa wo o1
      refine lm_G_ca (j := 155) (as := [.ref 64, .ref 1003]) (rest := []) rfl (Or.inl rfl) (Nat.le_of_ble_eq_true rfl) (Nat.le_of_ble_eq_true rfl) (Nat.le_of_ble_eq_true rfl) (Nat.le_of_ble_eq_true rfl) rfl ?_
      refine m_is3 hT l2 u1 ?_
      show lm_G X (d + 3) 170 106 0 0 49 [some (.ref 64), some (.int (nI (6 + m))), none] [.int (b2i (isWd T (e2 T p) w3))] (lm_T N1 v G) Q
      refine lm_G_br (b := (b2i (isWd T (e2 T p) w3)) = 0) (t := 105) (S' := []) rfl (fun g3 => ?_) (fun g3 => ?_)
      ·
        exact k105 _ _ x2 (-1) u1 wa wo o1 v1 (by rw [ep, if_neg (by rw [b2i_0 g3]; decide)])
      ·
        rw [if_pos (b2i_1 g3)] at ep
        refine lm_G_sg 1 (pc' := 53) (L' := [some (.ref 64), some (.int (nI (6 + m))), none]) (S' := [.ref 64]) (σ' := lm_T N1 v G) rfl trivial ?_
        refine lm_G_ca (j := 153) (as := [.ref 64]) (rest := []) rfl (Or.inl rfl) (Nat.le_of_ble_eq_true rfl) (Nat.le_of_ble_eq_true rfl) (Nat.le_of_ble_eq_true rfl) (Nat.le_of_ble_eq_true rfl) rfl ?_
        refine m_stepOn (p := e3 T p) hT u1.1.1 l3 u1.1.2.2.2.2.1 (fun M3 r3 f3 => ?_)
        show lm_G X (d + 3) 170 106 0 0 56 [some (.ref 64), some (.int (nI (6 + m))), none] [] (lm_T M3 v G) Q
        have g3_ : GM M3 T (e3 T p) := ⟨r3, (f3.2 25 (by decide) (by decide) (by decide) (by decide) (by decide)).trans u1.2⟩
        have h35 : M3 68 5 = nI (dNo D) := by rw [FrK_row f3 (by decide), o1 68 (by decide) (by decide) (by decide)]; exact hd.1
        refine lm_G_sg 3 (pc' := 61) (L' := [some (.ref 64), some (.int (nI (6 + m))), none]) (S' := [.int 9999, .int 0, .ref 64]) (σ' := lm_T M3 v G) rfl trivial ?_
        refine lm_G_ca (j := 159) (as := [.ref 64, .int 0, .int 9999]) (rest := []) rfl (Or.inl rfl) (Nat.le_of_ble_eq_true rfl) (Nat.le_of_ble_eq_true rfl) (Nat.le_of_ble_eq_true rfl) (Nat.le_of_ble_eq_true rfl) rfl ?_
        refine m_numNow (p := e3 T p) (lo := 0) (hi := 9999) hT l3 g3_ (by omega) (by omega) (fun x er => ?_) (fun f er M4 b4 f4 => ?_)
        rotate_left
        ·
          show lm_G X (d + 3) 170 106 0 0 64 [some (.ref 64), some (.int (nI (6 + m))), none] [.int 0] (lm_T M4 v G) Q
          have z4 : ¬ M4 64 25 = 0 := BM_nz b4 (by have := rdN_nz er; omega) (by have := rdN_nz er; omega)
          refine lm_G_sg 3 (pc' := 69) (L' := [some (.ref 64), some (.int (nI (6 + m))), some (.int 0)]) (S' := [.int (M4 64 25)]) (σ' := lm_T M4 v G) rfl trivial ?_
          refine lm_G_br (b := ¬ (M4 64 25) = 0) (t := 87) (S' := []) rfl (fun hc => ?_) (fun hc => absurd (Classical.not_not.mp hc) z4)
          refine lm_G_sg 2 (pc' := 91) (L' := [some (.ref 64), some (.int (nI (6 + m))), some (.int 0)]) (S' := [.int (M4 64 25)]) (σ' := lm_T M4 v G) rfl trivial ?_
          refine lm_G_br (b := ¬ (M4 64 25) = 0) (t := 98) (S' := []) rfl (fun hc => ?_) (fun hc => absurd (Classical.not_not.mp hc) z4)
          refine lm_G_sg 5 (pc' := 105) (L' := [some (.ref 64), some (.int (nI (6 + m))), some (.int 0)]) (S' := []) (σ' := lm_T (lm_wr M4 75 ((nI (6 + m)).toNatClampNeg) 0) v G) rfl ⟨(vp_in_nI (by omega) (by omega)), trivial, trivial⟩ ?_
          rw [show (nI (6 + m)).toNatClampNeg = (6 + m) from nI_clamp (by omega)]
          refine lm_G_jk (L := [some (.ref 64), some (.int (nI (6 + m))), none]) ⟨rfl, rfl, trivial⟩ ?_
          exact kB _ _ _ (by exact z4) (by exact b4) (FrP_wr (FrP_tr (FrP_tr v1 (FrP_K f3)) f4) (by omega)) (by rw [ep, nuL_f er])
        ·
          show lm_G X (d + 3) 170 106 0 0 64 [some (.ref 64), some (.int (nI (6 + m))), none] [.int (nI x)] (lm_T M3 v G) Q
          obtain ⟨y1, y2, _⟩ := rdN_b er
          rw [nuL_x er] at ep
          refine lm_G_sg 3 (pc' := 69) (L' := [some (.ref 64), some (.int (nI (6 + m))), some (.int (nI x))]) (S' := [.int (M3 64 25)]) (σ' := lm_T M3 v G) rfl trivial ?_
          rw [show M3 64 25 = 0 from g3_.2]
          refine lm_G_br (b := ¬ 0 = 0) (t := 87) (S' := []) rfl (fun hc => absurd rfl hc) (fun hc => ?_)
          refine lm_G_sg 5 (pc' := 79) (L' := [some (.ref 64), some (.int (nI (6 + m))), some (.int (nI x))]) (S' := [.int (M3 68 5), .int (nI x)]) (σ' := lm_T M3 v G) rfl ⟨(lm_inb_ok rfl), trivial, trivial⟩ ?_
          rw [show M3 68 5 = nI (dNo D) from h35]
          refine lm_G_br (b := (nI x) < (nI (dNo D))) (t := 87) (S' := []) rfl (fun g5 => ?_) (fun g5 => ?_)
          ·
            have hx : x < dNo D := (nI_ltI (by omega) (by omega)).mp g5
            rw [if_pos hx] at ep
            refine lm_G_sg 2 (pc' := 91) (L' := [some (.ref 64), some (.int (nI (6 + m))), some (.int (nI x))]) (S' := [.int (M3 64 25)]) (σ' := lm_T M3 v G) rfl trivial ?_
            rw [show M3 64 25 = 0 from g3_.2]
            refine lm_G_br (b := ¬ 0 = 0) (t := 98) (S' := []) rfl (fun hc => absurd rfl hc) (fun hc => ?_)
            refine lm_G_sg 1 (pc' := 95) (L' := [some (.ref 64), some (.int (nI (6 + m))), some (.int (nI x))]) (S' := [.ref 64]) (σ' := lm_T M3 v G) rfl trivial ?_
            refine lm_G_ca (j := 153) (as := [.ref 64]) (rest := []) rfl (Or.inl rfl) (Nat.le_of_ble_eq_true rfl) (Nat.le_of_ble_eq_true rfl) (Nat.le_of_ble_eq_true rfl) (Nat.le_of_ble_eq_true rfl) rfl ?_
            refine m_stepOn (p := e4 T p) hT g3_.1.1 l4 g3_.1.2.2.2.2.1 (fun M4 r4 f4 => ?_)
            show lm_G X (d + 3) 170 106 0 0 98 [some (.ref 64), some (.int (nI (6 + m))), some (.int (nI x))] [] (lm_T M4 v G) Q
            refine lm_G_sg 5 (pc' := 105) (L' := [some (.ref 64), some (.int (nI (6 + m))), some (.int (nI x))]) (S' := []) (σ' := lm_T (lm_wr M4 75 ((nI (6 + m)).toNatClampNeg) (nI x)) v G) rfl ⟨(vp_in_nI (by omega) (by omega)), trivial, trivial⟩ ?_
            rw [show (nI (6 + m)).toNatClampNeg = (6 + m) from nI_clamp (by omega)]
            refine lm_G_jk (L := [some (.ref 64), some (.int (nI (6 + m))), none]) ⟨rfl, rfl, trivial⟩ ?_
            exact k105 _ _ x2 (nI x) (GM_w ⟨r4, (f4.2 25 (by decide) (by decide) (by decide) (by decide) (by decide)).trans g3_.2⟩ (by decide) (by decide)) (by show M4 74 = _; rw [FrK_row f4 (by decide), FrK_row f3 (by decide)]; exact wa) (by show upd (M4 75) (6 + m) (nI x) = _; rw [FrK_row f4 (by decide), FrK_row f3 (by decide), wo]; exact upd_upd) (fun r h1 h2 h3 => by rw [wr_row h3]; exact (FrK_row f4 h1).trans ((FrK_row f3 h1).trans (o1 r h1 h2 h3))) (FrP_wr (FrP_tr (FrP_tr v1 (FrP_K f3)) (FrP_K f4)) (by omega)) ep
          ·
            have hx : ¬ x < dNo D := fun w => g5 (nI_lt w (by omega))
            rw [if_neg hx] at ep
            refine lm_G_sg 2 (pc' := 84) (L' := [some (.ref 64), some (.int (nI (6 + m))), some (.int (nI x))]) (S' := [.int 3, .ref 64]) (σ' := lm_T M3 v G) rfl trivial ?_
            refine lm_G_ca (j := 154) (as := [.ref 64, .int 3]) (rest := []) rfl (Or.inl rfl) (Nat.le_of_ble_eq_true rfl) (Nat.le_of_ble_eq_true rfl) (Nat.le_of_ble_eq_true rfl) (Nat.le_of_ble_eq_true rfl) rfl ?_
            refine m_wrong g3_.2 ?_
            show lm_G X (d + 3) 170 106 0 0 87 [some (.ref 64), some (.int (nI (6 + m))), some (.int (nI x))] [] (lm_T (lm_wr (lm_wr M3 64 25 3) 64 26 (M3 64 23)) v G) Q
            have z4 : ¬ (lm_wr (lm_wr M3 64 25 3) 64 26 (M3 64 23)) 64 25 = 0 := wr_nz (by decide)
            refine lm_G_sg 2 (pc' := 91) (L' := [some (.ref 64), some (.int (nI (6 + m))), some (.int (nI x))]) (S' := [.int 3]) (σ' := lm_T (lm_wr (lm_wr M3 64 25 3) 64 26 (M3 64 23)) v G) rfl trivial ?_
            refine lm_G_br (b := ¬ 3 = 0) (t := 98) (S' := []) rfl (fun hc => ?_) (fun hc => absurd (Classical.not_not.mp hc) z4)
            refine lm_G_sg 5 (pc' := 105) (L' := [some (.ref 64), some (.int (nI (6 + m))), some (.int (nI x))]) (S' := []) (σ' := lm_T (lm_wr (lm_wr (lm_wr M3 64 25 3) 64 26 (M3 64 23)) 75 ((nI (6 + m)).toNatClampNeg) (nI x)) v G) rfl ⟨(vp_in_nI (by omega) (by omega)), trivial, trivial⟩ ?_
            rw [show (nI (6 + m)).toNatClampNeg = (6 + m) from nI_clamp (by omega)]
            refine lm_G_jk (L := [some (.ref 64), some (.int (nI (6 + m))), none]) ⟨rfl, rfl, trivial⟩ ?_
            exact kB _ 3 _ (by exact z4) ⟨rfl, g3_.1.2.2.1⟩ (FrP_wr (FrP_w64 (FrP_w64 (FrP_tr v1 (FrP_K f3)) (by decide)) (by decide)) (by omega)) ep
set_option maxRecDepth 10000 in
theorem m_sayOnce1 {X : lm_X} {T : Tx} {D : Dr} (hT : okT T) : ∀ d, ML X T (d + 3) 171 [.ref 64, .int 1] D (fun p => nuL T (e1 T p) 0 30 fun x => .inl (e2 T p, adE D x)) := by
  intro d
  intro v M G Q p hg hp h0 hd hD hok her
  show lm_G X (d + 3) 171 106 0 0 0 [some (.ref 64), some (.int 1)] [] (lm_T M v G) Q
  have hn := hT.1
  obtain ⟨g1_, g2_, g3_, g4_, g5_⟩ := e_ge hp
  obtain ⟨l1, l2, l3, l4, l5⟩ := e_le hp
  have hgt : p < e1 T p := en_gt hp h0
  have hN := hD.1
  have hM := hD.2.1
  refine lm_G_sg 1 (pc' := 1) (L' := [some (.ref 64), some (.int 1)]) (S' := [.ref 64]) (σ' := lm_T M v G) rfl trivial ?_
  refine lm_G_ca (j := 153) (as := [.ref 64]) (rest := []) rfl (Or.inl rfl) (Nat.le_of_ble_eq_true rfl) (Nat.le_of_ble_eq_true rfl) (Nat.le_of_ble_eq_true rfl) (Nat.le_of_ble_eq_true rfl) rfl ?_
  refine m_stepOn (p := e1 T p) hT hg.1.1 l1 hg.1.2.2.2.2.1 (fun M1 r1 f1 => ?_)
  show lm_G X (d + 3) 171 106 0 0 4 [some (.ref 64), some (.int 1)] [] (lm_T M1 v G) Q
  have g1 : GM M1 T (e1 T p) := ⟨r1, (f1.2 25 (by decide) (by decide) (by decide) (by decide) (by decide)).trans hg.2⟩
  refine lm_G_sg 2 (pc' := 6) (L' := [some (.ref 64), some (.int 1)]) (S' := [.int 1, .int 1]) (σ' := lm_T M1 v G) rfl trivial ?_
  refine lm_G_br (b := ¬ 1 = 1) (t := 24) (S' := []) rfl (fun hc => absurd rfl hc) (fun hc => ?_)
  refine lm_G_sg 6 (pc' := 19) (L' := [some (.ref 64), some (.int 1)]) (S' := [.int 30, .int 0, .ref 64, .int 7, .ref 68]) (σ' := lm_T M1 v G) rfl trivial ?_
  refine lm_G_ca (j := 160) (as := [.ref 64, .int 0, .int 30]) (rest := [.int 7, .ref 68]) rfl (Or.inl rfl) (Nat.le_of_ble_eq_true rfl) (Nat.le_of_ble_eq_true rfl) (Nat.le_of_ble_eq_true rfl) (Nat.le_of_ble_eq_true rfl) rfl ?_
  refine m_readNumber (p := e1 T p) (lo := 0) (hi := 30) hT l1 g1 (by omega) (by omega) ⟨fun x2 er2 M2 g2 f2 => ?_, fun f2_ er2 M2 b2 z2 f2 => ?_⟩
  ·
    show lm_G X (d + 3) 171 106 0 0 22 [some (.ref 64), some (.int 1)] [.int (nI x2), .int 7, .ref 68] (lm_T M2 v G) Q
    refine lm_G_sg 1 (pc' := 23) (L' := [some (.ref 64), some (.int 1)]) (S' := []) (σ' := lm_T (lm_wr M2 68 7 (nI x2)) v G) rfl ⟨(lm_inb_ok rfl), trivial, trivial⟩ ?_
    exact lm_G_re rfl trivial (Nat.zero_le _) (Nat.zero_le _) (hok _ _ (nuL_x er2) _ v (GM_w g2 (by decide) (by decide)) (by
      obtain ⟨q1, q2, q3, q4, q5, q6, q7, q8, q9, q10, q11, q12⟩ := hd
      have ro : ∀ r, r ≠ 64 → M2 r = M r := fun r h1 => (FrK_row f2 h1).trans (FrK_row f1 h1)
      have r68 : M2 68 = M 68 := ro 68 (by decide)
      refine ⟨?_, ?_, rfl, ?_, ?_, ?_, ?_, ?_, ?_, ?_, ?_, ?_⟩
      · show M2 68 5 = _
        rw [r68]; exact q1
      · show M2 68 6 = _
        rw [r68]; exact q2
      · show upH (M2 70) (dNo D) 8 _
        rw [ro 70 (by decide)]; exact q4
      · show upH (M2 71) (dNo D) 8 _
        rw [ro 71 (by decide)]; exact q5
      · show upH (M2 72) (dNo D) 8 _
        rw [ro 72 (by decide)]; exact q6
      · show upH (M2 73) (dNo D) 8 _
        rw [ro 73 (by decide)]; exact q7
      · show upH (M2 69) (dNo D) 8 _
        rw [ro 69 (by decide)]; exact q8
      · show upH (M2 74) (dM D) 6 _
        rw [ro 74 (by decide)]; exact q9
      · show upH (M2 75) (dM D) 6 _
        rw [ro 75 (by decide)]; exact q10
      · show M2 68 8 = _ ∧ ∀ i, i < (dR0 D).length → M2 76 (700 + i) = _
        rw [r68, ro 76 (by decide)]; exact q11
      · show M2 68 9 = _ ∧ ∀ i, i < (dR1 D).length → M2 77 (700 + i) = _
        rw [r68, ro 77 (by decide)]; exact q12) (FrP_w68 (FrP_tr (FrP_K f1) (FrP_K f2)) (by omega)))
  ·
    show lm_G X (d + 3) 171 106 0 0 22 [some (.ref 64), some (.int 1)] [.int 0, .int 7, .ref 68] (lm_T M2 v G) Q
    refine lm_G_sg 1 (pc' := 23) (L' := [some (.ref 64), some (.int 1)]) (S' := []) (σ' := lm_T (lm_wr M2 68 7 0) v G) rfl ⟨(lm_inb_ok rfl), trivial, trivial⟩ ?_
    exact lm_G_re rfl trivial (Nat.zero_le _) (Nat.zero_le _) (her _ _ (nuL_f er2) _ v (by exact b2) (by exact z2) (FrP_w68 (FrP_tr (FrP_K f1) f2) (by omega)))
set_option maxRecDepth 10000 in
theorem m_sayOnce2 {X : lm_X} {T : Tx} {D : Dr} (hT : okT T) (hz : dRJ D false = []) : ∀ d, ML X T (d + 42) 171 [.ref 64, .int 2] D (fun p => match pE T false 5 (e1 T p) with
    | .inl (r, c) => .inl (r, adR D false c)
    | .inr e => .inr e) := by
  intro d
  intro v M G Q p hg hp h0 hd hD hok her
  show lm_G X (d + 42) 171 106 0 0 0 [some (.ref 64), some (.int 2)] [] (lm_T M v G) Q
  have hn := hT.1
  obtain ⟨g1_, g2_, g3_, g4_, g5_⟩ := e_ge hp
  obtain ⟨l1, l2, l3, l4, l5⟩ := e_le hp
  have hgt : p < e1 T p := en_gt hp h0
  have hN := hD.1
  have hM := hD.2.1
  refine lm_G_sg 1 (pc' := 1) (L' := [some (.ref 64), some (.int 2)]) (S' := [.ref 64]) (σ' := lm_T M v G) rfl trivial ?_
  refine lm_G_ca (j := 153) (as := [.ref 64]) (rest := []) rfl (Or.inl rfl) (Nat.le_of_ble_eq_true rfl) (Nat.le_of_ble_eq_true rfl) (Nat.le_of_ble_eq_true rfl) (Nat.le_of_ble_eq_true rfl) rfl ?_
  refine m_stepOn (p := e1 T p) hT hg.1.1 l1 hg.1.2.2.2.2.1 (fun M1 r1 f1 => ?_)
  show lm_G X (d + 42) 171 106 0 0 4 [some (.ref 64), some (.int 2)] [] (lm_T M1 v G) Q
  have g1 : GM M1 T (e1 T p) := ⟨r1, (f1.2 25 (by decide) (by decide) (by decide) (by decide) (by decide)).trans hg.2⟩
  refine lm_G_sg 2 (pc' := 6) (L' := [some (.ref 64), some (.int 2)]) (S' := [.int 1, .int 2]) (σ' := lm_T M1 v G) rfl trivial ?_
  refine lm_G_br (b := ¬ 2 = 1) (t := 24) (S' := []) rfl (fun hc => ?_) (fun hc => absurd (Classical.not_not.mp hc) (by decide))
  refine lm_G_sg 3 (pc' := 27) (L' := [some (.ref 64), some (.int 2)]) (S' := [.int 4, .int 2, .ref 64]) (σ' := lm_T M1 v G) rfl trivial ?_
  refine lm_G_br (b := ¬ 2 = 4) (t := 34) (S' := [.ref 64]) rfl (fun hc => ?_) (fun hc => absurd (Classical.not_not.mp hc) (by decide))
  refine lm_G_sg 5 (pc' := 43) (L' := [some (.ref 64), some (.int 2)]) (S' := [.int 0, .ref 64]) (σ' := lm_T (lm_wr M1 64 28 0) v G) rfl ⟨(by decide), trivial, trivial⟩ ?_
  refine lm_G_br (b := 0 = 0) (t := 53) (S' := [.ref 64]) rfl (fun hc => ?_) (fun hc => absurd rfl hc)
  refine lm_G_sg 2 (pc' := 57) (L' := [some (.ref 64), some (.int 2)]) (S' := [.ref 66, .ref 64]) (σ' := lm_T (lm_wr M1 64 28 0) v G) rfl trivial ?_
  refine lm_G_sg 1 (pc' := 60) (L' := [some (.ref 64), some (.int 2)]) (S' := []) (σ' := (lm_wr M1 64 28 0, lm_wp (lm_PV v) 64 3 (some 66), G, 106)) rfl ⟨trivial, trivial, trivial⟩ ?_
  rw [PV_put]
  show lm_G X (d + 42) 171 106 0 0 60 [some (.ref 64), some (.int 2)] [] (lm_T (lm_wr M1 64 28 0) 66 G) Q
  refine lm_G_sg 2 (pc' := 62) (L' := [some (.ref 64), some (.int 2)]) (S' := [.int 0, .ref 64]) (σ' := lm_T (lm_wr M1 64 28 0) 66 G) rfl trivial ?_
  have u1 : GM (lm_wr M1 64 28 0) T (e1 T p) := g1
  have v1 : FrP M (lm_wr M1 64 28 0) := FrP_w64 (FrP_K f1) (by decide)
  have h28 : (lm_wr M1 64 28 0) 64 28 = b2i false := rfl
  have o1 : ∀ r, r ≠ 64 → (lm_wr M1 64 28 0) r = M r := fun r h1 => by rw [wr_row h1]; exact FrK_row f1 h1
  revert u1 v1 h28 o1
  generalize lm_wr M1 64 28 0 = N1
  intro u1 v1 h28 o1
  have hx := m_expr (X := X) (J := false) hT 6 (Nat.le_refl _) d
  rw [show nI (6 - 6) = 0 from nI_0] at hx
  have hc1 : MCode N1 false [] := by
    have q : MCode M false (dR0 D) := hd.2.2.2.2.2.2.2.2.2.2.1
    rw [show dR0 D = [] from hz] at q
    unfold MCode at q ⊢
    rw [o1 68 (by decide), o1 (rwJ false) rwJ_64.1]
    exact q
  have em : mE T false (6 - 6) = pE T false 5 := by funext p; exact if_neg (by decide)
  rw [em] at hx
  refine lm_G_ca (j := 167) (as := [.ref 64, .int 0]) (rest := []) rfl (Or.inl rfl) (Nat.le_of_ble_eq_true rfl) (Nat.le_of_ble_eq_true rfl) (Nat.le_of_ble_eq_true rfl) (Nat.le_of_ble_eq_true rfl) rfl ?_
  refine hx.1 N1 G _ (e1 T p) [] u1 l1 h28 hc1 (Nat.zero_le _) (fun r c er M2 g2 k2 f2 => ?_) (fun e a er M2 b2 z2 f2 => ?_)
  ·
    show lm_G X (d + 42) 171 106 0 0 65 [some (.ref 64), some (.int 2)] [] (lm_T M2 66 G) Q
    exact lm_G_re rfl trivial (Nat.zero_le _) (Nat.zero_le _) (hok r (adR D false c) (by simp only [er]) _ 66 g2 (by
      obtain ⟨q1, q2, q3, q4, q5, q6, q7, q8, q9, q10, q11, q12⟩ := hd
      have ro : ∀ r, r ≠ 64 → r ≠ 68 → r ≠ 76 → M2 r = M r := fun r h1 h2 h3 => (f2.1 r h1 h2 h3).trans (o1 r h1)
      have r68 : ∀ k, k ≠ 8 → M2 68 k = M 68 k := fun k hk => (f2.2.2.1 k hk).trans (by rw [o1 68 (by decide)])
      have rc : MCode M2 false c := k2
      have rx : M2 77 = M 77 := ro 77 (by decide) (by decide) (by decide)
      refine ⟨(r68 5 (by decide)).trans q1, (r68 6 (by decide)).trans q2, (r68 7 (by decide)).trans q3, ?_, ?_, ?_, ?_, ?_, ?_, ?_, ?_, ?_⟩
      · show upH (M2 70) (dNo D) 8 _
        rw [ro 70 (by decide) (by decide) (by decide)]; exact q4
      · show upH (M2 71) (dNo D) 8 _
        rw [ro 71 (by decide) (by decide) (by decide)]; exact q5
      · show upH (M2 72) (dNo D) 8 _
        rw [ro 72 (by decide) (by decide) (by decide)]; exact q6
      · show upH (M2 73) (dNo D) 8 _
        rw [ro 73 (by decide) (by decide) (by decide)]; exact q7
      · show upH (M2 69) (dNo D) 8 _
        rw [ro 69 (by decide) (by decide) (by decide)]; exact q8
      · show upH (M2 74) (dM D) 6 _
        rw [ro 74 (by decide) (by decide) (by decide)]; exact q9
      · show upH (M2 75) (dM D) 6 _
        rw [ro 75 (by decide) (by decide) (by decide)]; exact q10
      · exact rc
      · exact ⟨(r68 9 (by decide)).trans q12.1, fun i hi => by show M2 77 (700 + i) = _; rw [rx]; exact q12.2 i hi⟩) (FrP_tr v1 (FrP_J f2)))
  ·
    show lm_G X (d + 42) 171 106 0 0 65 [some (.ref 64), some (.int 2)] [] (lm_T M2 66 G) Q
    exact lm_G_re rfl trivial (Nat.zero_le _) (Nat.zero_le _) (her _ _ (by simp only [er]) _ 66 b2 z2 (FrP_tr v1 f2))
set_option maxRecDepth 10000 in
theorem m_sayOnce4 {X : lm_X} {T : Tx} {D : Dr} (hT : okT T) (hz : dRJ D true = []) : ∀ d, ML X T (d + 42) 171 [.ref 64, .int 4] D (fun p => match pE T true 5 (e1 T p) with
    | .inl (r, c) => .inl (r, adR D true c)
    | .inr e => .inr e) := by
  intro d
  intro v M G Q p hg hp h0 hd hD hok her
  show lm_G X (d + 42) 171 106 0 0 0 [some (.ref 64), some (.int 4)] [] (lm_T M v G) Q
  have hn := hT.1
  obtain ⟨g1_, g2_, g3_, g4_, g5_⟩ := e_ge hp
  obtain ⟨l1, l2, l3, l4, l5⟩ := e_le hp
  have hgt : p < e1 T p := en_gt hp h0
  have hN := hD.1
  have hM := hD.2.1
  refine lm_G_sg 1 (pc' := 1) (L' := [some (.ref 64), some (.int 4)]) (S' := [.ref 64]) (σ' := lm_T M v G) rfl trivial ?_
  refine lm_G_ca (j := 153) (as := [.ref 64]) (rest := []) rfl (Or.inl rfl) (Nat.le_of_ble_eq_true rfl) (Nat.le_of_ble_eq_true rfl) (Nat.le_of_ble_eq_true rfl) (Nat.le_of_ble_eq_true rfl) rfl ?_
  refine m_stepOn (p := e1 T p) hT hg.1.1 l1 hg.1.2.2.2.2.1 (fun M1 r1 f1 => ?_)
  show lm_G X (d + 42) 171 106 0 0 4 [some (.ref 64), some (.int 4)] [] (lm_T M1 v G) Q
  have g1 : GM M1 T (e1 T p) := ⟨r1, (f1.2 25 (by decide) (by decide) (by decide) (by decide) (by decide)).trans hg.2⟩
  refine lm_G_sg 2 (pc' := 6) (L' := [some (.ref 64), some (.int 4)]) (S' := [.int 1, .int 4]) (σ' := lm_T M1 v G) rfl trivial ?_
  refine lm_G_br (b := ¬ 4 = 1) (t := 24) (S' := []) rfl (fun hc => ?_) (fun hc => absurd (Classical.not_not.mp hc) (by decide))
  refine lm_G_sg 3 (pc' := 27) (L' := [some (.ref 64), some (.int 4)]) (S' := [.int 4, .int 4, .ref 64]) (σ' := lm_T M1 v G) rfl trivial ?_
  refine lm_G_br (b := ¬ 4 = 4) (t := 34) (S' := [.ref 64]) rfl (fun hc => absurd rfl hc) (fun hc => ?_)
  refine lm_G_sg 6 (pc' := 43) (L' := [some (.ref 64), some (.int 4)]) (S' := [.int 1, .ref 64]) (σ' := lm_T (lm_wr M1 64 28 1) v G) rfl ⟨(by decide), trivial, trivial⟩ ?_
  refine lm_G_br (b := 1 = 0) (t := 53) (S' := [.ref 64]) rfl (fun hc => absurd hc (by decide)) (fun hc => ?_)
  refine lm_G_sg 3 (pc' := 57) (L' := [some (.ref 64), some (.int 4)]) (S' := [.ref 67, .ref 64]) (σ' := lm_T (lm_wr M1 64 28 1) v G) rfl trivial ?_
  refine lm_G_sg 1 (pc' := 60) (L' := [some (.ref 64), some (.int 4)]) (S' := []) (σ' := (lm_wr M1 64 28 1, lm_wp (lm_PV v) 64 3 (some 67), G, 106)) rfl ⟨trivial, trivial, trivial⟩ ?_
  rw [PV_put]
  show lm_G X (d + 42) 171 106 0 0 60 [some (.ref 64), some (.int 4)] [] (lm_T (lm_wr M1 64 28 1) 67 G) Q
  refine lm_G_sg 2 (pc' := 62) (L' := [some (.ref 64), some (.int 4)]) (S' := [.int 0, .ref 64]) (σ' := lm_T (lm_wr M1 64 28 1) 67 G) rfl trivial ?_
  have u1 : GM (lm_wr M1 64 28 1) T (e1 T p) := g1
  have v1 : FrP M (lm_wr M1 64 28 1) := FrP_w64 (FrP_K f1) (by decide)
  have h28 : (lm_wr M1 64 28 1) 64 28 = b2i true := rfl
  have o1 : ∀ r, r ≠ 64 → (lm_wr M1 64 28 1) r = M r := fun r h1 => by rw [wr_row h1]; exact FrK_row f1 h1
  revert u1 v1 h28 o1
  generalize lm_wr M1 64 28 1 = N1
  intro u1 v1 h28 o1
  have hx := m_expr (X := X) (J := true) hT 6 (Nat.le_refl _) d
  rw [show nI (6 - 6) = 0 from nI_0] at hx
  have hc1 : MCode N1 true [] := by
    have q : MCode M true (dR1 D) := hd.2.2.2.2.2.2.2.2.2.2.2
    rw [show dR1 D = [] from hz] at q
    unfold MCode at q ⊢
    rw [o1 68 (by decide), o1 (rwJ true) rwJ_64.1]
    exact q
  have em : mE T true (6 - 6) = pE T true 5 := by funext p; exact if_neg (by decide)
  rw [em] at hx
  refine lm_G_ca (j := 167) (as := [.ref 64, .int 0]) (rest := []) rfl (Or.inl rfl) (Nat.le_of_ble_eq_true rfl) (Nat.le_of_ble_eq_true rfl) (Nat.le_of_ble_eq_true rfl) (Nat.le_of_ble_eq_true rfl) rfl ?_
  refine hx.1 N1 G _ (e1 T p) [] u1 l1 h28 hc1 (Nat.zero_le _) (fun r c er M2 g2 k2 f2 => ?_) (fun e a er M2 b2 z2 f2 => ?_)
  ·
    show lm_G X (d + 42) 171 106 0 0 65 [some (.ref 64), some (.int 4)] [] (lm_T M2 67 G) Q
    exact lm_G_re rfl trivial (Nat.zero_le _) (Nat.zero_le _) (hok r (adR D true c) (by simp only [er]) _ 67 g2 (by
      obtain ⟨q1, q2, q3, q4, q5, q6, q7, q8, q9, q10, q11, q12⟩ := hd
      have ro : ∀ r, r ≠ 64 → r ≠ 68 → r ≠ 77 → M2 r = M r := fun r h1 h2 h3 => (f2.1 r h1 h2 h3).trans (o1 r h1)
      have r68 : ∀ k, k ≠ 9 → M2 68 k = M 68 k := fun k hk => (f2.2.2.1 k hk).trans (by rw [o1 68 (by decide)])
      have rc : MCode M2 true c := k2
      have rx : M2 76 = M 76 := ro 76 (by decide) (by decide) (by decide)
      refine ⟨(r68 5 (by decide)).trans q1, (r68 6 (by decide)).trans q2, (r68 7 (by decide)).trans q3, ?_, ?_, ?_, ?_, ?_, ?_, ?_, ?_, ?_⟩
      · show upH (M2 70) (dNo D) 8 _
        rw [ro 70 (by decide) (by decide) (by decide)]; exact q4
      · show upH (M2 71) (dNo D) 8 _
        rw [ro 71 (by decide) (by decide) (by decide)]; exact q5
      · show upH (M2 72) (dNo D) 8 _
        rw [ro 72 (by decide) (by decide) (by decide)]; exact q6
      · show upH (M2 73) (dNo D) 8 _
        rw [ro 73 (by decide) (by decide) (by decide)]; exact q7
      · show upH (M2 69) (dNo D) 8 _
        rw [ro 69 (by decide) (by decide) (by decide)]; exact q8
      · show upH (M2 74) (dM D) 6 _
        rw [ro 74 (by decide) (by decide) (by decide)]; exact q9
      · show upH (M2 75) (dM D) 6 _
        rw [ro 75 (by decide) (by decide) (by decide)]; exact q10
      · exact ⟨(r68 8 (by decide)).trans q11.1, fun i hi => by show M2 76 (700 + i) = _; rw [rx]; exact q11.2 i hi⟩
      · exact rc) (FrP_tr v1 (FrP_J f2)))
  ·
    show lm_G X (d + 42) 171 106 0 0 65 [some (.ref 64), some (.int 4)] [] (lm_T M2 67 G) Q
    exact lm_G_re rfl trivial (Nat.zero_le _) (Nat.zero_le _) (her _ _ (by simp only [er]) _ 67 b2 z2 (FrP_tr v1 f2))
