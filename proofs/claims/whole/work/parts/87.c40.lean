/-! ===== contracts: the class reads rules, lines, a text ===== -/
theorem gDr {l m : Cd} {i : Nat} : (l ++ m).getD (l.length + i) (0, 0) = m.getD i (0, 0) := by
  rw [List.getD_eq_getElem?_getD, List.getElem?_append_right (by omega), ← List.getD_eq_getElem?_getD, Nat.add_sub_cancel_left]
theorem RU_add {M M1 : Nat → Fn} {i : Nat} {R K c : Cd} (h : RUc M i R K) (e1 : M1 12 i = M 12 i) (e2 : M1 13 i = M 13 i) : RUc M1 i R (K ++ c) := by
  obtain ⟨a, h1, h2, h3, h4⟩ := h
  refine ⟨a, by rw [List.length_append]; omega, e1.trans h2, e2.trans h3, fun k hk => ?_⟩
  rw [gDc (by omega)]
  exact h4 k hk
theorem RU_new {M : Nat → Fn} {i : Nat} {K c : Cd} (h1 : M 12 i = nI K.length) (h2 : M 13 i = nI (K ++ c).length) : RUc M i c (K ++ c) :=
  ⟨K.length, Nat.le_of_eq List.length_append.symm, h1, by rw [h2, List.length_append], fun _ _ => gDr⟩
set_option maxRecDepth 10000 in
theorem c_hasRule3_false {X : lm_X} {d v : Nat} {M : Nat → Nat → Int32} {G : Nat → Nat → Int64} {Q : lm_O → lm_S → Prop} {Rl K : Cd} (hr : RUc M 0 Rl K) (hK : K.length ≤ 700) (hQ : Q (.inl (some (.int (b2i (decide (Rl ≠ [])))))) (lm_T M v G)) : lm_Q X d 13 [.ref 3, .int 0] (lm_T M v G) Q := by
  show lm_G X d 13 106 0 0 0 [some (.ref 3), some (.int 0)] [] (lm_T M v G) Q
  obtain ⟨a, h1, h2, h3, h4⟩ := hr
  refine lm_G_sg 4 (pc' := 6) (L' := [some (.ref 3), some (.int 0)]) (S' := [.int (M 13 0)]) (σ' := lm_T M v G) rfl ⟨(lm_inb_ok rfl), trivial, trivial⟩ ?_
  rw [show M 13 0 = nI (a + Rl.length) from h3]
  refine lm_G_sg 4 (pc' := 12) (L' := [some (.ref 3), some (.int 0)]) (S' := [.int (M 12 0), .int (nI (a + Rl.length))]) (σ' := lm_T M v G) rfl ⟨(lm_inb_ok rfl), trivial, trivial⟩ ?_
  rw [show M 12 0 = nI a from h2]
  refine lm_G_br (b := (nI (a + Rl.length)) ≤ (nI a)) (t := 19) (S' := []) rfl (fun g0 => ?_) (fun g0 => ?_)
  ·
    have hz : Rl = [] := List.eq_nil_of_length_eq_zero (by have := (nI_leI (by omega) (by omega)).mp g0; omega)
    rw [show decide (Rl ≠ []) = false from decide_eq_false (fun q => q hz)] at hQ
    refine lm_G_sg 1 (pc' := 20) (L' := [some (.ref 3), some (.int 0)]) (S' := [.int 0]) (σ' := lm_T M v G) rfl trivial ?_
    exact lm_G_re rfl (by decide) (Nat.zero_le _) (Nat.zero_le _) hQ
  ·
    have hz : Rl ≠ [] := fun q => g0 (by rw [q]; exact nI_le (Nat.le_refl _) (by omega))
    rw [show decide (Rl ≠ []) = true from decide_eq_true hz] at hQ
    refine lm_G_sg 2 (pc' := 20) (L' := [some (.ref 3), some (.int 0)]) (S' := [.int 1]) (σ' := lm_T M v G) rfl trivial ?_
    exact lm_G_re rfl (by decide) (Nat.zero_le _) (Nat.zero_le _) hQ
set_option maxRecDepth 10000 in
theorem c_readRule_false {X : lm_X} {T : Tx} (hT : okT T) : ∀ d, CL X T (d + 44) 40 [.ref 1, .int 0] (lnP T (ruL T false)) := by
  intro d
  intro v M G Q p D K ht hp h0 hd hD hkl hok her
  show lm_G X (d + 44) 40 106 0 0 0 [some (.ref 1), some (.int 0)] [] (lm_T M v G) Q
  have hn := hT.1
  obtain ⟨g1_, g2_, g3_, g4_, g5_⟩ := e_ge hp
  obtain ⟨l1, l2, l3, l4, l5⟩ := e_le hp
  have hgt : p < e1 T p := en_gt hp h0
  have hN := hD.1
  have hM := hD.2.1
  refine lm_G_sg 3 (pc' := 5) (L' := [some (.ref 1), some (.int 0)]) (S' := [.int 0, .ref 3]) (σ' := lm_T M v G) rfl trivial ?_
  refine lm_G_ca (j := 13) (as := [.ref 3, .int 0]) (rest := []) rfl (Or.inl rfl) (Nat.le_of_ble_eq_true rfl) (Nat.le_of_ble_eq_true rfl) (Nat.le_of_ble_eq_true rfl) (Nat.le_of_ble_eq_true rfl) rfl ?_
  refine c_hasRule3_false (Rl := dR0 D) hd.2.2.2.2.2.2.2.2.2.2.2.2.1 (by omega) ?_
  show lm_G X (d + 44) 40 106 0 0 8 [some (.ref 1), some (.int 0)] [.int (b2i (decide (dR0 D ≠ [])))] (lm_T M v G) Q
  refine lm_G_br (b := (b2i (decide (dR0 D ≠ []))) = 0) (t := 17) (S' := []) rfl (fun g0 => ?_) (fun g0 => ?_)
  rotate_left
  ·
    refine lm_G_sg 2 (pc' := 13) (L' := [some (.ref 1), some (.int 0)]) (S' := [.int 5, .ref 1]) (σ' := lm_T M v G) rfl trivial ?_
    refine lm_G_ca (j := 25) (as := [.ref 1, .int 5]) (rest := []) rfl (Or.inl rfl) (Nat.le_of_ble_eq_true rfl) (Nat.le_of_ble_eq_true rfl) (Nat.le_of_ble_eq_true rfl) (Nat.le_of_ble_eq_true rfl) rfl ?_
    refine c_fail ?_
    show lm_G X (d + 44) 40 106 0 0 16 [some (.ref 1), some (.int 0)] [.int 0] (lm_T (lm_wr (lm_wr M 1 10 5) 1 11 (M 1 7)) v G) Q
    exact lm_G_re rfl (by decide) (Nat.zero_le _) (Nat.zero_le _) (her _ _ (by unfold lnP ruL; rw [if_pos (of_decide_eq_true (b2i_1 g0) : dRJ D false ≠ [])]; rfl) _ ⟨rfl, ht.2.2.1⟩ (FrV_w1 (FrV_w1 (FrV_rf _) (by omega)) (by omega)))
  ·
    have hz : ¬ dRJ D false ≠ [] := (of_decide_eq_false (b2i_0 g0) : ¬ dR0 D ≠ [])
    have ep : ruL T false D p = (match pE T false 5 (e1 T p) with
        | .inl (r, c) => .inl (r, adR D false c)
        | .inr e => .inr e) := if_neg hz
    refine lm_G_sg 1 (pc' := 18) (L' := [some (.ref 1), some (.int 0)]) (S' := [.ref 1]) (σ' := lm_T M v G) rfl trivial ?_
    refine lm_G_ca (j := 26) (as := [.ref 1]) (rest := []) rfl (Or.inl rfl) (Nat.le_of_ble_eq_true rfl) (Nat.le_of_ble_eq_true rfl) (Nat.le_of_ble_eq_true rfl) (Nat.le_of_ble_eq_true rfl) rfl ?_
    refine c_nextToken (p := e1 T p) hT ht.1 l1 ht.2.2.2.1 (fun M1 t1 f1 => ?_)
    show lm_G X (d + 44) 40 106 0 0 21 [some (.ref 1), some (.int 0)] [] (lm_T M1 v G) Q
    have hk1 : M1 3 11 = nI K.length := by rw [FrR_r f1 (by decide)]; exact hd.2.2.2.2.2.2.2.2.2.2.2.1.1
    refine lm_G_sg 10 (pc' := 41) (L' := [some (.ref 1), some (.int 0)]) (S' := [.int (M1 3 11), .int 0, .ref 12]) (σ' := lm_T (lm_wr M1 1 5 0) v G) rfl ⟨trivial, trivial, trivial⟩ ?_
    rw [show M1 3 11 = nI K.length from hk1]
    refine lm_G_sg 4 (pc' := 45) (L' := [some (.ref 1), some (.int 0)]) (S' := [.int 0, .int 0, .ref 1]) (σ' := lm_T (lm_wr (lm_wr M1 1 5 0) 12 0 (nI K.length)) v G) rfl ⟨(lm_inb_ok rfl), trivial, trivial⟩ ?_
    have u1 : RT (lm_wr (lm_wr M1 1 5 0) 12 0 (nI K.length)) T (e1 T p) := RT_w (a := 12) (M := lm_wr M1 1 5 0) t1 (by decide) (by decide)
    have v1 : FrV M (lm_wr (lm_wr M1 1 5 0) 12 0 (nI K.length)) := FrV_wr (FrV_w1 (FrV_R f1) (by omega)) rfl (by decide)
    have o1 : ∀ r, 2 ≤ r → r ≠ 12 → (lm_wr (lm_wr M1 1 5 0) 12 0 (nI K.length)) r = M r := fun r h1 h2 => by rw [wr_row h2, wr_row (by omega)]; exact FrR_r f1 h1
    have w1 : (lm_wr (lm_wr M1 1 5 0) 12 0 (nI K.length)) 12 = upd (M 12) 0 (nI K.length) := by show upd (M1 12) 0 _ = _; rw [FrR_r f1 (by decide)]
    have h15 : (lm_wr (lm_wr M1 1 5 0) 12 0 (nI K.length)) 1 5 = b2i false := rfl
    have z1 : ∀ k, k = 4 ∨ k = 11 → (lm_wr (lm_wr M1 1 5 0) 12 0 (nI K.length)) 1 k = M 1 k := fun k hk => by rw [wr_row (by decide), wr_at (by omega)]; exact f1.2 k (by omega) (by omega) (by omega) (by omega)
    revert u1 v1 o1 w1 h15 z1
    generalize lm_wr (lm_wr M1 1 5 0) 12 0 (nI K.length) = N1
    intro u1 v1 o1 w1 h15 z1
    have hx := c_expr (X := X) (J := false) hT 5 (Nat.le_refl _) d
    rw [show nI (5 - 5) = 0 from nI_0] at hx
    have hc1 : CCode N1 K := by unfold CCode; rw [o1 3 (by decide) (by decide), o1 11 (by decide) (by decide)]; exact hd.2.2.2.2.2.2.2.2.2.2.2.1
    refine lm_G_ca (j := 41) (as := [.ref 1, .int 0, .int 0]) (rest := []) rfl (Or.inl rfl) (Nat.le_of_ble_eq_true rfl) (Nat.le_of_ble_eq_true rfl) (Nat.le_of_ble_eq_true rfl) (Nat.le_of_ble_eq_true rfl) rfl ?_
    refine hx v N1 G _ (e1 T p) K u1 l1 h15 hc1 (by omega) (fun r c er M2 t2 k2 e2 => ?_) (fun e a er M2 b2 e2 => ?_)
    rotate_left
    ·
      show lm_G X (d + 44) 40 106 0 0 48 [some (.ref 1), some (.int 0)] [.int 0] (lm_T M2 v G) Q
      refine lm_G_br (b := ¬ 0 = 0) (t := 53) (S' := []) rfl (fun hc => absurd rfl hc) (fun hc => ?_)
      refine lm_G_sg 1 (pc' := 52) (L' := [some (.ref 1), some (.int 0)]) (S' := [.int 0]) (σ' := lm_T M2 v G) rfl trivial ?_
      exact lm_G_re rfl (by decide) (Nat.zero_le _) (Nat.zero_le _) (her _ _ (by unfold lnP; rw [ep, er]; rfl) _ b2 (FrV_tr v1 (FrV_Ex e2)))
    ·
      show lm_G X (d + 44) 40 106 0 0 48 [some (.ref 1), some (.int 0)] [.int 1] (lm_T M2 v G) Q
      obtain ⟨p1, p2, p3⟩ := okL_pE 5 _ _ _ l1 er
      rw [er] at ep
      simp only [] at ep
      refine lm_G_br (b := ¬ 1 = 0) (t := 53) (S' := []) rfl (fun hc => ?_) (fun hc => absurd (Classical.not_not.mp hc) (by decide))
      refine lm_G_sg 7 (pc' := 68) (L' := [some (.ref 1), some (.int 0)]) (S' := [.int (M2 3 11), .int 0, .ref 13]) (σ' := lm_T M2 v G) rfl trivial ?_
      rw [show M2 3 11 = nI (K ++ c).length from k2.1]
      refine lm_G_sg 3 (pc' := 72) (L' := [some (.ref 1), some (.int 0)]) (S' := [.int 59, .ref 1]) (σ' := lm_T (lm_wr M2 13 0 (nI (K ++ c).length)) v G) rfl ⟨(lm_inb_ok rfl), trivial, trivial⟩ ?_
      have u6 : RT (lm_wr M2 13 0 (nI (K ++ c).length)) T r := RT_w t2 (by decide) (by decide)
      have v6 : FrV M (lm_wr M2 13 0 (nI (K ++ c).length)) := FrV_wr (FrV_tr v1 (FrV_E e2)) rfl (by decide)
      have y6 : (lm_wr M2 13 0 (nI (K ++ c).length)) 1 11 = M 1 11 := (e2.2.1 11 (Or.inr rfl)).trans (z1 11 (Or.inr rfl))
      have d6 : DC (lm_wr M2 13 0 (nI (K ++ c).length)) (adR D false c) (K ++ c) := by
        obtain ⟨q1, q2, q3, q4, q5, q6, q7, q8, q9, q10, q11, q12, q13, q14⟩ := hd
        have ro : ∀ r, 4 ≤ r → r ≠ 11 → r ≠ 12 → M2 r = M r := fun r h1 h2 h3 => (e2.1 r (by unfold frE; rw [decide_eq_false_iff_not]; omega)).trans (o1 r (by omega) h3)
        have r3 : ∀ k, k ≠ 11 → M2 3 k = M 3 k := fun k hk => (e2.2.2 k hk).trans (by rw [o1 3 (by decide) (by decide)])
        have r12 : M2 12 = upd (M 12) 0 (nI K.length) := (e2.1 12 rfl).trans w1
        refine ⟨(r3 0 (by decide)).trans q1, (r3 6 (by decide)).trans q2, (r3 9 (by decide)).trans q3, (e2.2.1 4 (by omega)).trans ((z1 4 (Or.inl rfl)).trans q4), ?_, ?_, ?_, ?_, ?_, ?_, ?_, k2, ?_, ?_⟩
        · show Ag (dNo D) (M2 4) _
          rw [ro 4 (by decide) (by decide) (by decide)]; exact q5
        · show Ag (dNo D) (M2 5) _
          rw [ro 5 (by decide) (by decide) (by decide)]; exact q6
        · show Ag (dNo D) (M2 6) _
          rw [ro 6 (by decide) (by decide) (by decide)]; exact q7
        · show Ag (dNo D) (M2 7) _
          rw [ro 7 (by decide) (by decide) (by decide)]; exact q8
        · show Ag (dNo D) (M2 8) _
          rw [ro 8 (by decide) (by decide) (by decide)]; exact q9
        · show Ag (dM D) (M2 9) _
          rw [ro 9 (by decide) (by decide) (by decide)]; exact q10
        · show Ag (dM D) (M2 10) _
          rw [ro 10 (by decide) (by decide) (by decide)]; exact q11
        · refine RU_new (c := c) ?_ ?_
          · show M2 12 0 = _
            rw [r12]; exact pk_us
          · exact wr_same
        · refine RU_add q14 ?_ ?_
          · show M2 12 1 = _
            rw [r12]; exact pk_un (by decide)
          · rw [wr_at (by decide), ro 13 (by decide) (by decide) (by decide)]
      revert u6 v6 y6 d6
      generalize lm_wr M2 13 0 (nI (K ++ c).length) = N6
      intro u6 v6 y6 d6
      refine lm_G_ca (j := 34) (as := [.ref 1, .int 59]) (rest := []) rfl (Or.inl rfl) (Nat.le_of_ble_eq_true rfl) (Nat.le_of_ble_eq_true rfl) (Nat.le_of_ble_eq_true rfl) (Nat.le_of_ble_eq_true rfl) rfl ?_
      refine c_readSign (c := 59) hT u6 p2 (by omega) ⟨fun s9 M9 t9 f9 => ?_, fun s9 M9 b9 f9 => ?_⟩
      ·
        show lm_G X (d + 44) 40 106 0 0 75 [some (.ref 1), some (.int 0)] [.int 1] (lm_T M9 v G) Q
        exact lm_G_re rfl (by decide) (Nat.zero_le _) (Nat.zero_le _) (hok _ _ (by unfold lnP; rw [ep]; simp only [seL]; rw [if_pos s9]) _ (K ++ c) t9 (DC_R d6 f9) (Nat.le_trans (by rw [List.length_append]; omega : (K ++ c).length ≤ r) (Nat.le_trans (st_le p2).1 (en_le p2).1)) (FrV_tr v6 (FrV_R f9)) ((f9.2 11 (by decide) (by decide) (by decide) (by decide)).trans y6))
      ·
        show lm_G X (d + 44) 40 106 0 0 75 [some (.ref 1), some (.int 0)] [.int 0] (lm_T M9 v G) Q
        exact lm_G_re rfl (by decide) (Nat.zero_le _) (Nat.zero_le _) (her _ _ (by unfold lnP; rw [ep]; simp only [seL]; rw [if_neg (by rw [s9]; decide)]) _ b9 (FrV_tr v6 f9))
set_option maxRecDepth 10000 in
theorem c_hasRule3_true {X : lm_X} {d v : Nat} {M : Nat → Nat → Int32} {G : Nat → Nat → Int64} {Q : lm_O → lm_S → Prop} {Rl K : Cd} (hr : RUc M 1 Rl K) (hK : K.length ≤ 700) (hQ : Q (.inl (some (.int (b2i (decide (Rl ≠ [])))))) (lm_T M v G)) : lm_Q X d 13 [.ref 3, .int 1] (lm_T M v G) Q := by
  show lm_G X d 13 106 0 0 0 [some (.ref 3), some (.int 1)] [] (lm_T M v G) Q
  obtain ⟨a, h1, h2, h3, h4⟩ := hr
  refine lm_G_sg 4 (pc' := 6) (L' := [some (.ref 3), some (.int 1)]) (S' := [.int (M 13 1)]) (σ' := lm_T M v G) rfl ⟨(lm_inb_ok rfl), trivial, trivial⟩ ?_
  rw [show M 13 1 = nI (a + Rl.length) from h3]
  refine lm_G_sg 4 (pc' := 12) (L' := [some (.ref 3), some (.int 1)]) (S' := [.int (M 12 1), .int (nI (a + Rl.length))]) (σ' := lm_T M v G) rfl ⟨(lm_inb_ok rfl), trivial, trivial⟩ ?_
  rw [show M 12 1 = nI a from h2]
  refine lm_G_br (b := (nI (a + Rl.length)) ≤ (nI a)) (t := 19) (S' := []) rfl (fun g0 => ?_) (fun g0 => ?_)
  ·
    have hz : Rl = [] := List.eq_nil_of_length_eq_zero (by have := (nI_leI (by omega) (by omega)).mp g0; omega)
    rw [show decide (Rl ≠ []) = false from decide_eq_false (fun q => q hz)] at hQ
    refine lm_G_sg 1 (pc' := 20) (L' := [some (.ref 3), some (.int 1)]) (S' := [.int 0]) (σ' := lm_T M v G) rfl trivial ?_
    exact lm_G_re rfl (by decide) (Nat.zero_le _) (Nat.zero_le _) hQ
  ·
    have hz : Rl ≠ [] := fun q => g0 (by rw [q]; exact nI_le (Nat.le_refl _) (by omega))
    rw [show decide (Rl ≠ []) = true from decide_eq_true hz] at hQ
    refine lm_G_sg 2 (pc' := 20) (L' := [some (.ref 3), some (.int 1)]) (S' := [.int 1]) (σ' := lm_T M v G) rfl trivial ?_
    exact lm_G_re rfl (by decide) (Nat.zero_le _) (Nat.zero_le _) hQ
set_option maxRecDepth 10000 in
theorem c_readRule_true {X : lm_X} {T : Tx} (hT : okT T) : ∀ d, CL X T (d + 44) 40 [.ref 1, .int 1] (lnP T (ruL T true)) := by
  intro d
  intro v M G Q p D K ht hp h0 hd hD hkl hok her
  show lm_G X (d + 44) 40 106 0 0 0 [some (.ref 1), some (.int 1)] [] (lm_T M v G) Q
  have hn := hT.1
  obtain ⟨g1_, g2_, g3_, g4_, g5_⟩ := e_ge hp
  obtain ⟨l1, l2, l3, l4, l5⟩ := e_le hp
  have hgt : p < e1 T p := en_gt hp h0
  have hN := hD.1
  have hM := hD.2.1
  refine lm_G_sg 3 (pc' := 5) (L' := [some (.ref 1), some (.int 1)]) (S' := [.int 1, .ref 3]) (σ' := lm_T M v G) rfl trivial ?_
  refine lm_G_ca (j := 13) (as := [.ref 3, .int 1]) (rest := []) rfl (Or.inl rfl) (Nat.le_of_ble_eq_true rfl) (Nat.le_of_ble_eq_true rfl) (Nat.le_of_ble_eq_true rfl) (Nat.le_of_ble_eq_true rfl) rfl ?_
  refine c_hasRule3_true (Rl := dR1 D) hd.2.2.2.2.2.2.2.2.2.2.2.2.2 (by omega) ?_
  show lm_G X (d + 44) 40 106 0 0 8 [some (.ref 1), some (.int 1)] [.int (b2i (decide (dR1 D ≠ [])))] (lm_T M v G) Q
  refine lm_G_br (b := (b2i (decide (dR1 D ≠ []))) = 0) (t := 17) (S' := []) rfl (fun g0 => ?_) (fun g0 => ?_)
  rotate_left
  ·
    refine lm_G_sg 2 (pc' := 13) (L' := [some (.ref 1), some (.int 1)]) (S' := [.int 5, .ref 1]) (σ' := lm_T M v G) rfl trivial ?_
    refine lm_G_ca (j := 25) (as := [.ref 1, .int 5]) (rest := []) rfl (Or.inl rfl) (Nat.le_of_ble_eq_true rfl) (Nat.le_of_ble_eq_true rfl) (Nat.le_of_ble_eq_true rfl) (Nat.le_of_ble_eq_true rfl) rfl ?_
    refine c_fail ?_
    show lm_G X (d + 44) 40 106 0 0 16 [some (.ref 1), some (.int 1)] [.int 0] (lm_T (lm_wr (lm_wr M 1 10 5) 1 11 (M 1 7)) v G) Q
    exact lm_G_re rfl (by decide) (Nat.zero_le _) (Nat.zero_le _) (her _ _ (by unfold lnP ruL; rw [if_pos (of_decide_eq_true (b2i_1 g0) : dRJ D true ≠ [])]; rfl) _ ⟨rfl, ht.2.2.1⟩ (FrV_w1 (FrV_w1 (FrV_rf _) (by omega)) (by omega)))
  ·
    have hz : ¬ dRJ D true ≠ [] := (of_decide_eq_false (b2i_0 g0) : ¬ dR1 D ≠ [])
    have ep : ruL T true D p = (match pE T true 5 (e1 T p) with
        | .inl (r, c) => .inl (r, adR D true c)
        | .inr e => .inr e) := if_neg hz
    refine lm_G_sg 1 (pc' := 18) (L' := [some (.ref 1), some (.int 1)]) (S' := [.ref 1]) (σ' := lm_T M v G) rfl trivial ?_
    refine lm_G_ca (j := 26) (as := [.ref 1]) (rest := []) rfl (Or.inl rfl) (Nat.le_of_ble_eq_true rfl) (Nat.le_of_ble_eq_true rfl) (Nat.le_of_ble_eq_true rfl) (Nat.le_of_ble_eq_true rfl) rfl ?_
    refine c_nextToken (p := e1 T p) hT ht.1 l1 ht.2.2.2.1 (fun M1 t1 f1 => ?_)
    show lm_G X (d + 44) 40 106 0 0 21 [some (.ref 1), some (.int 1)] [] (lm_T M1 v G) Q
    have hk1 : M1 3 11 = nI K.length := by rw [FrR_r f1 (by decide)]; exact hd.2.2.2.2.2.2.2.2.2.2.2.1.1
    refine lm_G_sg 10 (pc' := 41) (L' := [some (.ref 1), some (.int 1)]) (S' := [.int (M1 3 11), .int 1, .ref 12]) (σ' := lm_T (lm_wr M1 1 5 1) v G) rfl ⟨trivial, trivial, trivial⟩ ?_
    rw [show M1 3 11 = nI K.length from hk1]
    refine lm_G_sg 4 (pc' := 45) (L' := [some (.ref 1), some (.int 1)]) (S' := [.int 0, .int 0, .ref 1]) (σ' := lm_T (lm_wr (lm_wr M1 1 5 1) 12 1 (nI K.length)) v G) rfl ⟨(lm_inb_ok rfl), trivial, trivial⟩ ?_
    have u1 : RT (lm_wr (lm_wr M1 1 5 1) 12 1 (nI K.length)) T (e1 T p) := RT_w (a := 12) (M := lm_wr M1 1 5 1) t1 (by decide) (by decide)
    have v1 : FrV M (lm_wr (lm_wr M1 1 5 1) 12 1 (nI K.length)) := FrV_wr (FrV_w1 (FrV_R f1) (by omega)) rfl (by decide)
    have o1 : ∀ r, 2 ≤ r → r ≠ 12 → (lm_wr (lm_wr M1 1 5 1) 12 1 (nI K.length)) r = M r := fun r h1 h2 => by rw [wr_row h2, wr_row (by omega)]; exact FrR_r f1 h1
    have w1 : (lm_wr (lm_wr M1 1 5 1) 12 1 (nI K.length)) 12 = upd (M 12) 1 (nI K.length) := by show upd (M1 12) 1 _ = _; rw [FrR_r f1 (by decide)]
    have h15 : (lm_wr (lm_wr M1 1 5 1) 12 1 (nI K.length)) 1 5 = b2i true := rfl
    have z1 : ∀ k, k = 4 ∨ k = 11 → (lm_wr (lm_wr M1 1 5 1) 12 1 (nI K.length)) 1 k = M 1 k := fun k hk => by rw [wr_row (by decide), wr_at (by omega)]; exact f1.2 k (by omega) (by omega) (by omega) (by omega)
    revert u1 v1 o1 w1 h15 z1
    generalize lm_wr (lm_wr M1 1 5 1) 12 1 (nI K.length) = N1
    intro u1 v1 o1 w1 h15 z1
    have hx := c_expr (X := X) (J := true) hT 5 (Nat.le_refl _) d
    rw [show nI (5 - 5) = 0 from nI_0] at hx
    have hc1 : CCode N1 K := by unfold CCode; rw [o1 3 (by decide) (by decide), o1 11 (by decide) (by decide)]; exact hd.2.2.2.2.2.2.2.2.2.2.2.1
    refine lm_G_ca (j := 41) (as := [.ref 1, .int 0, .int 0]) (rest := []) rfl (Or.inl rfl) (Nat.le_of_ble_eq_true rfl) (Nat.le_of_ble_eq_true rfl) (Nat.le_of_ble_eq_true rfl) (Nat.le_of_ble_eq_true rfl) rfl ?_
    refine hx v N1 G _ (e1 T p) K u1 l1 h15 hc1 (by omega) (fun r c er M2 t2 k2 e2 => ?_) (fun e a er M2 b2 e2 => ?_)
    rotate_left
    ·
      show lm_G X (d + 44) 40 106 0 0 48 [some (.ref 1), some (.int 1)] [.int 0] (lm_T M2 v G) Q
      refine lm_G_br (b := ¬ 0 = 0) (t := 53) (S' := []) rfl (fun hc => absurd rfl hc) (fun hc => ?_)
      refine lm_G_sg 1 (pc' := 52) (L' := [some (.ref 1), some (.int 1)]) (S' := [.int 0]) (σ' := lm_T M2 v G) rfl trivial ?_
      exact lm_G_re rfl (by decide) (Nat.zero_le _) (Nat.zero_le _) (her _ _ (by unfold lnP; rw [ep, er]; rfl) _ b2 (FrV_tr v1 (FrV_Ex e2)))
    ·
      show lm_G X (d + 44) 40 106 0 0 48 [some (.ref 1), some (.int 1)] [.int 1] (lm_T M2 v G) Q
      obtain ⟨p1, p2, p3⟩ := okL_pE 5 _ _ _ l1 er
      rw [er] at ep
      simp only [] at ep
      refine lm_G_br (b := ¬ 1 = 0) (t := 53) (S' := []) rfl (fun hc => ?_) (fun hc => absurd (Classical.not_not.mp hc) (by decide))
      refine lm_G_sg 7 (pc' := 68) (L' := [some (.ref 1), some (.int 1)]) (S' := [.int (M2 3 11), .int 1, .ref 13]) (σ' := lm_T M2 v G) rfl trivial ?_
      rw [show M2 3 11 = nI (K ++ c).length from k2.1]
      refine lm_G_sg 3 (pc' := 72) (L' := [some (.ref 1), some (.int 1)]) (S' := [.int 59, .ref 1]) (σ' := lm_T (lm_wr M2 13 1 (nI (K ++ c).length)) v G) rfl ⟨(lm_inb_ok rfl), trivial, trivial⟩ ?_
      have u6 : RT (lm_wr M2 13 1 (nI (K ++ c).length)) T r := RT_w t2 (by decide) (by decide)
      have v6 : FrV M (lm_wr M2 13 1 (nI (K ++ c).length)) := FrV_wr (FrV_tr v1 (FrV_E e2)) rfl (by decide)
      have y6 : (lm_wr M2 13 1 (nI (K ++ c).length)) 1 11 = M 1 11 := (e2.2.1 11 (Or.inr rfl)).trans (z1 11 (Or.inr rfl))
      have d6 : DC (lm_wr M2 13 1 (nI (K ++ c).length)) (adR D true c) (K ++ c) := by
        obtain ⟨q1, q2, q3, q4, q5, q6, q7, q8, q9, q10, q11, q12, q13, q14⟩ := hd
        have ro : ∀ r, 4 ≤ r → r ≠ 11 → r ≠ 12 → M2 r = M r := fun r h1 h2 h3 => (e2.1 r (by unfold frE; rw [decide_eq_false_iff_not]; omega)).trans (o1 r (by omega) h3)
        have r3 : ∀ k, k ≠ 11 → M2 3 k = M 3 k := fun k hk => (e2.2.2 k hk).trans (by rw [o1 3 (by decide) (by decide)])
        have r12 : M2 12 = upd (M 12) 1 (nI K.length) := (e2.1 12 rfl).trans w1
        refine ⟨(r3 0 (by decide)).trans q1, (r3 6 (by decide)).trans q2, (r3 9 (by decide)).trans q3, (e2.2.1 4 (by omega)).trans ((z1 4 (Or.inl rfl)).trans q4), ?_, ?_, ?_, ?_, ?_, ?_, ?_, k2, ?_, ?_⟩
        · show Ag (dNo D) (M2 4) _
          rw [ro 4 (by decide) (by decide) (by decide)]; exact q5
        · show Ag (dNo D) (M2 5) _
          rw [ro 5 (by decide) (by decide) (by decide)]; exact q6
        · show Ag (dNo D) (M2 6) _
          rw [ro 6 (by decide) (by decide) (by decide)]; exact q7
        · show Ag (dNo D) (M2 7) _
          rw [ro 7 (by decide) (by decide) (by decide)]; exact q8
        · show Ag (dNo D) (M2 8) _
          rw [ro 8 (by decide) (by decide) (by decide)]; exact q9
        · show Ag (dM D) (M2 9) _
          rw [ro 9 (by decide) (by decide) (by decide)]; exact q10
        · show Ag (dM D) (M2 10) _
          rw [ro 10 (by decide) (by decide) (by decide)]; exact q11
        · refine RU_add q13 ?_ ?_
          · show M2 12 0 = _
            rw [r12]; exact pk_un (by decide)
          · rw [wr_at (by decide), ro 13 (by decide) (by decide) (by decide)]
        · refine RU_new (c := c) ?_ ?_
          · show M2 12 1 = _
            rw [r12]; exact pk_us
          · exact wr_same
      revert u6 v6 y6 d6
      generalize lm_wr M2 13 1 (nI (K ++ c).length) = N6
      intro u6 v6 y6 d6
      refine lm_G_ca (j := 34) (as := [.ref 1, .int 59]) (rest := []) rfl (Or.inl rfl) (Nat.le_of_ble_eq_true rfl) (Nat.le_of_ble_eq_true rfl) (Nat.le_of_ble_eq_true rfl) (Nat.le_of_ble_eq_true rfl) rfl ?_
      refine c_readSign (c := 59) hT u6 p2 (by omega) ⟨fun s9 M9 t9 f9 => ?_, fun s9 M9 b9 f9 => ?_⟩
      ·
        show lm_G X (d + 44) 40 106 0 0 75 [some (.ref 1), some (.int 1)] [.int 1] (lm_T M9 v G) Q
        exact lm_G_re rfl (by decide) (Nat.zero_le _) (Nat.zero_le _) (hok _ _ (by unfold lnP; rw [ep]; simp only [seL]; rw [if_pos s9]) _ (K ++ c) t9 (DC_R d6 f9) (Nat.le_trans (by rw [List.length_append]; omega : (K ++ c).length ≤ r) (Nat.le_trans (st_le p2).1 (en_le p2).1)) (FrV_tr v6 (FrV_R f9)) ((f9.2 11 (by decide) (by decide) (by decide) (by decide)).trans y6))
      ·
        show lm_G X (d + 44) 40 106 0 0 75 [some (.ref 1), some (.int 1)] [.int 0] (lm_T M9 v G) Q
        exact lm_G_re rfl (by decide) (Nat.zero_le _) (Nat.zero_le _) (her _ _ (by unfold lnP; rw [ep]; simp only [seL]; rw [if_neg (by rw [s9]; decide)]) _ b9 (FrV_tr v6 f9))
set_option maxRecDepth 10000 in
theorem c_readLine {X : lm_X} {T : Tx} (hT : okT T) : ∀ d, CL X T (d + 45) 33 [.ref 1] (lnL T) := by
  intro d
  intro v M G Q p D K ht hp h0 hd hD hkl hok her
  show lm_G X (d + 45) 33 106 0 0 0 [some (.ref 1)] [] (lm_T M v G) Q
  have hn := hT.1
  refine lm_G_sg 2 (pc' := 3) (L' := [some (.ref 1)]) (S' := [.ref 1000, .ref 1]) (σ' := lm_T M v G) rfl trivial ?_
  refine lm_G_ca (j := 30) (as := [.ref 1, .ref 1000]) (rest := []) rfl (Or.inl rfl) (Nat.le_of_ble_eq_true rfl) (Nat.le_of_ble_eq_true rfl) (Nat.le_of_ble_eq_true rfl) (Nat.le_of_ble_eq_true rfl) rfl ?_
  refine c_isWord0 hT ht hp ?_
  show lm_G X (d + 45) 33 106 0 0 6 [some (.ref 1)] [.int (b2i (isWd T p w0))] (lm_T M v G) Q
  refine lm_G_br (b := (b2i (isWd T p w0)) = 0) (t := 15) (S' := []) rfl (fun g0 => ?_) (fun g0 => ?_)
  rotate_left
  ·
    have es : lnL T D p = lnP T (peL T false) D p := by unfold lnL lnP liL; rw [if_pos (b2i_1 g0)]
    refine lm_G_sg 2 (pc' := 11) (L' := [some (.ref 1)]) (S' := [.int 0, .ref 1]) (σ' := lm_T M v G) rfl trivial ?_
    refine lm_G_ca (j := 36) (as := [.ref 1, .int 0]) (rest := []) rfl (Or.inl rfl) (Nat.le_of_ble_eq_true rfl) (Nat.le_of_ble_eq_true rfl) (Nat.le_of_ble_eq_true rfl) (Nat.le_of_ble_eq_true rfl) rfl ?_
    refine c_readPerson (w := false) hT (d + 41) v M G _ p D K ht hp h0 hd hD hkl (fun r D9 er M9 K9 t9 d9 l9 v9 z9 => ?_) (fun e a er M9 b9 v9 => ?_)
    ·
      show lm_G X (d + 45) 33 106 0 0 14 [some (.ref 1)] [.int 1] (lm_T M9 v G) Q
      exact lm_G_re rfl (by decide) (Nat.zero_le _) (Nat.zero_le _) (hok _ _ (es.trans er) _ _ t9 d9 l9 v9 z9)
    ·
      show lm_G X (d + 45) 33 106 0 0 14 [some (.ref 1)] [.int 0] (lm_T M9 v G) Q
      exact lm_G_re rfl (by decide) (Nat.zero_le _) (Nat.zero_le _) (her _ _ (es.trans er) _ b9 v9)
  ·
    refine lm_G_sg 2 (pc' := 18) (L' := [some (.ref 1)]) (S' := [.ref 1001, .ref 1]) (σ' := lm_T M v G) rfl trivial ?_
    refine lm_G_ca (j := 30) (as := [.ref 1, .ref 1001]) (rest := []) rfl (Or.inl rfl) (Nat.le_of_ble_eq_true rfl) (Nat.le_of_ble_eq_true rfl) (Nat.le_of_ble_eq_true rfl) (Nat.le_of_ble_eq_true rfl) rfl ?_
    refine c_isWord1 hT ht hp ?_
    show lm_G X (d + 45) 33 106 0 0 21 [some (.ref 1)] [.int (b2i (isWd T p w1))] (lm_T M v G) Q
    refine lm_G_br (b := (b2i (isWd T p w1)) = 0) (t := 30) (S' := []) rfl (fun g1 => ?_) (fun g1 => ?_)
    rotate_left
    ·
      have es : lnL T D p = lnP T (peL T true) D p := by unfold lnL lnP liL; rw [if_neg (by rw [b2i_0 g0]; decide), if_pos (b2i_1 g1)]
      refine lm_G_sg 2 (pc' := 26) (L' := [some (.ref 1)]) (S' := [.int 1, .ref 1]) (σ' := lm_T M v G) rfl trivial ?_
      refine lm_G_ca (j := 36) (as := [.ref 1, .int 1]) (rest := []) rfl (Or.inl rfl) (Nat.le_of_ble_eq_true rfl) (Nat.le_of_ble_eq_true rfl) (Nat.le_of_ble_eq_true rfl) (Nat.le_of_ble_eq_true rfl) rfl ?_
      refine c_readPerson (w := true) hT (d + 41) v M G _ p D K ht hp h0 hd hD hkl (fun r D9 er M9 K9 t9 d9 l9 v9 z9 => ?_) (fun e a er M9 b9 v9 => ?_)
      ·
        show lm_G X (d + 45) 33 106 0 0 29 [some (.ref 1)] [.int 1] (lm_T M9 v G) Q
        exact lm_G_re rfl (by decide) (Nat.zero_le _) (Nat.zero_le _) (hok _ _ (es.trans er) _ _ t9 d9 l9 v9 z9)
      ·
        show lm_G X (d + 45) 33 106 0 0 29 [some (.ref 1)] [.int 0] (lm_T M9 v G) Q
        exact lm_G_re rfl (by decide) (Nat.zero_le _) (Nat.zero_le _) (her _ _ (es.trans er) _ b9 v9)
    ·
      refine lm_G_sg 2 (pc' := 33) (L' := [some (.ref 1)]) (S' := [.ref 1002, .ref 1]) (σ' := lm_T M v G) rfl trivial ?_
      refine lm_G_ca (j := 30) (as := [.ref 1, .ref 1002]) (rest := []) rfl (Or.inl rfl) (Nat.le_of_ble_eq_true rfl) (Nat.le_of_ble_eq_true rfl) (Nat.le_of_ble_eq_true rfl) (Nat.le_of_ble_eq_true rfl) rfl ?_
      refine c_isWord2 hT ht hp ?_
      show lm_G X (d + 45) 33 106 0 0 36 [some (.ref 1)] [.int (b2i (isWd T p w2))] (lm_T M v G) Q
      refine lm_G_br (b := (b2i (isWd T p w2)) = 0) (t := 44) (S' := []) rfl (fun g2 => ?_) (fun g2 => ?_)
      rotate_left
      ·
        have es : lnL T D p = lnP T (tuL T) D p := by unfold lnL lnP liL; rw [if_neg (by rw [b2i_0 g0]; decide), if_neg (by rw [b2i_0 g1]; decide), if_pos (b2i_1 g2)]
        refine lm_G_sg 1 (pc' := 40) (L' := [some (.ref 1)]) (S' := [.ref 1]) (σ' := lm_T M v G) rfl trivial ?_
        refine lm_G_ca (j := 37) (as := [.ref 1]) (rest := []) rfl (Or.inl rfl) (Nat.le_of_ble_eq_true rfl) (Nat.le_of_ble_eq_true rfl) (Nat.le_of_ble_eq_true rfl) (Nat.le_of_ble_eq_true rfl) rfl ?_
        refine c_readTune hT (d + 40) v M G _ p D K ht hp h0 hd hD hkl (fun r D9 er M9 K9 t9 d9 l9 v9 z9 => ?_) (fun e a er M9 b9 v9 => ?_)
        ·
          show lm_G X (d + 45) 33 106 0 0 43 [some (.ref 1)] [.int 1] (lm_T M9 v G) Q
          exact lm_G_re rfl (by decide) (Nat.zero_le _) (Nat.zero_le _) (hok _ _ (es.trans er) _ _ t9 d9 l9 v9 z9)
        ·
          show lm_G X (d + 45) 33 106 0 0 43 [some (.ref 1)] [.int 0] (lm_T M9 v G) Q
          exact lm_G_re rfl (by decide) (Nat.zero_le _) (Nat.zero_le _) (her _ _ (es.trans er) _ b9 v9)
      ·
        refine lm_G_sg 2 (pc' := 47) (L' := [some (.ref 1)]) (S' := [.ref 1004, .ref 1]) (σ' := lm_T M v G) rfl trivial ?_
        refine lm_G_ca (j := 30) (as := [.ref 1, .ref 1004]) (rest := []) rfl (Or.inl rfl) (Nat.le_of_ble_eq_true rfl) (Nat.le_of_ble_eq_true rfl) (Nat.le_of_ble_eq_true rfl) (Nat.le_of_ble_eq_true rfl) rfl ?_
        refine c_isWord4 hT ht hp ?_
        show lm_G X (d + 45) 33 106 0 0 50 [some (.ref 1)] [.int (b2i (isWd T p w4))] (lm_T M v G) Q
        refine lm_G_br (b := (b2i (isWd T p w4)) = 0) (t := 58) (S' := []) rfl (fun g3 => ?_) (fun g3 => ?_)
        rotate_left
        ·
          have es : lnL T D p = lnP T (eaL T) D p := by unfold lnL lnP liL; rw [if_neg (by rw [b2i_0 g0]; decide), if_neg (by rw [b2i_0 g1]; decide), if_neg (by rw [b2i_0 g2]; decide), if_pos (b2i_1 g3)]
          refine lm_G_sg 1 (pc' := 54) (L' := [some (.ref 1)]) (S' := [.ref 1]) (σ' := lm_T M v G) rfl trivial ?_
          refine lm_G_ca (j := 39) (as := [.ref 1]) (rest := []) rfl (Or.inl rfl) (Nat.le_of_ble_eq_true rfl) (Nat.le_of_ble_eq_true rfl) (Nat.le_of_ble_eq_true rfl) (Nat.le_of_ble_eq_true rfl) rfl ?_
          refine c_readEarshot hT (d + 41) v M G _ p D K ht hp h0 hd hD hkl (fun r D9 er M9 K9 t9 d9 l9 v9 z9 => ?_) (fun e a er M9 b9 v9 => ?_)
          ·
            show lm_G X (d + 45) 33 106 0 0 57 [some (.ref 1)] [.int 1] (lm_T M9 v G) Q
            exact lm_G_re rfl (by decide) (Nat.zero_le _) (Nat.zero_le _) (hok _ _ (es.trans er) _ _ t9 d9 l9 v9 z9)
          ·
            show lm_G X (d + 45) 33 106 0 0 57 [some (.ref 1)] [.int 0] (lm_T M9 v G) Q
            exact lm_G_re rfl (by decide) (Nat.zero_le _) (Nat.zero_le _) (her _ _ (es.trans er) _ b9 v9)
        ·
          refine lm_G_sg 2 (pc' := 61) (L' := [some (.ref 1)]) (S' := [.ref 1005, .ref 1]) (σ' := lm_T M v G) rfl trivial ?_
          refine lm_G_ca (j := 30) (as := [.ref 1, .ref 1005]) (rest := []) rfl (Or.inl rfl) (Nat.le_of_ble_eq_true rfl) (Nat.le_of_ble_eq_true rfl) (Nat.le_of_ble_eq_true rfl) (Nat.le_of_ble_eq_true rfl) rfl ?_
          refine c_isWord5 hT ht hp ?_
          show lm_G X (d + 45) 33 106 0 0 64 [some (.ref 1)] [.int (b2i (isWd T p w5))] (lm_T M v G) Q
          refine lm_G_br (b := (b2i (isWd T p w5)) = 0) (t := 73) (S' := []) rfl (fun g4 => ?_) (fun g4 => ?_)
          rotate_left
          ·
            have es : lnL T D p = lnP T (ruL T false) D p := by unfold lnL lnP liL; rw [if_neg (by rw [b2i_0 g0]; decide), if_neg (by rw [b2i_0 g1]; decide), if_neg (by rw [b2i_0 g2]; decide), if_neg (by rw [b2i_0 g3]; decide), if_pos (b2i_1 g4)]
            refine lm_G_sg 2 (pc' := 69) (L' := [some (.ref 1)]) (S' := [.int 0, .ref 1]) (σ' := lm_T M v G) rfl trivial ?_
            refine lm_G_ca (j := 40) (as := [.ref 1, .int 0]) (rest := []) rfl (Or.inl rfl) (Nat.le_of_ble_eq_true rfl) (Nat.le_of_ble_eq_true rfl) (Nat.le_of_ble_eq_true rfl) (Nat.le_of_ble_eq_true rfl) rfl ?_
            refine c_readRule_false hT d v M G _ p D K ht hp h0 hd hD hkl (fun r D9 er M9 K9 t9 d9 l9 v9 z9 => ?_) (fun e a er M9 b9 v9 => ?_)
            ·
              show lm_G X (d + 45) 33 106 0 0 72 [some (.ref 1)] [.int 1] (lm_T M9 v G) Q
              exact lm_G_re rfl (by decide) (Nat.zero_le _) (Nat.zero_le _) (hok _ _ (es.trans er) _ _ t9 d9 l9 v9 z9)
            ·
              show lm_G X (d + 45) 33 106 0 0 72 [some (.ref 1)] [.int 0] (lm_T M9 v G) Q
              exact lm_G_re rfl (by decide) (Nat.zero_le _) (Nat.zero_le _) (her _ _ (es.trans er) _ b9 v9)
          ·
            refine lm_G_sg 2 (pc' := 76) (L' := [some (.ref 1)]) (S' := [.ref 1016, .ref 1]) (σ' := lm_T M v G) rfl trivial ?_
            refine lm_G_ca (j := 30) (as := [.ref 1, .ref 1016]) (rest := []) rfl (Or.inl rfl) (Nat.le_of_ble_eq_true rfl) (Nat.le_of_ble_eq_true rfl) (Nat.le_of_ble_eq_true rfl) (Nat.le_of_ble_eq_true rfl) rfl ?_
            refine c_isWord16 hT ht hp ?_
            show lm_G X (d + 45) 33 106 0 0 79 [some (.ref 1)] [.int (b2i (isWd T p w16))] (lm_T M v G) Q
            refine lm_G_br (b := (b2i (isWd T p w16)) = 0) (t := 88) (S' := []) rfl (fun g5 => ?_) (fun g5 => ?_)
            rotate_left
            ·
              have es : lnL T D p = lnP T (ruL T true) D p := by unfold lnL lnP liL; rw [if_neg (by rw [b2i_0 g0]; decide), if_neg (by rw [b2i_0 g1]; decide), if_neg (by rw [b2i_0 g2]; decide), if_neg (by rw [b2i_0 g3]; decide), if_neg (by rw [b2i_0 g4]; decide), if_pos (b2i_1 g5)]
              refine lm_G_sg 2 (pc' := 84) (L' := [some (.ref 1)]) (S' := [.int 1, .ref 1]) (σ' := lm_T M v G) rfl trivial ?_
              refine lm_G_ca (j := 40) (as := [.ref 1, .int 1]) (rest := []) rfl (Or.inl rfl) (Nat.le_of_ble_eq_true rfl) (Nat.le_of_ble_eq_true rfl) (Nat.le_of_ble_eq_true rfl) (Nat.le_of_ble_eq_true rfl) rfl ?_
              refine c_readRule_true hT d v M G _ p D K ht hp h0 hd hD hkl (fun r D9 er M9 K9 t9 d9 l9 v9 z9 => ?_) (fun e a er M9 b9 v9 => ?_)
              ·
                show lm_G X (d + 45) 33 106 0 0 87 [some (.ref 1)] [.int 1] (lm_T M9 v G) Q
                exact lm_G_re rfl (by decide) (Nat.zero_le _) (Nat.zero_le _) (hok _ _ (es.trans er) _ _ t9 d9 l9 v9 z9)
              ·
                show lm_G X (d + 45) 33 106 0 0 87 [some (.ref 1)] [.int 0] (lm_T M9 v G) Q
                exact lm_G_re rfl (by decide) (Nat.zero_le _) (Nat.zero_le _) (her _ _ (es.trans er) _ b9 v9)
            ·
              have es : lnL T D p = .inr (1, stS' T p) := by unfold lnL liL; rw [if_neg (by rw [b2i_0 g0]; decide), if_neg (by rw [b2i_0 g1]; decide), if_neg (by rw [b2i_0 g2]; decide), if_neg (by rw [b2i_0 g3]; decide), if_neg (by rw [b2i_0 g4]; decide), if_neg (by rw [b2i_0 g5]; decide)]; rfl
              refine lm_G_sg 2 (pc' := 90) (L' := [some (.ref 1)]) (S' := [.int 1, .ref 1]) (σ' := lm_T M v G) rfl trivial ?_
              refine lm_G_ca (j := 25) (as := [.ref 1, .int 1]) (rest := []) rfl (Or.inl rfl) (Nat.le_of_ble_eq_true rfl) (Nat.le_of_ble_eq_true rfl) (Nat.le_of_ble_eq_true rfl) (Nat.le_of_ble_eq_true rfl) rfl ?_
              refine c_fail ?_
              show lm_G X (d + 45) 33 106 0 0 93 [some (.ref 1)] [.int 0] (lm_T (lm_wr (lm_wr M 1 10 1) 1 11 (M 1 7)) v G) Q
              exact lm_G_re rfl (by decide) (Nat.zero_le _) (Nat.zero_le _) (her _ _ (es) _ ⟨rfl, ht.2.2.1⟩ (FrV_w1 (FrV_w1 (FrV_rf _) (by omega)) (by omega)))
set_option maxRecDepth 10000 in
theorem c_clear {X : lm_X} {d v : Nat} {M : Nat → Nat → Int32} {G : Nat → Nat → Int64} {Q : lm_O → lm_S → Prop} (hQ : ∀ M1, (M1 3 0 = 0 ∧ M1 3 6 = 0 ∧ M1 3 9 = 5 ∧ M1 3 11 = 0 ∧ (∀ i, i < 2 → M1 12 i = 0 ∧ M1 13 i = 0) ∧ (∀ r, r ≠ 3 → r ≠ 12 → r ≠ 13 → M1 r = M r)) → Q (.inl none) (lm_T M1 v G)) : lm_Q X d 10 [.ref 3] (lm_T M v G) Q := by
  show lm_G X d 10 106 0 0 0 [some (.ref 3), none] [] (lm_T M v G) Q
  refine lm_G_sg 14 (pc' := 22) (L' := [some (.ref 3), some (.int 0)]) (S' := []) (σ' := lm_T (lm_wr (lm_wr (lm_wr (lm_wr M 3 0 0) 3 6 0) 3 9 5) 3 11 0) v G) rfl ⟨trivial, trivial, trivial, trivial, trivial, trivial, trivial, trivial, trivial⟩ ?_
  have a0 : (lm_wr (lm_wr (lm_wr (lm_wr M 3 0 0) 3 6 0) 3 9 5) 3 11 0) 3 0 = 0 := rfl
  have a1 : (lm_wr (lm_wr (lm_wr (lm_wr M 3 0 0) 3 6 0) 3 9 5) 3 11 0) 3 6 = 0 := rfl
  have a2 : (lm_wr (lm_wr (lm_wr (lm_wr M 3 0 0) 3 6 0) 3 9 5) 3 11 0) 3 9 = 5 := rfl
  have a3 : (lm_wr (lm_wr (lm_wr (lm_wr M 3 0 0) 3 6 0) 3 9 5) 3 11 0) 3 11 = 0 := rfl
  have a4 : ∀ r, r ≠ 3 → (lm_wr (lm_wr (lm_wr (lm_wr M 3 0 0) 3 6 0) 3 9 5) 3 11 0) r = M r := fun r h => by rw [wr_row h, wr_row h, wr_row h, wr_row h]
  revert a0 a1 a2 a3 a4
  generalize lm_wr (lm_wr (lm_wr (lm_wr M 3 0 0) 3 6 0) 3 9 5) 3 11 0 = N0
  intro a0 a1 a2 a3 a4
  refine lm_ind (α := (Nat → Fn)) (St := fun (j : Nat) zz => (fun (M1 : Nat → Fn) => lm_G X d 10 106 0 0 22 [some (.ref 3), some (.int (nI j))] [] (lm_T M1 v G) Q) zz) (Inv := fun (j : Nat) zz => (fun (M1 : Nat → Fn) => (∀ r, r ≠ 12 → r ≠ 13 → M1 r = N0 r) ∧ (∀ i, i < j → M1 12 i = 0 ∧ M1 13 i = 0)) zz) (2) (fun j zz hj hI ih => ?_) (fun zz hI => ?_) (0) N0 (by omega) ?_
  ·
    revert ih hI
    revert zz
    intro M1 hI ih
    replace hI : (∀ r, r ≠ 12 → r ≠ 13 → M1 r = N0 r) ∧ (∀ i, i < j → M1 12 i = 0 ∧ M1 13 i = 0) := hI
    replace ih : ∀ (M1 : Nat → Fn) (_ : (∀ r, r ≠ 12 → r ≠ 13 → M1 r = N0 r) ∧ (∀ i, i < (j + 1) → M1 12 i = 0 ∧ M1 13 i = 0)), lm_G X d 10 106 0 0 22 [some (.ref 3), some (.int (nI (j + 1)))] [] (lm_T M1 v G) Q := fun M1 q => ih M1 q
    show lm_G X d 10 106 0 0 22 [some (.ref 3), some (.int (nI j))] [] (lm_T M1 v G) Q
    obtain ⟨i1, i2⟩ := hI
    refine lm_G_sg 2 (pc' := 24) (L' := [some (.ref 3), some (.int (nI j))]) (S' := [.int 2, .int (nI j)]) (σ' := lm_T M1 v G) rfl trivial ?_
    refine lm_G_br (b := 2 ≤ (nI j)) (t := 47) (S' := []) rfl (fun hc => absurd hc (nI_ge (b := 2) hj (by omega))) (fun hc => ?_)
    refine lm_G_sg 5 (pc' := 34) (L' := [some (.ref 3), some (.int (nI j))]) (S' := []) (σ' := lm_T (lm_wr M1 12 ((nI j).toNatClampNeg) 0) v G) rfl ⟨(vp_in_nI (by omega) (by omega)), trivial, trivial⟩ ?_
    rw [show (nI j).toNatClampNeg = j from nI_clamp (by omega)]
    refine lm_G_sg 5 (pc' := 41) (L' := [some (.ref 3), some (.int (nI j))]) (S' := []) (σ' := lm_T (lm_wr (lm_wr M1 12 j 0) 13 ((nI j).toNatClampNeg) 0) v G) rfl ⟨(vp_in_nI (by omega) (by omega)), trivial, trivial⟩ ?_
    rw [show (nI j).toNatClampNeg = j from nI_clamp (by omega)]
    refine lm_G_sg 1 (pc' := 44) (L' := [some (.ref 3), some (.int ((nI j) + 1))]) (S' := []) (σ' := lm_T (lm_wr (lm_wr M1 12 j 0) 13 j 0) v G) rfl trivial ?_
    rw [nI_1]
    refine lm_G_sg 1 (pc' := 22) (L' := [some (.ref 3), some (.int (nI (j + 1)))]) (S' := []) (σ' := lm_T (lm_wr (lm_wr M1 12 j 0) 13 j 0) v G) rfl trivial ?_
    exact ih _ (⟨fun r h1 h2 => by rw [wr_row h2, wr_row h1]; exact i1 r h1 h2, fun i hi => by
          show upd (M1 12) j 0 i = 0 ∧ upd (M1 13) j 0 i = 0
          by_cases e : i = j
          · rw [e, pk_us, pk_us]; exact ⟨rfl, rfl⟩
          · rw [pk_un e, pk_un e]; exact i2 i (by omega)⟩)
  ·
    revert hI
    revert zz
    intro M1 hI
    replace hI : (∀ r, r ≠ 12 → r ≠ 13 → M1 r = N0 r) ∧ (∀ i, i < 2 → M1 12 i = 0 ∧ M1 13 i = 0) := hI
    show lm_G X d 10 106 0 0 22 [some (.ref 3), some (.int (nI 2))] [] (lm_T M1 v G) Q
    obtain ⟨i1, i2⟩ := hI
    refine lm_G_sg 2 (pc' := 24) (L' := [some (.ref 3), some (.int (nI 2))]) (S' := [.int 2, .int (nI 2)]) (σ' := lm_T M1 v G) rfl trivial ?_
    refine lm_G_br (b := 2 ≤ (nI 2)) (t := 47) (S' := []) rfl (fun hc => ?_) (fun hc => absurd (nI_le (a := 2) (Nat.le_refl _) (by omega)) hc)
    exact lm_G_re rfl trivial (Nat.zero_le _) (Nat.zero_le _) (hQ _ (by
          have r3 : M1 3 = N0 3 := i1 3 (by decide) (by decide)
          refine ⟨?_, ?_, ?_, ?_, ?_, ?_⟩
          · rw [r3]; exact a0
          · rw [r3]; exact a1
          · rw [r3]; exact a2
          · rw [r3]; exact a3
          · exact fun i hi => i2 i hi
          · exact fun r h1 h2 h3 => (i1 r h2 h3).trans (a4 r h1)))
  ·
    try dsimp only
    exact ⟨fun _ _ _ => rfl, fun i hi => absurd hi (Nat.not_lt_zero i)⟩
set_option maxRecDepth 10000 in
theorem c_read {X : lm_X} {d v : Nat} {M : Nat → Nat → Int32} {G : Nat → Nat → Int64} {Q : lm_O → lm_S → Prop} {n : Nat} {tp : Nat → Nat} (hT : okT (n, tp)) (ht : ∀ i, i < n → M 2 i = sB (tp i)) (hQ : (∀ D, txS (n, tp) = .inl D → ∀ M1 K, DC M1 D K → okD D → K.length ≤ 700 → Fr frV M M1 → M1 1 1 = 0 → M1 1 11 = -1 → Q (.inl (some (.int 1))) (lm_T M1 v G)) ∧ (∀ e a, txS (n, tp) = .inr (e, a) → ∀ M1, BC M1 e a → Fr frV M M1 → M1 1 1 = 0 → Q (.inl (some (.int 0))) (lm_T M1 v G))) : lm_Q X (d + 46) 24 [.ref 1, .int (nI n)] (lm_T M v G) Q := by
  show lm_G X (d + 46) 24 106 0 0 0 [some (.ref 1), some (.int (nI n)), none] [] (lm_T M v G) Q
  have hn : n ≤ 700 := hT.1
  refine lm_G_sg 5 (pc' := 9) (L' := [some (.ref 1), some (.int (nI n)), none]) (S' := [.ref 3]) (σ' := lm_T (lm_wr M 1 1 0) v G) rfl ⟨trivial, trivial, trivial⟩ ?_
  refine lm_G_ca (j := 10) (as := [.ref 3]) (rest := []) rfl (Or.inl rfl) (Nat.le_of_ble_eq_true rfl) (Nat.le_of_ble_eq_true rfl) (Nat.le_of_ble_eq_true rfl) (Nat.le_of_ble_eq_true rfl) rfl ?_
  refine c_clear (fun M1 c1 => ?_)
  show lm_G X (d + 46) 24 106 0 0 12 [some (.ref 1), some (.int (nI n)), none] [] (lm_T M1 v G) Q
  obtain ⟨c0, c6, c9, c11, cr, co⟩ := c1
  have r1 : M1 1 = lm_wr M 1 1 0 1 := co 1 (by decide) (by decide) (by decide)
  have r2 : M1 2 = M 2 := co 2 (by decide) (by decide) (by decide)
  refine lm_G_sg 7 (pc' := 25) (L' := [some (.ref 1), some (.int (nI n)), none]) (S' := [.int (if 700 < (nI n) then 700 else (nI n)), .ref 1]) (σ' := lm_T (lm_wr M1 1 4 0) v G) rfl ⟨(by decide), trivial, trivial, (Nat.le_of_ble_eq_true rfl), trivial⟩ ?_
  rw [show (if 700 < (nI n) then 700 else (nI n)) = nI n from by
      by_cases e : n = 700
      · rw [e]; rfl
      · exact if_neg (fun w => by have := (nI_ltI (a := 700) (by omega) (by omega)).mp w; omega)]
  refine lm_G_sg 11 (pc' := 44) (L' := [some (.ref 1), some (.int (nI n)), none]) (S' := [.ref 1]) (σ' := lm_T (lm_wr (lm_wr (lm_wr (lm_wr (lm_wr M1 1 4 0) 1 3 (nI n)) 1 8 0) 1 10 0) 1 11 (-1)) v G) rfl ⟨trivial, trivial, trivial, trivial, trivial, trivial, trivial, trivial, trivial⟩ ?_
  have s3 : (lm_wr (lm_wr (lm_wr (lm_wr (lm_wr M1 1 4 0) 1 3 (nI n)) 1 8 0) 1 10 0) 1 11 (-1)) 1 3 = nI n := rfl
  have s1 : (lm_wr (lm_wr (lm_wr (lm_wr (lm_wr M1 1 4 0) 1 3 (nI n)) 1 8 0) 1 10 0) 1 11 (-1)) 1 1 = 0 := by show M1 1 1 = 0; rw [r1]; rfl
  have s4 : (lm_wr (lm_wr (lm_wr (lm_wr (lm_wr M1 1 4 0) 1 3 (nI n)) 1 8 0) 1 10 0) 1 11 (-1)) 1 4 = 0 := rfl
  have s8 : (lm_wr (lm_wr (lm_wr (lm_wr (lm_wr M1 1 4 0) 1 3 (nI n)) 1 8 0) 1 10 0) 1 11 (-1)) 1 8 = nI 0 := rfl
  have s11 : (lm_wr (lm_wr (lm_wr (lm_wr (lm_wr M1 1 4 0) 1 3 (nI n)) 1 8 0) 1 10 0) 1 11 (-1)) 1 11 = -1 := rfl
  have so : ∀ r, r ≠ 1 → (lm_wr (lm_wr (lm_wr (lm_wr (lm_wr M1 1 4 0) 1 3 (nI n)) 1 8 0) 1 10 0) 1 11 (-1)) r = M1 r := fun r h => by rw [wr_row h, wr_row h, wr_row h, wr_row h, wr_row h]
  revert s3 s1 s4 s8 s11 so
  generalize lm_wr (lm_wr (lm_wr (lm_wr (lm_wr M1 1 4 0) 1 3 (nI n)) 1 8 0) 1 10 0) 1 11 (-1) = N0
  intro s3 s1 s4 s8 s11 so
  refine lm_G_ca (j := 26) (as := [.ref 1]) (rest := []) rfl (Or.inl rfl) (Nat.le_of_ble_eq_true rfl) (Nat.le_of_ble_eq_true rfl) (Nat.le_of_ble_eq_true rfl) (Nat.le_of_ble_eq_true rfl) rfl ?_
  refine c_nextToken (T := (n, tp)) (p := 0) hT ⟨s3, fun i hi => by rw [so 2 (by decide), r2]; exact ht i hi⟩ (Nat.zero_le _) s8 (fun M2 t2 f2 => ?_)
  show lm_G X (d + 46) 24 106 0 0 47 [some (.ref 1), some (.int (nI n)), none] [] (lm_T M2 v G) Q
  have d2 : DC M2 D0 [] := by
    have ro : ∀ r, 3 ≤ r → M2 r = M1 r := fun r h => (FrR_r f2 (by omega)).trans (so r (by omega))
    refine ⟨?_, ?_, ?_, ?_, fun i hi => absurd hi (Nat.not_lt_zero i), fun i hi => absurd hi (Nat.not_lt_zero i), fun i hi => absurd hi (Nat.not_lt_zero i), fun i hi => absurd hi (Nat.not_lt_zero i), fun i hi => absurd hi (Nat.not_lt_zero i), fun i hi => absurd hi (Nat.not_lt_zero i), fun i hi => absurd hi (Nat.not_lt_zero i), ⟨?_, fun i hi => absurd hi (Nat.not_lt_zero i)⟩, ⟨0, Nat.le_refl _, ?_, ?_, fun i hi => absurd hi (Nat.not_lt_zero i)⟩, ⟨0, Nat.le_refl _, ?_, ?_, fun i hi => absurd hi (Nat.not_lt_zero i)⟩⟩
    · rw [ro 3 (by decide)]; exact c0
    · rw [ro 3 (by decide)]; exact c6
    · rw [ro 3 (by decide)]; exact c9
    · exact (f2.2 4 (by decide) (by decide) (by decide) (by decide)).trans s4
    · rw [ro 3 (by decide)]; exact c11
    · rw [ro 12 (by decide)]; exact (cr 0 (by decide)).1
    · rw [ro 13 (by decide)]; exact (cr 0 (by decide)).2
    · rw [ro 12 (by decide)]; exact (cr 1 (by decide)).1
    · rw [ro 13 (by decide)]; exact (cr 1 (by decide)).2
  have v2 : Fr frV M M2 := by
    intro a ha
    have h1 : a ≠ 1 := fun e => by rw [e] at ha; cases ha
    have h3 : a ≠ 3 := fun e => by rw [e] at ha; cases ha
    have h12 : a ≠ 12 := fun e => by rw [e] at ha; cases ha
    have h13 : a ≠ 13 := fun e => by rw [e] at ha; cases ha
    rw [f2.1 a (by unfold frO; rw [beq_eq_false_iff_ne]; exact h1), so a h1, co a h3 h12 h13, wr_row h1]
  have z21 : M2 1 1 = 0 := (f2.2 1 (by decide) (by decide) (by decide) (by decide)).trans s1
  have z211 : M2 1 11 = -1 := (f2.2 11 (by decide) (by decide) (by decide) (by decide)).trans s11
  refine lm_G_sg 2 (pc' := 49) (L' := [some (.ref 1), some (.int (nI n)), some (.int 0)]) (S' := []) (σ' := lm_T M2 v G) rfl trivial ?_
  refine lm_ind (α := (Nat → Fn) × Dr × Nat × Cd) (St := fun (j : Nat) zz => (fun (M3 : Nat → Fn) (D : Dr) (u : Nat) (K : Cd) => lm_G X (d + 46) 24 106 0 0 49 [some (.ref 1), some (.int (nI n)), some (.int (nI j))] [] (lm_T M3 v G) Q) zz.1 zz.2.1 zz.2.2.1 zz.2.2.2) (Inv := fun (j : Nat) zz => (fun (M3 : Nat → Fn) (D : Dr) (u : Nat) (K : Cd) => RT M3 (n, tp) u ∧ u ≤ n ∧ j ≤ u ∧ DC M3 D K ∧ okD D ∧ K.length ≤ u ∧ Fr frV M M3 ∧ M3 1 1 = 0 ∧ M3 1 11 = -1 ∧ lnsS (n, tp) (700 - j) D u = txS (n, tp)) zz.1 zz.2.1 zz.2.2.1 zz.2.2.2) (700) (fun j zz hj hI ih => ?_) (fun zz hI => ?_) (0) (M2, D0, 0, []) (by omega) ?_
  ·
    obtain ⟨M3, D, u, K⟩ := zz
    replace hI : RT M3 (n, tp) u ∧ u ≤ n ∧ j ≤ u ∧ DC M3 D K ∧ okD D ∧ K.length ≤ u ∧ Fr frV M M3 ∧ M3 1 1 = 0 ∧ M3 1 11 = -1 ∧ lnsS (n, tp) (700 - j) D u = txS (n, tp) := hI
    replace ih : ∀ (M3 : Nat → Fn) (D : Dr) (u : Nat) (K : Cd) (_ : RT M3 (n, tp) u ∧ u ≤ n ∧ (j + 1) ≤ u ∧ DC M3 D K ∧ okD D ∧ K.length ≤ u ∧ Fr frV M M3 ∧ M3 1 1 = 0 ∧ M3 1 11 = -1 ∧ lnsS (n, tp) (700 - (j + 1)) D u = txS (n, tp)), lm_G X (d + 46) 24 106 0 0 49 [some (.ref 1), some (.int (nI n)), some (.int (nI (j + 1)))] [] (lm_T M3 v G) Q := fun M3 D u K q => ih (M3, D, u, K) q
    show lm_G X (d + 46) 24 106 0 0 49 [some (.ref 1), some (.int (nI n)), some (.int (nI j))] [] (lm_T M3 v G) Q
    obtain ⟨t3, l3, j3, d3, o3, k3, v3, a3, b3, eR⟩ := hI
    have kl := kn_le (T := (n, tp)) (p := u)
    have ef : 700 - j = (700 - (j + 1)) + 1 := by omega
    rw [ef] at eR
    refine lm_G_sg 2 (pc' := 53) (L' := [some (.ref 1), some (.int (nI n)), some (.int (nI j))]) (S' := [.int 700, .int (nI j)]) (σ' := lm_T M3 v G) rfl trivial ?_
    refine lm_G_br (b := 700 ≤ (nI j)) (t := 78) (S' := []) rfl (fun hc => absurd hc (nI_ge (b := 700) hj (by omega))) (fun hc => ?_)
    refine lm_G_sg 2 (pc' := 60) (L' := [some (.ref 1), some (.int (nI n)), some (.int (nI j))]) (S' := [.int (M3 1 6)]) (σ' := lm_T M3 v G) rfl trivial ?_
    rw [show M3 1 6 = nI (knS (n, tp) u) from t3.2.1]
    refine lm_G_br (b := (nI (knS (n, tp) u)) = 0) (t := 78) (S' := []) rfl (fun g0 => ?_) (fun g0 => ?_)
    ·
      have k0 : knS (n, tp) u = 0 := (nI_eq (b := 0) (by omega) (by omega)).mp g0
      refine lm_G_sg 1 (pc' := 79) (L' := [some (.ref 1), some (.int (nI n)), some (.int (nI j))]) (S' := [.int 1]) (σ' := lm_T M3 v G) rfl trivial ?_
      exact lm_G_re rfl (by decide) (Nat.zero_le _) (Nat.zero_le _) (hQ.1 D (by rw [← eR]; simp only [lnsS]; rw [if_pos k0]) M3 K d3 o3 (by omega) v3 a3 b3)
    ·
      have k0 : ¬ knS (n, tp) u = 0 := fun w => g0 (by rw [w]; rfl)
      simp only [lnsS] at eR
      rw [if_neg k0] at eR
      refine lm_G_sg 1 (pc' := 64) (L' := [some (.ref 1), some (.int (nI n)), some (.int (nI j))]) (S' := [.ref 1]) (σ' := lm_T M3 v G) rfl trivial ?_
      refine lm_G_ca (j := 33) (as := [.ref 1]) (rest := []) rfl (Or.inl rfl) (Nat.le_of_ble_eq_true rfl) (Nat.le_of_ble_eq_true rfl) (Nat.le_of_ble_eq_true rfl) (Nat.le_of_ble_eq_true rfl) rfl ?_
      refine c_readLine hT d v M3 G _ u D K t3 l3 k0 d3 o3 k3 (fun r D9 er M9 K9 t9 d9 l9 v9 z9 => ?_) (fun e a er M9 b9 v9 => ?_)
      ·
        show lm_G X (d + 46) 24 106 0 0 67 [some (.ref 1), some (.int (nI n)), some (.int (nI j))] [.int 1] (lm_T M9 v G) Q
        obtain ⟨x1, x2, x3⟩ := lnL_ok hT l3 o3 er
        rw [er] at eR
        refine lm_G_br (b := ¬ 1 = 0) (t := 72) (S' := []) rfl (fun hc => ?_) (fun hc => absurd (Classical.not_not.mp hc) (by decide))
        refine lm_G_sg 1 (pc' := 75) (L' := [some (.ref 1), some (.int (nI n)), some (.int ((nI j) + 1))]) (S' := []) (σ' := lm_T M9 v G) rfl trivial ?_
        rw [nI_1]
        refine lm_G_sg 1 (pc' := 49) (L' := [some (.ref 1), some (.int (nI n)), some (.int (nI (j + 1)))]) (S' := []) (σ' := lm_T M9 v G) rfl trivial ?_
        exact ih _ _ _ _ (⟨t9, x3, by omega, d9, x1, l9, Fr_tr v3 v9.1, (v9.2 1 (by decide)).trans a3, z9.trans b3, eR⟩)
      ·
        show lm_G X (d + 46) 24 106 0 0 67 [some (.ref 1), some (.int (nI n)), some (.int (nI j))] [.int 0] (lm_T M9 v G) Q
        rw [er] at eR
        refine lm_G_br (b := ¬ 0 = 0) (t := 72) (S' := []) rfl (fun hc => absurd rfl hc) (fun hc => ?_)
        refine lm_G_sg 1 (pc' := 71) (L' := [some (.ref 1), some (.int (nI n)), some (.int (nI j))]) (S' := [.int 0]) (σ' := lm_T M9 v G) rfl trivial ?_
        exact lm_G_re rfl (by decide) (Nat.zero_le _) (Nat.zero_le _) (hQ.2 e a eR.symm M9 b9 (Fr_tr v3 v9.1) ((v9.2 1 (by decide)).trans a3))
  ·
    obtain ⟨M3, D, u, K⟩ := zz
    replace hI : RT M3 (n, tp) u ∧ u ≤ n ∧ 700 ≤ u ∧ DC M3 D K ∧ okD D ∧ K.length ≤ u ∧ Fr frV M M3 ∧ M3 1 1 = 0 ∧ M3 1 11 = -1 ∧ lnsS (n, tp) (700 - 700) D u = txS (n, tp) := hI
    show lm_G X (d + 46) 24 106 0 0 49 [some (.ref 1), some (.int (nI n)), some (.int (nI 700))] [] (lm_T M3 v G) Q
    obtain ⟨t3, l3, j3, d3, o3, k3, v3, a3, b3, eR⟩ := hI
    rw [Nat.sub_self] at eR
    refine lm_G_sg 2 (pc' := 53) (L' := [some (.ref 1), some (.int (nI n)), some (.int (nI 700))]) (S' := [.int 700, .int (nI 700)]) (σ' := lm_T M3 v G) rfl trivial ?_
    refine lm_G_br (b := 700 ≤ (nI 700)) (t := 78) (S' := []) rfl (fun hc => ?_) (fun hc => absurd (nI_le (a := 700) (Nat.le_refl _) (by omega)) hc)
    refine lm_G_sg 1 (pc' := 79) (L' := [some (.ref 1), some (.int (nI n)), some (.int (nI 700))]) (S' := [.int 1]) (σ' := lm_T M3 v G) rfl trivial ?_
    exact lm_G_re rfl (by decide) (Nat.zero_le _) (Nat.zero_le _) (hQ.1 D eR.symm M3 K d3 o3 (by omega) v3 a3 b3)
  ·
    try dsimp only
    exact ⟨t2, Nat.zero_le _, Nat.zero_le _, d2, okD_0, Nat.le_refl _, v2, z21, z211, rfl⟩
