/-! ===== contracts: the class reads the other lines ===== -/
theorem upd_upd {f : Fn} {k : Nat} {x y : Int32} : upd (upd f k x) k y = upd f k y := by
  funext i
  unfold upd
  split <;> rfl
set_option maxRecDepth 10000 in
theorem c_readOwner {X : lm_X} {d v : Nat} {M : Nat → Nat → Int32} {G : Nat → Nat → Int64} {Q : lm_O → lm_S → Prop} {T : Tx} {q m n : Nat} (hT : okT T) (ht : RT M T q) (hq : q ≤ tN T) (hm : m < 6) (hn8 : n ≤ 8) (h30 : M 3 0 = nI n) (hQ : (∀ x, rdN T (enS T q) 0 9999 = .inl x → x < n → ∀ M1, RT M1 T (enS T (enS T q)) → M1 10 = upd (M 10) m (nI x) → (∀ a, 2 ≤ a → a ≠ 10 → M1 a = M a) → (∀ k, k = 4 ∨ k = 11 → M1 1 k = M 1 k) → FrV M M1 → Q (.inl (some (.int 1))) (lm_T M1 v G)) ∧ (∀ f, rdN T (enS T q) 0 9999 = .inr f → ∀ M1, BC M1 f (stS' T (enS T q)) → FrV M M1 → Q (.inl (some (.int 0))) (lm_T M1 v G)) ∧ (∀ x, rdN T (enS T q) 0 9999 = .inl x → ¬ x < n → ∀ M1, BC M1 3 (stS' T (enS T q)) → FrV M M1 → Q (.inl (some (.int 0))) (lm_T M1 v G))) : lm_Q X (d + 3) 38 [.ref 1, .int (nI m)] (lm_T M v G) Q := by
  show lm_G X (d + 3) 38 106 0 0 0 [some (.ref 1), some (.int (nI m))] [] (lm_T M v G) Q
  have hn := hT.1
  obtain ⟨el1, el2, el3⟩ := en_le hq
  have l2 : enS T (enS T q) ≤ tN T := (en_le el2).2.1
  have kl := kn_le (T := T) (p := enS T q)
  refine lm_G_sg 1 (pc' := 1) (L' := [some (.ref 1), some (.int (nI m))]) (S' := [.ref 1]) (σ' := lm_T M v G) rfl trivial ?_
  refine lm_G_ca (j := 26) (as := [.ref 1]) (rest := []) rfl (Or.inl rfl) (Nat.le_of_ble_eq_true rfl) (Nat.le_of_ble_eq_true rfl) (Nat.le_of_ble_eq_true rfl) (Nat.le_of_ble_eq_true rfl) rfl ?_
  refine c_nextToken hT ht.1 el2 ht.2.2.2.1 (fun M1 t1 f1 => ?_)
  show lm_G X (d + 3) 38 106 0 0 4 [some (.ref 1), some (.int (nI m))] [] (lm_T M1 v G) Q
  have h301 : M1 3 0 = nI n := by rw [FrR_r f1 (by decide)]; exact h30
  refine lm_G_sg 2 (pc' := 8) (L' := [some (.ref 1), some (.int (nI m))]) (S' := [.int (M1 1 6)]) (σ' := lm_T M1 v G) rfl trivial ?_
  rw [show M1 1 6 = nI (knS T (enS T q)) from t1.2.1]
  refine lm_G_sg 1 (pc' := 9) (L' := [some (.ref 1), some (.int (nI m))]) (S' := [.int 2, .int (nI (knS T (enS T q)))]) (σ' := lm_T M1 v G) rfl trivial ?_
  refine lm_G_br (b := (nI (knS T (enS T q))) = 2) (t := 18) (S' := []) rfl (fun g0 => ?_) (fun g0 => ?_)
  rotate_left
  ·
    refine lm_G_sg 2 (pc' := 14) (L' := [some (.ref 1), some (.int (nI m))]) (S' := [.int 1, .ref 1]) (σ' := lm_T M1 v G) rfl trivial ?_
    refine lm_G_ca (j := 25) (as := [.ref 1, .int 1]) (rest := []) rfl (Or.inl rfl) (Nat.le_of_ble_eq_true rfl) (Nat.le_of_ble_eq_true rfl) (Nat.le_of_ble_eq_true rfl) (Nat.le_of_ble_eq_true rfl) rfl ?_
    refine c_fail ?_
    show lm_G X (d + 3) 38 106 0 0 17 [some (.ref 1), some (.int (nI m))] [.int 0] (lm_T (lm_wr (lm_wr M1 1 10 1) 1 11 (M1 1 7)) v G) Q
    exact lm_G_re rfl (by decide) (Nat.zero_le _) (Nat.zero_le _) (hQ.2.1 1 (by unfold rdN; rw [if_neg (fun w => g0 (by rw [w]; rfl))]) _ ⟨rfl, t1.2.2.1⟩ (FrV_w1 (FrV_w1 (FrV_R f1) (by omega)) (by omega)))
  ·
    have k2 : knS T (enS T q) = 2 := (nI_eq (b := 2) (by omega) (by omega)).mp g0
    refine lm_G_sg 1 (pc' := 19) (L' := [some (.ref 1), some (.int (nI m))]) (S' := [.ref 1]) (σ' := lm_T M1 v G) rfl trivial ?_
    refine lm_G_ca (j := 32) (as := [.ref 1]) (rest := []) rfl (Or.inl rfl) (Nat.le_of_ble_eq_true rfl) (Nat.le_of_ble_eq_true rfl) (Nat.le_of_ble_eq_true rfl) (Nat.le_of_ble_eq_true rfl) rfl ?_
    refine c_isLong hT t1 el2 ?_
    show lm_G X (d + 3) 38 106 0 0 22 [some (.ref 1), some (.int (nI m))] [.int (b2i (lgS T (enS T q)))] (lm_T M1 v G) Q
    refine lm_G_br (b := (b2i (lgS T (enS T q))) = 0) (t := 31) (S' := []) rfl (fun g1 => ?_) (fun g1 => ?_)
    rotate_left
    ·
      refine lm_G_sg 2 (pc' := 27) (L' := [some (.ref 1), some (.int (nI m))]) (S' := [.int 2, .ref 1]) (σ' := lm_T M1 v G) rfl trivial ?_
      refine lm_G_ca (j := 25) (as := [.ref 1, .int 2]) (rest := []) rfl (Or.inl rfl) (Nat.le_of_ble_eq_true rfl) (Nat.le_of_ble_eq_true rfl) (Nat.le_of_ble_eq_true rfl) (Nat.le_of_ble_eq_true rfl) rfl ?_
      refine c_fail ?_
      show lm_G X (d + 3) 38 106 0 0 30 [some (.ref 1), some (.int (nI m))] [.int 0] (lm_T (lm_wr (lm_wr M1 1 10 2) 1 11 (M1 1 7)) v G) Q
      exact lm_G_re rfl (by decide) (Nat.zero_le _) (Nat.zero_le _) (hQ.2.1 2 (by
          have gl := b2i_1 g1
          unfold lgS at gl
          rw [Bool.and_eq_true] at gl
          have l4 := of_decide_eq_true gl.2
          unfold rdN
          rw [if_pos k2, if_neg (fun w => by omega)]) _ ⟨rfl, t1.2.2.1⟩ (FrV_w1 (FrV_w1 (FrV_R f1) (by omega)) (by omega)))
    ·
      have l4 : lnS T (enS T q) ≤ 4 := by
        have gl := b2i_0 g1
        unfold lgS at gl
        rw [decide_eq_true k2, Bool.true_and] at gl
        exact Nat.le_of_not_lt (of_decide_eq_false gl)
      have n9 := nu_le k2 l4
      have er : rdN T (enS T q) 0 9999 = .inl (nuS T (enS T q)) := by unfold rdN; rw [if_pos k2, if_pos ⟨l4, Nat.zero_le _, n9⟩]
      refine lm_G_sg 2 (pc' := 35) (L' := [some (.ref 1), some (.int (nI m))]) (S' := [.int (M1 1 9)]) (σ' := lm_T M1 v G) rfl trivial ?_
      rw [show M1 1 9 = nI (nuS T (enS T q)) from t1.2.2.2.2 k2 l4]
      refine lm_G_sg 3 (pc' := 42) (L' := [some (.ref 1), some (.int (nI m))]) (S' := [.int (M1 3 0), .int (nI (nuS T (enS T q)))]) (σ' := lm_T M1 v G) rfl trivial ?_
      rw [show M1 3 0 = nI n from h301]
      refine lm_G_br (b := (nI (nuS T (enS T q))) < (nI n)) (t := 51) (S' := []) rfl (fun g2 => ?_) (fun g2 => ?_)
      rotate_left
      ·
        have q2 : ¬ nuS T (enS T q) < n := fun w => g2 (nI_lt w (by omega))
        refine lm_G_sg 2 (pc' := 47) (L' := [some (.ref 1), some (.int (nI m))]) (S' := [.int 3, .ref 1]) (σ' := lm_T M1 v G) rfl trivial ?_
        refine lm_G_ca (j := 25) (as := [.ref 1, .int 3]) (rest := []) rfl (Or.inl rfl) (Nat.le_of_ble_eq_true rfl) (Nat.le_of_ble_eq_true rfl) (Nat.le_of_ble_eq_true rfl) (Nat.le_of_ble_eq_true rfl) rfl ?_
        refine c_fail ?_
        show lm_G X (d + 3) 38 106 0 0 50 [some (.ref 1), some (.int (nI m))] [.int 0] (lm_T (lm_wr (lm_wr M1 1 10 3) 1 11 (M1 1 7)) v G) Q
        exact lm_G_re rfl (by decide) (Nat.zero_le _) (Nat.zero_le _) (hQ.2.2 _ er q2 _ ⟨rfl, t1.2.2.1⟩ (FrV_w1 (FrV_w1 (FrV_R f1) (by omega)) (by omega)))
      ·
        have q2 : nuS T (enS T q) < n := (nI_ltI (by omega) (by omega)).mp g2
        refine lm_G_sg 6 (pc' := 63) (L' := [some (.ref 1), some (.int (nI m))]) (S' := [.int (M1 1 9), .int (nI m), .ref 10]) (σ' := lm_T M1 v G) rfl trivial ?_
        rw [show M1 1 9 = nI (nuS T (enS T q)) from t1.2.2.2.2 k2 l4]
        refine lm_G_sg 1 (pc' := 64) (L' := [some (.ref 1), some (.int (nI m))]) (S' := []) (σ' := lm_T (lm_wr M1 10 ((nI m).toNatClampNeg) (nI (nuS T (enS T q)))) v G) rfl ⟨(vp_in_nI (by omega) (by omega)), trivial, trivial⟩ ?_
        rw [show (nI m).toNatClampNeg = m from nI_clamp (by omega)]
        refine lm_G_sg 1 (pc' := 65) (L' := [some (.ref 1), some (.int (nI m))]) (S' := [.ref 1]) (σ' := lm_T (lm_wr M1 10 m (nI (nuS T (enS T q)))) v G) rfl trivial ?_
        have u1 : RT (lm_wr M1 10 m (nI (nuS T (enS T q)))) T (enS T q) := RT_w t1 (by decide) (by decide)
        have v1 : FrV M (lm_wr M1 10 m (nI (nuS T (enS T q)))) := FrV_wr (FrV_R f1) rfl (by decide)
        have w1 : (lm_wr M1 10 m (nI (nuS T (enS T q)))) 10 = upd (M 10) m (nI (nuS T (enS T q))) := by show upd (M1 10) m _ = _; rw [FrR_r f1 (by decide)]
        have o1 : ∀ a, 2 ≤ a → a ≠ 10 → (lm_wr M1 10 m (nI (nuS T (enS T q)))) a = M a := fun a h1 h2 => by rw [wr_row h2]; exact FrR_r f1 h1
        have z1 : ∀ k, k = 4 ∨ k = 11 → (lm_wr M1 10 m (nI (nuS T (enS T q)))) 1 k = M 1 k := fun k hk => f1.2 k (by omega) (by omega) (by omega) (by omega)
        revert u1 v1 w1 o1 z1
        generalize lm_wr M1 10 m (nI (nuS T (enS T q))) = N1
        intro u1 v1 w1 o1 z1
        refine lm_G_ca (j := 26) (as := [.ref 1]) (rest := []) rfl (Or.inl rfl) (Nat.le_of_ble_eq_true rfl) (Nat.le_of_ble_eq_true rfl) (Nat.le_of_ble_eq_true rfl) (Nat.le_of_ble_eq_true rfl) rfl ?_
        refine c_nextToken hT u1.1 l2 u1.2.2.2.1 (fun M2 t2 f2 => ?_)
        show lm_G X (d + 3) 38 106 0 0 68 [some (.ref 1), some (.int (nI m))] [] (lm_T M2 v G) Q
        refine lm_G_sg 1 (pc' := 69) (L' := [some (.ref 1), some (.int (nI m))]) (S' := [.int 1]) (σ' := lm_T M2 v G) rfl trivial ?_
        exact lm_G_re rfl (by decide) (Nat.zero_le _) (Nat.zero_le _) (hQ.1 _ er q2 _ t2 (by rw [FrR_r f2 (by decide)]; exact w1) (fun a h1 h2 => (FrR_r f2 h1).trans (o1 a h1 h2)) (fun k hk => (f2.2 k (by omega) (by omega) (by omega) (by omega)).trans (z1 k hk)) (FrV_tr v1 (FrV_R f2)))
set_option maxRecDepth 10000 in
theorem c_readTune {X : lm_X} {T : Tx} (hT : okT T) : ∀ d, CL X T (d + 4) 37 [.ref 1] (lnP T (tuL T)) := by
  intro d
  intro v M G Q p D K ht hp h0 hd hD hkl hok her
  show lm_G X (d + 4) 37 106 0 0 0 [some (.ref 1), none] [] (lm_T M v G) Q
  have hn := hT.1
  obtain ⟨g1_, g2_, g3_, g4_, g5_⟩ := e_ge hp
  obtain ⟨l1, l2, l3, l4, l5⟩ := e_le hp
  have hgt : p < e1 T p := en_gt hp h0
  have hN := hD.1
  have hM := hD.2.1
  refine lm_G_sg 3 (pc' := 7) (L' := [some (.ref 1), none]) (S' := [.int (M 3 6)]) (σ' := lm_T M v G) rfl trivial ?_
  rw [show M 3 6 = nI (dM D) from hd.2.1]
  refine lm_G_sg 3 (pc' := 11) (L' := [some (.ref 1), some (.int (nI (dM D)))]) (S' := [.int 6, .int (nI (dM D))]) (σ' := lm_T M v G) rfl trivial ?_
  refine lm_G_br (b := (nI (dM D)) < 6) (t := 20) (S' := []) rfl (fun g0 => ?_) (fun g0 => ?_)
  rotate_left
  ·
    have h6 : 6 ≤ dM D := Nat.le_of_not_lt (fun w => g0 (nI_lt (b := 6) w (by omega)))
    refine lm_G_sg 2 (pc' := 16) (L' := [some (.ref 1), some (.int (nI (dM D)))]) (S' := [.int 2, .ref 1]) (σ' := lm_T M v G) rfl trivial ?_
    refine lm_G_ca (j := 25) (as := [.ref 1, .int 2]) (rest := []) rfl (Or.inl rfl) (Nat.le_of_ble_eq_true rfl) (Nat.le_of_ble_eq_true rfl) (Nat.le_of_ble_eq_true rfl) (Nat.le_of_ble_eq_true rfl) rfl ?_
    refine c_fail ?_
    show lm_G X (d + 4) 37 106 0 0 19 [some (.ref 1), some (.int (nI (dM D)))] [.int 0] (lm_T (lm_wr (lm_wr M 1 10 2) 1 11 (M 1 7)) v G) Q
    exact lm_G_re rfl (by decide) (Nat.zero_le _) (Nat.zero_le _) (her _ _ (by unfold lnP tuL; rw [if_pos h6]; rfl) _ ⟨rfl, ht.2.2.1⟩ (FrV_w1 (FrV_w1 (FrV_rf _) (by omega)) (by omega)))
  ·
    have h6 : ¬ 6 ≤ dM D := Nat.not_le_of_lt ((nI_ltI (b := 6) (by omega) (by omega)).mp g0)
    have ep : tuL T D p = nuL T (e1 T p) 0 9 fun a => if isWd T (e2 T p) w3 then nuL T (e3 T p) 0 9999 fun x => if x < dNo D then .inl (e4 T p, adT D a (nI x)) else .inr (3, stS' T (e3 T p)) else .inl (e2 T p, adT D a (-1)) := if_neg h6
    obtain ⟨m, em⟩ : ∃ q, q = dM D := ⟨_, rfl⟩
    rw [← em] at h6 hM ⊢
    refine lm_G_sg 1 (pc' := 21) (L' := [some (.ref 1), some (.int (nI m))]) (S' := [.ref 1]) (σ' := lm_T M v G) rfl trivial ?_
    refine lm_G_ca (j := 26) (as := [.ref 1]) (rest := []) rfl (Or.inl rfl) (Nat.le_of_ble_eq_true rfl) (Nat.le_of_ble_eq_true rfl) (Nat.le_of_ble_eq_true rfl) (Nat.le_of_ble_eq_true rfl) rfl ?_
    refine c_nextToken (p := e1 T p) hT ht.1 l1 ht.2.2.2.1 (fun M1 t1 f1 => ?_)
    show lm_G X (d + 4) 37 106 0 0 24 [some (.ref 1), some (.int (nI m))] [] (lm_T M1 v G) Q
    have k84 : ∀ (N : Nat → Fn) (u : Nat) (a : Nat) (o : Int32) (tN_ : RT N T u) (lu : u ≤ tN T) (gu : p ≤ u) (wa : N 9 = upd (M 9) m (nI a)) (wo : N 10 = upd (M 10) m o) (oo : ∀ r, 2 ≤ r → r ≠ 9 → r ≠ 10 → N r = M r) (zz : ∀ k, k = 4 ∨ k = 11 → N 1 k = M 1 k) (vv : FrV M N) (es : tuL T D p = .inl (u, adT D a o)), lm_G X (d + 4) 37 106 0 0 84 [some (.ref 1), some (.int (nI m))] [] (lm_T N v G) Q := by
      intro N u a o tN_ lu gu wa wo oo zz vv es
      have h36 : N 3 6 = nI m := by rw [oo 3 (by decide) (by decide) (by decide), hd.2.1, em]
      refine lm_G_sg 4 (pc' := 92) (L' := [some (.ref 1), some (.int (nI m))]) (S' := [.int (N 3 6), .ref 3]) (σ' := lm_T N v G) rfl trivial ?_
      rw [show N 3 6 = nI m from h36]
      refine lm_G_sg 2 (pc' := 94) (L' := [some (.ref 1), some (.int (nI m))]) (S' := [.int ((nI m) + 1), .ref 3]) (σ' := lm_T N v G) rfl trivial ?_
      rw [show (nI m) + 1 = nI (m + 1) from nI_add m 1]
      refine lm_G_sg 3 (pc' := 100) (L' := [some (.ref 1), some (.int (nI m))]) (S' := [.int 59, .ref 1]) (σ' := lm_T (lm_wr N 3 6 (nI (m + 1))) v G) rfl ⟨trivial, trivial, trivial⟩ ?_
      have u6 : RT (lm_wr N 3 6 (nI (m + 1))) T u := RT_w tN_ (by decide) (by decide)
      have v6 : FrV M (lm_wr N 3 6 (nI (m + 1))) := FrV_wr vv rfl (by decide)
      have y6 : (lm_wr N 3 6 (nI (m + 1))) 1 11 = M 1 11 := zz 11 (Or.inr rfl)
      have d6 : DC (lm_wr N 3 6 (nI (m + 1))) (adT D a o) K := by
        obtain ⟨q1, q2, q3, q4, q5, q6, q7, q8, q9, q10, q11, q12, q13, q14⟩ := hd
        have ro : ∀ r, 3 ≤ r → r ≠ 9 → r ≠ 10 → N r = M r := fun r h1 h2 h3 => oo r (by omega) h2 h3
        have r3 : N 3 = M 3 := ro 3 (by decide) (by decide) (by decide)
        refine ⟨?_, ?_, ?_, (zz 4 (Or.inl rfl)).trans q4, ?_, ?_, ?_, ?_, ?_, ?_, ?_, ?_, ?_, ?_⟩
        · show N 3 0 = _
          rw [r3]; exact q1
        · show nI (m + 1) = nI (dM D + 1)
          rw [em]
        · show N 3 9 = _
          rw [r3]; exact q3
        · show Ag (dNo D) (N 4) _
          rw [ro 4 (by decide) (by decide) (by decide)]; exact q5
        · show Ag (dNo D) (N 5) _
          rw [ro 5 (by decide) (by decide) (by decide)]; exact q6
        · show Ag (dNo D) (N 6) _
          rw [ro 6 (by decide) (by decide) (by decide)]; exact q7
        · show Ag (dNo D) (N 7) _
          rw [ro 7 (by decide) (by decide) (by decide)]; exact q8
        · show Ag (dNo D) (N 8) _
          rw [ro 8 (by decide) (by decide) (by decide)]; exact q9
        · show Ag (dM D + 1) (N 9) _
          rw [wa, em]; exact Ag_ad q10 _
        · show Ag (dM D + 1) (N 10) _
          rw [wo, em]; exact Ag_ad q11 _
        · show N 3 11 = _ ∧ ∀ i, i < K.length → N 11 i = _
          rw [r3, ro 11 (by decide) (by decide) (by decide)]; exact q12
        · show ∃ a, a + (dR0 D).length ≤ K.length ∧ N 12 0 = nI a ∧ N 13 0 = nI (a + (dR0 D).length) ∧ _
          rw [ro 12 (by decide) (by decide) (by decide), ro 13 (by decide) (by decide) (by decide)]; exact q13
        · show ∃ a, a + (dR1 D).length ≤ K.length ∧ N 12 1 = nI a ∧ N 13 1 = nI (a + (dR1 D).length) ∧ _
          rw [ro 12 (by decide) (by decide) (by decide), ro 13 (by decide) (by decide) (by decide)]; exact q14
      revert u6 v6 y6 d6
      generalize lm_wr N 3 6 (nI (m + 1)) = N6
      intro u6 v6 y6 d6
      refine lm_G_ca (j := 34) (as := [.ref 1, .int 59]) (rest := []) rfl (Or.inl rfl) (Nat.le_of_ble_eq_true rfl) (Nat.le_of_ble_eq_true rfl) (Nat.le_of_ble_eq_true rfl) (Nat.le_of_ble_eq_true rfl) rfl ?_
      refine c_readSign (c := 59) hT u6 lu (by omega) ⟨fun s9 M9 t9 f9 => ?_, fun s9 M9 b9 f9 => ?_⟩
      ·
        show lm_G X (d + 4) 37 106 0 0 103 [some (.ref 1), some (.int (nI m))] [.int 1] (lm_T M9 v G) Q
        exact lm_G_re rfl (by decide) (Nat.zero_le _) (Nat.zero_le _) (hok _ _ (by unfold lnP; rw [es]; simp only [seL]; rw [if_pos s9]) _ K t9 (DC_R d6 f9) (Nat.le_trans hkl (Nat.le_trans gu (Nat.le_trans (st_le lu).1 (en_le lu).1))) (FrV_tr v6 (FrV_R f9)) ((f9.2 11 (by decide) (by decide) (by decide) (by decide)).trans y6))
      ·
        show lm_G X (d + 4) 37 106 0 0 103 [some (.ref 1), some (.int (nI m))] [.int 0] (lm_T M9 v G) Q
        exact lm_G_re rfl (by decide) (Nat.zero_le _) (Nat.zero_le _) (her _ _ (by unfold lnP; rw [es]; simp only [seL]; rw [if_neg (by rw [s9]; decide)]) _ b9 (FrV_tr v6 f9))
    refine lm_G_sg 7 (pc' := 36) (L' := [some (.ref 1), some (.int (nI m))]) (S' := [.int 9, .int 0, .ref 1, .int (nI m), .ref 9]) (σ' := lm_T M1 v G) rfl trivial ?_
    refine lm_G_ca (j := 35) (as := [.ref 1, .int 0, .int 9]) (rest := [.int (nI m), .ref 9]) rfl (Or.inl rfl) (Nat.le_of_ble_eq_true rfl) (Nat.le_of_ble_eq_true rfl) (Nat.le_of_ble_eq_true rfl) (Nat.le_of_ble_eq_true rfl) rfl ?_
    refine c_readNumber (p := e1 T p) (lo := 0) (hi := 9) hT t1 l1 (by omega) (by omega) ⟨fun x2 er2 M2 t2 f2 => ?_, fun f2_ er2 M2 b2 f2 => ?_⟩
    rotate_left
    ·
      show lm_G X (d + 4) 37 106 0 0 39 [some (.ref 1), some (.int (nI m))] [.int (-1), .int (nI m), .ref 9] (lm_T M2 v G) Q
      refine lm_G_sg 1 (pc' := 40) (L' := [some (.ref 1), some (.int (nI m))]) (S' := []) (σ' := lm_T (lm_wr M2 9 ((nI m).toNatClampNeg) (-1)) v G) rfl ⟨(vp_in_nI (by omega) (by omega)), trivial, trivial⟩ ?_
      rw [show (nI m).toNatClampNeg = m from nI_clamp (by omega)]
      refine lm_G_sg 5 (pc' := 49) (L' := [some (.ref 1), some (.int (nI m))]) (S' := [.int ((lm_wr M2 9 m (-1)) 9 (nI m).toNatClampNeg)]) (σ' := lm_T (lm_wr M2 9 m (-1)) v G) rfl ⟨(vp_in_nI (by omega) (by omega)), trivial, trivial⟩ ?_
      rw [show (nI m).toNatClampNeg = m from nI_clamp (by omega)]
      show lm_G X (d + 4) 37 106 0 0 49 [some (.ref 1), some (.int (nI m))] [.int ((lm_wr M2 9 m (-1)) 9 m)] (lm_T (lm_wr M2 9 m (-1)) v G) Q
      rw [wr_same]
      refine lm_G_sg 1 (pc' := 50) (L' := [some (.ref 1), some (.int (nI m))]) (S' := [.int (-1), .int (-1)]) (σ' := lm_T (lm_wr M2 9 m (-1)) v G) rfl trivial ?_
      refine lm_G_br (b := ¬ (-1) = (-1)) (t := 55) (S' := []) rfl (fun hc => absurd rfl hc) (fun hc => ?_)
      refine lm_G_sg 1 (pc' := 54) (L' := [some (.ref 1), some (.int (nI m))]) (S' := [.int 0]) (σ' := lm_T (lm_wr M2 9 m (-1)) v G) rfl trivial ?_
      exact lm_G_re rfl (by decide) (Nat.zero_le _) (Nat.zero_le _) (her _ _ (by unfold lnP; rw [ep, nuL_f er2]; rfl) _ b2 (FrV_wr (FrV_tr (FrV_R f1) f2) rfl (by decide)))
    ·
      show lm_G X (d + 4) 37 106 0 0 39 [some (.ref 1), some (.int (nI m))] [.int (nI x2), .int (nI m), .ref 9] (lm_T M2 v G) Q
      obtain ⟨y2, y2b, _⟩ := rdN_b er2
      rw [nuL_x er2] at ep
      refine lm_G_sg 1 (pc' := 40) (L' := [some (.ref 1), some (.int (nI m))]) (S' := []) (σ' := lm_T (lm_wr M2 9 ((nI m).toNatClampNeg) (nI x2)) v G) rfl ⟨(vp_in_nI (by omega) (by omega)), trivial, trivial⟩ ?_
      rw [show (nI m).toNatClampNeg = m from nI_clamp (by omega)]
      refine lm_G_sg 5 (pc' := 49) (L' := [some (.ref 1), some (.int (nI m))]) (S' := [.int ((lm_wr M2 9 m (nI x2)) 9 (nI m).toNatClampNeg)]) (σ' := lm_T (lm_wr M2 9 m (nI x2)) v G) rfl ⟨(vp_in_nI (by omega) (by omega)), trivial, trivial⟩ ?_
      rw [show (nI m).toNatClampNeg = m from nI_clamp (by omega)]
      show lm_G X (d + 4) 37 106 0 0 49 [some (.ref 1), some (.int (nI m))] [.int ((lm_wr M2 9 m (nI x2)) 9 m)] (lm_T (lm_wr M2 9 m (nI x2)) v G) Q
      rw [wr_same]
      refine lm_G_sg 1 (pc' := 50) (L' := [some (.ref 1), some (.int (nI m))]) (S' := [.int (-1), .int (nI x2)]) (σ' := lm_T (lm_wr M2 9 m (nI x2)) v G) rfl trivial ?_
      refine lm_G_br (b := ¬ (nI x2) = (-1)) (t := 55) (S' := []) rfl (fun hc => ?_) (fun hc => absurd (Classical.not_not.mp hc) (nI_m1 (by omega)))
      refine lm_G_sg 6 (pc' := 65) (L' := [some (.ref 1), some (.int (nI m))]) (S' := []) (σ' := lm_T (lm_wr (lm_wr M2 9 m (nI x2)) 10 ((nI m).toNatClampNeg) (-1)) v G) rfl ⟨(vp_in_nI (by omega) (by omega)), trivial, trivial⟩ ?_
      rw [show (nI m).toNatClampNeg = m from nI_clamp (by omega)]
      refine lm_G_sg 2 (pc' := 68) (L' := [some (.ref 1), some (.int (nI m))]) (S' := [.ref 1003, .ref 1]) (σ' := lm_T (lm_wr (lm_wr M2 9 m (nI x2)) 10 m (-1)) v G) rfl trivial ?_
      have u1 : RT (lm_wr (lm_wr M2 9 m (nI x2)) 10 m (-1)) T (e2 T p) := RT_w (RT_w t2 (by decide) (by decide)) (by decide) (by decide)
      have v1 : FrV M (lm_wr (lm_wr M2 9 m (nI x2)) 10 m (-1)) := FrV_wr (FrV_wr (FrV_tr (FrV_R f1) (FrV_R f2)) rfl (by decide)) rfl (by decide)
      have wa : (lm_wr (lm_wr M2 9 m (nI x2)) 10 m (-1)) 9 = upd (M 9) m (nI x2) := by show upd (M2 9) m _ = _; rw [FrR_r f2 (by decide), FrR_r f1 (by decide)]
      have wo : (lm_wr (lm_wr M2 9 m (nI x2)) 10 m (-1)) 10 = upd (M 10) m (-1) := by show upd (M2 10) m _ = _; rw [FrR_r f2 (by decide), FrR_r f1 (by decide)]
      have o1 : ∀ r, 2 ≤ r → r ≠ 9 → r ≠ 10 → (lm_wr (lm_wr M2 9 m (nI x2)) 10 m (-1)) r = M r := fun r h1 h2 h3 => by rw [wr_row h3, wr_row h2]; exact (FrR_r f2 h1).trans (FrR_r f1 h1)
      have z1 : ∀ k, k = 4 ∨ k = 11 → (lm_wr (lm_wr M2 9 m (nI x2)) 10 m (-1)) 1 k = M 1 k := fun k hk => (f2.2 k (by omega) (by omega) (by omega) (by omega)).trans (f1.2 k (by omega) (by omega) (by omega) (by omega))
      revert u1 v1 wa wo o1 z1
      generalize lm_wr (lm_wr M2 9 m (nI x2)) 10 m (-1) = N1
      intro u1 v1 wa wo o1 z1
      refine lm_G_ca (j := 30) (as := [.ref 1, .ref 1003]) (rest := []) rfl (Or.inl rfl) (Nat.le_of_ble_eq_true rfl) (Nat.le_of_ble_eq_true rfl) (Nat.le_of_ble_eq_true rfl) (Nat.le_of_ble_eq_true rfl) rfl ?_
      refine c_isWord3 hT u1 l2 ?_
      show lm_G X (d + 4) 37 106 0 0 71 [some (.ref 1), some (.int (nI m))] [.int (b2i (isWd T (e2 T p) w3))] (lm_T N1 v G) Q
      refine lm_G_br (b := (b2i (isWd T (e2 T p) w3)) = 0) (t := 84) (S' := []) rfl (fun g3 => ?_) (fun g3 => ?_)
      ·
        exact k84 _ _ x2 (-1) u1 l2 (by omega) wa wo o1 z1 v1 (by rw [ep, if_neg (by rw [b2i_0 g3]; decide)])
      ·
        rw [if_pos (b2i_1 g3)] at ep
        have h30 : N1 3 0 = nI (dNo D) := by rw [o1 3 (by decide) (by decide) (by decide)]; exact hd.1
        refine lm_G_sg 2 (pc' := 76) (L' := [some (.ref 1), some (.int (nI m))]) (S' := [.int (nI m), .ref 1]) (σ' := lm_T N1 v G) rfl trivial ?_
        refine lm_G_ca (j := 38) (as := [.ref 1, .int (nI m)]) (rest := []) rfl (Or.inl rfl) (Nat.le_of_ble_eq_true rfl) (Nat.le_of_ble_eq_true rfl) (Nat.le_of_ble_eq_true rfl) (Nat.le_of_ble_eq_true rfl) rfl ?_
        refine c_readOwner (q := e2 T p) (m := m) (n := dNo D) hT u1 l2 (by omega) hN h30 ⟨fun x er hx M3 t3 w3_ o3 z3 v3 => ?_, fun f er M3 b3 v3 => ?_, fun x er hx M3 b3 v3 => ?_⟩
        ·
          show lm_G X (d + 4) 37 106 0 0 79 [some (.ref 1), some (.int (nI m))] [.int 1] (lm_T M3 v G) Q
          replace er : rdN T (e3 T p) 0 9999 = .inl x := er
          replace t3 : RT M3 T (e4 T p) := t3
          refine lm_G_br (b := ¬ 1 = 0) (t := 84) (S' := []) rfl (fun hc => ?_) (fun hc => absurd (Classical.not_not.mp hc) (by decide))
          exact k84 _ _ x2 (nI x) t3 l4 (by omega) ((o3 9 (by decide) (by decide)).trans wa) (by rw [w3_, wo]; exact upd_upd) (fun r h1 h2 h3 => (o3 r h1 h3).trans (o1 r h1 h2 h3)) (fun k hk => (z3 k hk).trans (z1 k hk)) (FrV_tr v1 v3) (by rw [ep, nuL_x er, if_pos hx])
        ·
          show lm_G X (d + 4) 37 106 0 0 79 [some (.ref 1), some (.int (nI m))] [.int 0] (lm_T M3 v G) Q
          replace er : rdN T (e3 T p) 0 9999 = .inr f := er
          replace b3 : BC M3 f (stS' T (e3 T p)) := b3
          refine lm_G_br (b := ¬ 0 = 0) (t := 84) (S' := []) rfl (fun hc => absurd rfl hc) (fun hc => ?_)
          refine lm_G_sg 1 (pc' := 83) (L' := [some (.ref 1), some (.int (nI m))]) (S' := [.int 0]) (σ' := lm_T M3 v G) rfl trivial ?_
          exact lm_G_re rfl (by decide) (Nat.zero_le _) (Nat.zero_le _) (her _ _ (by unfold lnP; rw [ep, nuL_f er]; rfl) _ b3 (FrV_tr v1 v3))
        ·
          show lm_G X (d + 4) 37 106 0 0 79 [some (.ref 1), some (.int (nI m))] [.int 0] (lm_T M3 v G) Q
          replace er : rdN T (e3 T p) 0 9999 = .inl x := er
          replace b3 : BC M3 3 (stS' T (e3 T p)) := b3
          refine lm_G_br (b := ¬ 0 = 0) (t := 84) (S' := []) rfl (fun hc => absurd rfl hc) (fun hc => ?_)
          refine lm_G_sg 1 (pc' := 83) (L' := [some (.ref 1), some (.int (nI m))]) (S' := [.int 0]) (σ' := lm_T M3 v G) rfl trivial ?_
          exact lm_G_re rfl (by decide) (Nat.zero_le _) (Nat.zero_le _) (her _ _ (by unfold lnP; rw [ep, nuL_x er, if_neg hx]; rfl) _ b3 (FrV_tr v1 v3))
set_option maxRecDepth 10000 in
theorem c_readEarshot {X : lm_X} {T : Tx} (hT : okT T) : ∀ d, CL X T (d + 3) 39 [.ref 1] (lnP T (eaL T)) := by
  intro d
  intro v M G Q p D K ht hp h0 hd hD hkl hok her
  show lm_G X (d + 3) 39 106 0 0 0 [some (.ref 1)] [] (lm_T M v G) Q
  have hn := hT.1
  obtain ⟨g1_, g2_, g3_, g4_, g5_⟩ := e_ge hp
  obtain ⟨l1, l2, l3, l4, l5⟩ := e_le hp
  have hgt : p < e1 T p := en_gt hp h0
  have hN := hD.1
  have hM := hD.2.1
  refine lm_G_sg 2 (pc' := 4) (L' := [some (.ref 1)]) (S' := [.int (M 1 4)]) (σ' := lm_T M v G) rfl trivial ?_
  rw [show M 1 4 = b2i (dT D) from hd.2.2.2.1]
  refine lm_G_br (b := (b2i (dT D)) = 0) (t := 13) (S' := []) rfl (fun g0 => ?_) (fun g0 => ?_)
  rotate_left
  ·
    refine lm_G_sg 2 (pc' := 9) (L' := [some (.ref 1)]) (S' := [.int 5, .ref 1]) (σ' := lm_T M v G) rfl trivial ?_
    refine lm_G_ca (j := 25) (as := [.ref 1, .int 5]) (rest := []) rfl (Or.inl rfl) (Nat.le_of_ble_eq_true rfl) (Nat.le_of_ble_eq_true rfl) (Nat.le_of_ble_eq_true rfl) (Nat.le_of_ble_eq_true rfl) rfl ?_
    refine c_fail ?_
    show lm_G X (d + 3) 39 106 0 0 12 [some (.ref 1)] [.int 0] (lm_T (lm_wr (lm_wr M 1 10 5) 1 11 (M 1 7)) v G) Q
    exact lm_G_re rfl (by decide) (Nat.zero_le _) (Nat.zero_le _) (her _ _ (by unfold lnP eaL; rw [if_pos (b2i_1 g0)]; rfl) _ ⟨rfl, ht.2.2.1⟩ (FrV_w1 (FrV_w1 (FrV_rf _) (by omega)) (by omega)))
  ·
    have ep : eaL T D p = nuL T (e1 T p) 0 30 fun x => .inl (e2 T p, adE D x) := by unfold eaL; rw [if_neg (by rw [b2i_0 g0]; decide)]
    refine lm_G_sg 1 (pc' := 14) (L' := [some (.ref 1)]) (S' := [.ref 1]) (σ' := lm_T M v G) rfl trivial ?_
    refine lm_G_ca (j := 26) (as := [.ref 1]) (rest := []) rfl (Or.inl rfl) (Nat.le_of_ble_eq_true rfl) (Nat.le_of_ble_eq_true rfl) (Nat.le_of_ble_eq_true rfl) (Nat.le_of_ble_eq_true rfl) rfl ?_
    refine c_nextToken (p := e1 T p) hT ht.1 l1 ht.2.2.2.1 (fun M1 t1 f1 => ?_)
    show lm_G X (d + 3) 39 106 0 0 17 [some (.ref 1)] [] (lm_T M1 v G) Q
    refine lm_G_sg 3 (pc' := 22) (L' := [some (.ref 1)]) (S' := []) (σ' := lm_T (lm_wr M1 1 4 1) v G) rfl ⟨(by decide), trivial, trivial⟩ ?_
    have u1 : RT (lm_wr M1 1 4 1) T (e1 T p) := t1
    have v1 : FrV M (lm_wr M1 1 4 1) := FrV_w1 (FrV_R f1) (by omega)
    have o1 : ∀ r, 2 ≤ r → (lm_wr M1 1 4 1) r = M r := fun r h1 => by rw [wr_row (by omega)]; exact FrR_r f1 h1
    have z1 : (lm_wr M1 1 4 1) 1 4 = 1 := rfl
    have y1 : (lm_wr M1 1 4 1) 1 11 = M 1 11 := f1.2 11 (by decide) (by decide) (by decide) (by decide)
    revert u1 v1 o1 z1 y1
    generalize lm_wr M1 1 4 1 = N1
    intro u1 v1 o1 z1 y1
    refine lm_G_sg 5 (pc' := 30) (L' := [some (.ref 1)]) (S' := [.int 30, .int 0, .ref 1, .ref 3]) (σ' := lm_T N1 v G) rfl trivial ?_
    refine lm_G_ca (j := 35) (as := [.ref 1, .int 0, .int 30]) (rest := [.ref 3]) rfl (Or.inl rfl) (Nat.le_of_ble_eq_true rfl) (Nat.le_of_ble_eq_true rfl) (Nat.le_of_ble_eq_true rfl) (Nat.le_of_ble_eq_true rfl) rfl ?_
    refine c_readNumber (p := e1 T p) (lo := 0) (hi := 30) hT u1 l1 (by omega) (by omega) ⟨fun x2 er2 M2 t2 f2 => ?_, fun f2_ er2 M2 b2 f2 => ?_⟩
    rotate_left
    ·
      show lm_G X (d + 3) 39 106 0 0 33 [some (.ref 1)] [.int (-1), .ref 3] (lm_T M2 v G) Q
      refine lm_G_sg 5 (pc' := 44) (L' := [some (.ref 1)]) (S' := [.int (-1), .int (-1)]) (σ' := lm_T (lm_wr M2 3 9 (-1)) v G) rfl ⟨trivial, trivial, trivial⟩ ?_
      refine lm_G_br (b := (-1) = (-1)) (t := 60) (S' := []) rfl (fun hc => ?_) (fun hc => absurd rfl hc)
      refine lm_G_sg 1 (pc' := 61) (L' := [some (.ref 1)]) (S' := [.int 0]) (σ' := lm_T (lm_wr M2 3 9 (-1)) v G) rfl trivial ?_
      exact lm_G_re rfl (by decide) (Nat.zero_le _) (Nat.zero_le _) (her _ _ (by unfold lnP; rw [ep, nuL_f er2]; rfl) _ b2 (FrV_wr (FrV_tr v1 f2) rfl (by decide)))
    ·
      show lm_G X (d + 3) 39 106 0 0 33 [some (.ref 1)] [.int (nI x2), .ref 3] (lm_T M2 v G) Q
      obtain ⟨y2, y2b, _⟩ := rdN_b er2
      rw [nuL_x er2] at ep
      refine lm_G_sg 5 (pc' := 44) (L' := [some (.ref 1)]) (S' := [.int (-1), .int (nI x2)]) (σ' := lm_T (lm_wr M2 3 9 (nI x2)) v G) rfl ⟨trivial, trivial, trivial⟩ ?_
      refine lm_G_br (b := (nI x2) = (-1)) (t := 60) (S' := []) rfl (fun hc => absurd hc (nI_m1 (by omega))) (fun hc => ?_)
      have u6 : RT (lm_wr M2 3 9 (nI x2)) T (e2 T p) := RT_w t2 (by decide) (by decide)
      have v6 : FrV M (lm_wr M2 3 9 (nI x2)) := FrV_wr (FrV_tr v1 (FrV_R f2)) rfl (by decide)
      have y6 : (lm_wr M2 3 9 (nI x2)) 1 11 = M 1 11 := (f2.2 11 (by decide) (by decide) (by decide) (by decide)).trans y1
      have d6 : DC (lm_wr M2 3 9 (nI x2)) (adE D x2) K := by
        obtain ⟨q1, q2, q3, q4, q5, q6, q7, q8, q9, q10, q11, q12, q13, q14⟩ := hd
        have ro : ∀ r, 2 ≤ r → M2 r = M r := fun r h1 => (FrR_r f2 h1).trans (o1 r h1)
        have r3 : M2 3 = M 3 := ro 3 (by decide)
        refine ⟨?_, ?_, rfl, ?_, ?_, ?_, ?_, ?_, ?_, ?_, ?_, ?_, ?_, ?_⟩
        · show M2 3 0 = _
          rw [r3]; exact q1
        · show M2 3 6 = _
          rw [r3]; exact q2
        · show M2 1 4 = 1
          exact (f2.2 4 (by decide) (by decide) (by decide) (by decide)).trans z1
        · show Ag (dNo D) (M2 4) _
          rw [ro 4 (by decide)]; exact q5
        · show Ag (dNo D) (M2 5) _
          rw [ro 5 (by decide)]; exact q6
        · show Ag (dNo D) (M2 6) _
          rw [ro 6 (by decide)]; exact q7
        · show Ag (dNo D) (M2 7) _
          rw [ro 7 (by decide)]; exact q8
        · show Ag (dNo D) (M2 8) _
          rw [ro 8 (by decide)]; exact q9
        · show Ag (dM D) (M2 9) _
          rw [ro 9 (by decide)]; exact q10
        · show Ag (dM D) (M2 10) _
          rw [ro 10 (by decide)]; exact q11
        · show M2 3 11 = _ ∧ ∀ i, i < K.length → M2 11 i = _
          rw [r3, ro 11 (by decide)]; exact q12
        · show ∃ a, a + (dR0 D).length ≤ K.length ∧ M2 12 0 = nI a ∧ M2 13 0 = nI (a + (dR0 D).length) ∧ _
          rw [ro 12 (by decide), ro 13 (by decide)]; exact q13
        · show ∃ a, a + (dR1 D).length ≤ K.length ∧ M2 12 1 = nI a ∧ M2 13 1 = nI (a + (dR1 D).length) ∧ _
          rw [ro 12 (by decide), ro 13 (by decide)]; exact q14
      revert u6 v6 y6 d6
      generalize lm_wr M2 3 9 (nI x2) = N6
      intro u6 v6 y6 d6
      refine lm_G_sg 2 (pc' := 50) (L' := [some (.ref 1)]) (S' := [.int 59, .ref 1]) (σ' := lm_T N6 v G) rfl trivial ?_
      refine lm_G_ca (j := 34) (as := [.ref 1, .int 59]) (rest := []) rfl (Or.inl rfl) (Nat.le_of_ble_eq_true rfl) (Nat.le_of_ble_eq_true rfl) (Nat.le_of_ble_eq_true rfl) (Nat.le_of_ble_eq_true rfl) rfl ?_
      refine c_readSign (c := 59) hT u6 l2 (by omega) ⟨fun s9 M9 t9 f9 => ?_, fun s9 M9 b9 f9 => ?_⟩
      ·
        show lm_G X (d + 3) 39 106 0 0 53 [some (.ref 1)] [.int 1] (lm_T M9 v G) Q
        refine lm_G_br (b := 1 = 0) (t := 60) (S' := []) rfl (fun hc => absurd hc (by decide)) (fun hc => ?_)
        refine lm_G_sg 2 (pc' := 61) (L' := [some (.ref 1)]) (S' := [.int 1]) (σ' := lm_T M9 v G) rfl trivial ?_
        exact lm_G_re rfl (by decide) (Nat.zero_le _) (Nat.zero_le _) (hok _ _ (by unfold lnP; rw [ep]; simp only [seL]; rw [if_pos s9]) _ K t9 (DC_R d6 f9) (Nat.le_trans hkl (Nat.le_trans (by omega : p ≤ e2 T p) (Nat.le_trans (st_le l2).1 (en_le l2).1))) (FrV_tr v6 (FrV_R f9)) ((f9.2 11 (by decide) (by decide) (by decide) (by decide)).trans y6))
      ·
        show lm_G X (d + 3) 39 106 0 0 53 [some (.ref 1)] [.int 0] (lm_T M9 v G) Q
        refine lm_G_br (b := 0 = 0) (t := 60) (S' := []) rfl (fun hc => ?_) (fun hc => absurd rfl hc)
        refine lm_G_sg 1 (pc' := 61) (L' := [some (.ref 1)]) (S' := [.int 0]) (σ' := lm_T M9 v G) rfl trivial ?_
        exact lm_G_re rfl (by decide) (Nat.zero_le _) (Nat.zero_le _) (her _ _ (by unfold lnP; rw [ep]; simp only [seL]; rw [if_neg (by rw [s9]; decide)]) _ b9 (FrV_tr v6 f9))
