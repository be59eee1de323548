/-! ===== contracts: the model's hour ===== -/
theorem m_isOf {X : lm_X} {d v : Nat} {M : Nat → Nat → Int32} {G : Nat → Nat → Int64} {Q : lm_O → lm_S → Prop} {x : Int32} {q : Nat} (hQ : Q (.inl (some (.int (b2i (bitW x q))))) (lm_T M v G)) : lm_Q X d 143 [.int x, .int (nI q)] (lm_T M v G) Q := c_isOf hQ
set_option maxRecDepth 10000 in
theorem m_layValues {X : lm_X} {d v : Nat} {M : Nat → Nat → Int32} {G : Nat → Nat → Int64} {Q : lm_O → lm_S → Prop} {F : Fa} {s : Sc} {p t : Nat} (hF : okF F) (h : RM M F s) (hp : p < fN F) (ht : t < fM F) (hQ : ∀ M1, Fr frA M M1 → (∀ x, Ag 5 (M1 88) (vsS F s p t x)) → Q (.inl none) (lm_T M1 v G)) : lm_Q X (d + 1) 186 [.ref 64, .int (nI p), .int (nI t)] (lm_T M v G) Q := by
  have hn := hF.n
  have hm := hF.m
  show lm_G X (d + 1) 186 106 0 0 0 [some (.ref 64), some (.int (nI p)), some (.int (nI t))] [] (lm_T M v G) Q
  refine lm_G_sg 7 (pc' := 11) (L' := [some (.ref 64), some (.int (nI p)), some (.int (nI t))]) (S' := [.int (M 79 (nI p).toNatClampNeg), .int 0, .ref 88]) (σ' := lm_T M v G) rfl ⟨(vp_in_nI (by omega) (by omega)), trivial, trivial⟩ ?_
  rw [show (nI p).toNatClampNeg = p from nI_clamp (by omega)]
  rw [show M 79 p = sBr s p from h.br p (by omega)]
  refine lm_G_sg 8 (pc' := 23) (L' := [some (.ref 64), some (.int (nI p)), some (.int (nI t))]) (S' := [.int ((lm_wr M 88 0 (sBr s p)) 74 (nI t).toNatClampNeg), .int 1, .ref 88]) (σ' := lm_T (lm_wr M 88 0 (sBr s p)) v G) rfl ⟨(lm_inb_ok rfl), trivial, (vp_in_nI (by omega) (by omega)), trivial, trivial⟩ ?_
  rw [show (nI t).toNatClampNeg = t from nI_clamp (by omega)]
  show lm_G X (d + 1) 186 106 0 0 23 [some (.ref 64), some (.int (nI p)), some (.int (nI t))] [.int (M 74 t), .int 1, .ref 88] (lm_T (lm_wr M 88 0 (sBr s p)) v G) Q
  rw [show M 74 t = fAi F t from h.ai t (by omega)]
  refine lm_G_sg 6 (pc' := 31) (L' := [some (.ref 64), some (.int (nI p)), some (.int (nI t))]) (S' := [.int (nI t), .ref 64, .int 2, .ref 88]) (σ' := lm_T (lm_wr (lm_wr M 88 0 (sBr s p)) 88 1 (fAi F t)) v G) rfl ⟨(lm_inb_ok rfl), trivial, trivial⟩ ?_
  refine lm_G_ca (j := 181) (as := [.ref 64, .int (nI t)]) (rest := [.int 2, .ref 88]) rfl (Or.inl rfl) (Nat.le_of_ble_eq_true rfl) (Nat.le_of_ble_eq_true rfl) (Nat.le_of_ble_eq_true rfl) (Nat.le_of_ble_eq_true rfl) rfl ?_
  refine m_whoHums hF (RM_A h (Fr_wr (Fr_wr (Fr_rf _ _) rfl) rfl)) ?_
  show lm_G X (d + 1) 186 106 0 0 34 [some (.ref 64), some (.int (nI p)), some (.int (nI t))] [.int (humS F (sHu s) (nI t)), .int 2, .ref 88] (lm_T (lm_wr (lm_wr M 88 0 (sBr s p)) 88 1 (fAi F t)) v G) Q
  refine lm_G_sg 6 (pc' := 40) (L' := [some (.ref 64), some (.int (nI p)), some (.int (nI t))]) (S' := [.int ((humS F (sHu s) (nI t)) &&& ((1 <<< ((nI p) &&& 31)) ^^^ (-1))), .int 2, .ref 88]) (σ' := lm_T (lm_wr (lm_wr M 88 0 (sBr s p)) 88 1 (fAi F t)) v G) rfl trivial ?_
  show lm_G X (d + 1) 186 106 0 0 40 [some (.ref 64), some (.int (nI p)), some (.int (nI t))] [.int ((humS F (sHu s) (nI t)) &&& ((1 <<< ((nI p) &&& 31)) ^^^ (-1))), .int 2, .ref 88] (lm_T (lm_wr (lm_wr M 88 0 (sBr s p)) 88 1 (fAi F t)) v G) Q
  refine lm_G_ca (j := 144) (as := [.int ((humS F (sHu s) (nI t)) &&& ((1 <<< ((nI p) &&& 31)) ^^^ (-1)))]) (rest := [.int 2, .ref 88]) rfl (Or.inl rfl) (Nat.le_of_ble_eq_true rfl) (Nat.le_of_ble_eq_true rfl) (Nat.le_of_ble_eq_true rfl) (Nat.le_of_ble_eq_true rfl) rfl ?_
  refine m_bits (and_lt2 (hum_lt hF _ _) _) ?_
  show lm_G X (d + 1) 186 106 0 0 43 [some (.ref 64), some (.int (nI p)), some (.int (nI t))] [.int (cnt (humS F (sHu s) (nI t) &&& (bit1 (nI p) ^^^ (-1)))), .int 2, .ref 88] (lm_T (lm_wr (lm_wr M 88 0 (sBr s p)) 88 1 (fAi F t)) v G) Q
  refine lm_G_sg 6 (pc' := 51) (L' := [some (.ref 64), some (.int (nI p)), some (.int (nI t))]) (S' := [.int (nI p), .ref 64, .int 3, .ref 88]) (σ' := lm_T (lm_wr (lm_wr (lm_wr M 88 0 (sBr s p)) 88 1 (fAi F t)) 88 2 (cnt (humS F (sHu s) (nI t) &&& (bit1 (nI p) ^^^ (-1))))) v G) rfl ⟨(lm_inb_ok rfl), trivial, trivial⟩ ?_
  refine lm_G_ca (j := 183) (as := [.ref 64, .int (nI p)]) (rest := [.int 3, .ref 88]) rfl (Or.inl rfl) (Nat.le_of_ble_eq_true rfl) (Nat.le_of_ble_eq_true rfl) (Nat.le_of_ble_eq_true rfl) (Nat.le_of_ble_eq_true rfl) rfl ?_
  refine m_ownedBy hF (RM_A h (Fr_wr (Fr_wr (Fr_wr (Fr_rf _ _) rfl) rfl) rfl)) ?_
  show lm_G X (d + 1) 186 106 0 0 54 [some (.ref 64), some (.int (nI p)), some (.int (nI t))] [.int (ownS F (sOw s) (nI p)), .int 3, .ref 88] (lm_T (lm_wr (lm_wr (lm_wr M 88 0 (sBr s p)) 88 1 (fAi F t)) 88 2 (cnt (humS F (sHu s) (nI t) &&& (bit1 (nI p) ^^^ (-1))))) v G) Q
  refine lm_G_ca (j := 144) (as := [.int (ownS F (sOw s) (nI p))]) (rest := [.int 3, .ref 88]) rfl (Or.inl rfl) (Nat.le_of_ble_eq_true rfl) (Nat.le_of_ble_eq_true rfl) (Nat.le_of_ble_eq_true rfl) (Nat.le_of_ble_eq_true rfl) rfl ?_
  refine m_bits (own_lt hF _ _) ?_
  show lm_G X (d + 1) 186 106 0 0 57 [some (.ref 64), some (.int (nI p)), some (.int (nI t))] [.int (cnt (ownS F (sOw s) (nI p))), .int 3, .ref 88] (lm_T (lm_wr (lm_wr (lm_wr M 88 0 (sBr s p)) 88 1 (fAi F t)) 88 2 (cnt (humS F (sHu s) (nI t) &&& (bit1 (nI p) ^^^ (-1))))) v G) Q
  refine lm_G_sg 6 (pc' := 67) (L' := [some (.ref 64), some (.int (nI p)), some (.int (nI t))]) (S' := [.int (M 64 36), .int 4, .ref 88]) (σ' := lm_T (lm_wr (lm_wr (lm_wr (lm_wr M 88 0 (sBr s p)) 88 1 (fAi F t)) 88 2 (cnt (humS F (sHu s) (nI t) &&& (bit1 (nI p) ^^^ (-1))))) 88 3 (cnt (ownS F (sOw s) (nI p)))) v G) rfl ⟨(lm_inb_ok rfl), trivial, trivial⟩ ?_
  rw [show M 64 36 = sHr s from h.hr]
  refine lm_G_sg 1 (pc' := 68) (L' := [some (.ref 64), some (.int (nI p)), some (.int (nI t))]) (S' := []) (σ' := lm_T (lm_wr (lm_wr (lm_wr (lm_wr (lm_wr M 88 0 (sBr s p)) 88 1 (fAi F t)) 88 2 (cnt (humS F (sHu s) (nI t) &&& (bit1 (nI p) ^^^ (-1))))) 88 3 (cnt (ownS F (sOw s) (nI p)))) 88 4 (sHr s)) v G) rfl ⟨(lm_inb_ok rfl), trivial, trivial⟩ ?_
  exact lm_G_re rfl trivial (Nat.zero_le _) (Nat.zero_le _) (hQ _ (Fr_wr (Fr_wr (Fr_wr (Fr_wr (Fr_wr (Fr_rf _ _) rfl) rfl) rfl) rfl) rfl) (fun x j hj => by rcases (by omega : j = 0 ∨ j = 1 ∨ j = 2 ∨ j = 3 ∨ j = 4) with e | e | e | e | e <;> subst e <;> rfl))
theorem Ag6 {M : Nat → Fn} {f : Fn} {x : Int32} (h : Ag 5 (M 88) f) (hx : f 5 = x) : Ag 6 (lm_wr M 88 5 x 88) f := by
  intro j hj
  by_cases e : j = 5
  · subst e; exact hx.symm
  · show upd (M 88) 5 x j = f j
    rw [pk_un e]
    exact h j (by omega)
theorem Fr_KA {M M1 : Nat → Fn} (h : Fr frK M M1) : Fr frA M M1 := Fr_mn h (by intro a ha; unfold frA at ha; unfold frK; revert ha; cases (a == 89) <;> simp)
set_option maxRecDepth 10000 in
theorem m_wouldStop {X : lm_X} {d v : Nat} {M : Nat → Nat → Int32} {G : Nat → Nat → Int64} {Q : lm_O → lm_S → Prop} {F : Fa} {s : Sc} {p t : Nat} (hF : okF F) (h : RM M F s) (hp : p < fN F) (ht : t < fM F) (ht2 : sHu s p = nI t) (hQ : ∀ M1, Fr frA M M1 → Q (.inl (some (.int (b2i (wantS F s p))))) (lm_T M1 v G)) : lm_Q X (d + 2) 187 [.ref 64, .int (nI p)] (lm_T M v G) Q := by
  have hn := hF.n
  have hm := hF.m
  show lm_G X (d + 2) 187 106 0 0 0 [some (.ref 64), some (.int (nI p))] [] (lm_T M v G) Q
  refine lm_G_sg 4 (pc' := 6) (L' := [some (.ref 64), some (.int (nI p))]) (S' := [.int (M 83 (nI p).toNatClampNeg)]) (σ' := lm_T M v G) rfl ⟨(vp_in_nI (by omega) (by omega)), trivial, trivial⟩ ?_
  rw [show (nI p).toNatClampNeg = p from nI_clamp (by omega)]
  rw [show M 83 p = sHd s p from h.hd p (by omega)]
  refine lm_G_sg 4 (pc' := 12) (L' := [some (.ref 64), some (.int (nI p))]) (S' := [.int (M 79 (nI p).toNatClampNeg), .int (sHd s p)]) (σ' := lm_T M v G) rfl ⟨(vp_in_nI (by omega) (by omega)), trivial, trivial⟩ ?_
  rw [show (nI p).toNatClampNeg = p from nI_clamp (by omega)]
  rw [show M 79 p = sBr s p from h.br p (by omega)]
  refine lm_G_br (b := (sBr s p) ≤ (sHd s p)) (t := 24) (S' := []) rfl (fun hc => ?_) (fun hc => ?_)
  ·
    have e : wantS F s p = true := by unfold wantS; simp [hc]
    rw [b2i_t e] at hQ
    refine lm_G_sg 4 (pc' := 30) (L' := [some (.ref 64), some (.int (nI p))]) (S' := [.int (M 83 (nI p).toNatClampNeg)]) (σ' := lm_T M v G) rfl ⟨(vp_in_nI (by omega) (by omega)), trivial, trivial⟩ ?_
    rw [show (nI p).toNatClampNeg = p from nI_clamp (by omega)]
    rw [show M 83 p = sHd s p from h.hd p (by omega)]
    refine lm_G_sg 4 (pc' := 36) (L' := [some (.ref 64), some (.int (nI p))]) (S' := [.int (M 79 (nI p).toNatClampNeg), .int (sHd s p)]) (σ' := lm_T M v G) rfl ⟨(vp_in_nI (by omega) (by omega)), trivial, trivial⟩ ?_
    rw [show (nI p).toNatClampNeg = p from nI_clamp (by omega)]
    rw [show M 79 p = sBr s p from h.br p (by omega)]
    refine lm_G_br (b := (sHd s p) < (sBr s p)) (t := 43) (S' := []) rfl (fun h2 => absurd hc (Int32.not_le.mpr h2)) (fun h2 => ?_)
    refine lm_G_sg 2 (pc' := 44) (L' := [some (.ref 64), some (.int (nI p))]) (S' := [.int 1]) (σ' := lm_T M v G) rfl trivial ?_
    exact lm_G_re rfl (Or.inr rfl) (Nat.zero_le _) (Nat.zero_le _) (hQ _ (Fr_rf _ _))
  ·
    refine lm_G_sg 4 (pc' := 21) (L' := [some (.ref 64), some (.int (nI p))]) (S' := [.int (M 68 3)]) (σ' := lm_T M v G) rfl ⟨(lm_inb_ok rfl), trivial, trivial⟩ ?_
    rw [show M 68 3 = nI (fR0 F).length from h.l0]
    refine lm_G_br (b := ¬ (nI (fR0 F).length) = 0) (t := 45) (S' := []) rfl (fun h2 => ?_) (fun h2 => ?_)
    ·
      have e0 : fR0 F ≠ [] := fun w => h2 (by rw [w]; rfl)
      refine lm_G_sg 6 (pc' := 53) (L' := [some (.ref 64), some (.int (nI p))]) (S' := [.int (M 82 (nI p).toNatClampNeg), .int (nI p), .ref 64]) (σ' := lm_T M v G) rfl ⟨(vp_in_nI (by omega) (by omega)), trivial, trivial⟩ ?_
      rw [show (nI p).toNatClampNeg = p from nI_clamp (by omega)]
      rw [show M 82 p = sHu s p from h.hu p (by omega)]
      rw [ht2]
      refine lm_G_ca (j := 186) (as := [.ref 64, .int (nI p), .int (nI t)]) (rest := []) rfl (Or.inl rfl) (Nat.le_of_ble_eq_true rfl) (Nat.le_of_ble_eq_true rfl) (Nat.le_of_ble_eq_true rfl) (Nat.le_of_ble_eq_true rfl) rfl ?_
      refine m_layValues hF h hp ht (fun M1 f1 g1 => ?_)
      show lm_G X (d + 2) 187 106 0 0 56 [some (.ref 64), some (.int (nI p))] [] (lm_T M1 v G) Q
      have h1 := RM_A h f1
      refine lm_G_sg 7 (pc' := 67) (L' := [some (.ref 64), some (.int (nI p))]) (S' := [.int (M1 83 (nI p).toNatClampNeg), .int 5, .ref 88]) (σ' := lm_T M1 v G) rfl ⟨(vp_in_nI (by omega) (by omega)), trivial, trivial⟩ ?_
      rw [show (nI p).toNatClampNeg = p from nI_clamp (by omega)]
      rw [show M1 83 p = sHd s p from h1.hd p (by omega)]
      refine lm_G_sg 8 (pc' := 79) (L' := [some (.ref 64), some (.int (nI p))]) (S' := [.int (M1 68 3), .ref 76, .ref 64]) (σ' := lm_T (lm_wr M1 88 5 (sHd s p)) v G) rfl ⟨(lm_inb_ok rfl), trivial, (lm_inb_ok rfl), trivial, trivial⟩ ?_
      rw [show M1 68 3 = nI (fR0 F).length from h1.l0]
      refine lm_G_ca (j := 185) (as := [.ref 64, .ref 76, .int (nI (fR0 F).length)]) (rest := []) rfl (Or.inl rfl) (Nat.le_of_ble_eq_true rfl) (Nat.le_of_ble_eq_true rfl) (Nat.le_of_ble_eq_true rfl) (Nat.le_of_ble_eq_true rfl) rfl ?_
      refine m_valueNow0 (vs := vsS F s p t (sHd s p)) (hF.2.2.2.2.1) ((hF.2.2.1).resolve_left e0) (RM_A h1 (Fr_wr (Fr_rf _ _) rfl)).r0 (Ag6 (g1 _) rfl) (fun M2 f2 => ?_)
      show lm_G X (d + 2) 187 106 0 0 82 [some (.ref 64), some (.int (nI p))] [.int (reckS (vsS F s p t (sHd s p)) (fR0 F))] (lm_T M2 v G) Q
      have f3 : Fr frA M M2 := Fr_tr (Fr_wr f1 rfl) (Fr_KA f2)
      refine lm_G_br (b := (reckS (vsS F s p t (sHd s p)) (fR0 F)) ≤ 0) (t := 89) (S' := []) rfl (fun h3 => ?_) (fun h3 => ?_)
      ·
        have e : wantS F s p = false := by
          unfold wantS
          rw [ht2, nI_clamp (by omega), decide_eq_false hc, decide_eq_true e0]
          simp [h3]
        rw [b2i_f e] at hQ
        refine lm_G_sg 1 (pc' := 90) (L' := [some (.ref 64), some (.int (nI p))]) (S' := [.int 0]) (σ' := lm_T M2 v G) rfl trivial ?_
        exact lm_G_re rfl (Or.inl rfl) (Nat.zero_le _) (Nat.zero_le _) (hQ _ f3)
      ·
        have e : wantS F s p = true := by
          unfold wantS
          rw [ht2, nI_clamp (by omega), decide_eq_false hc, decide_eq_true e0]
          simp [Int32.not_le.mp h3]
        rw [b2i_t e] at hQ
        refine lm_G_sg 2 (pc' := 90) (L' := [some (.ref 64), some (.int (nI p))]) (S' := [.int 1]) (σ' := lm_T M2 v G) rfl trivial ?_
        exact lm_G_re rfl (Or.inr rfl) (Nat.zero_le _) (Nat.zero_le _) (hQ _ f3)
    ·
      have e0 : fR0 F = [] := by
        have := Classical.not_not.mp h2
        by_cases w : (fR0 F).length = 0
        · exact List.length_eq_zero_iff.mp w
        · exact absurd this (nI_ne0 (by omega) (by have := hF.2.2.2.2.1; omega))
      refine lm_G_sg 4 (pc' := 30) (L' := [some (.ref 64), some (.int (nI p))]) (S' := [.int (M 83 (nI p).toNatClampNeg)]) (σ' := lm_T M v G) rfl ⟨(vp_in_nI (by omega) (by omega)), trivial, trivial⟩ ?_
      rw [show (nI p).toNatClampNeg = p from nI_clamp (by omega)]
      rw [show M 83 p = sHd s p from h.hd p (by omega)]
      refine lm_G_sg 4 (pc' := 36) (L' := [some (.ref 64), some (.int (nI p))]) (S' := [.int (M 79 (nI p).toNatClampNeg), .int (sHd s p)]) (σ' := lm_T M v G) rfl ⟨(vp_in_nI (by omega) (by omega)), trivial, trivial⟩ ?_
      rw [show (nI p).toNatClampNeg = p from nI_clamp (by omega)]
      rw [show M 79 p = sBr s p from h.br p (by omega)]
      refine lm_G_br (b := (sHd s p) < (sBr s p)) (t := 43) (S' := []) rfl (fun h3 => ?_) (fun h3 => absurd (Int32.not_le.mp hc) h3)
      refine lm_G_sg 1 (pc' := 44) (L' := [some (.ref 64), some (.int (nI p))]) (S' := [.int 0]) (σ' := lm_T M v G) rfl trivial ?_
      have e : wantS F s p = false := by
        unfold wantS
        rw [decide_eq_false hc, e0]
        simp
      rw [b2i_f e] at hQ
      exact lm_G_re rfl (Or.inl rfl) (Nat.zero_le _) (Nat.zero_le _) (hQ _ (Fr_rf _ _))
set_option maxRecDepth 10000 in
theorem m_wouldJoin {X : lm_X} {d v : Nat} {M : Nat → Nat → Int32} {G : Nat → Nat → Int64} {Q : lm_O → lm_S → Prop} {F : Fa} {s : Sc} {p t : Nat} (hF : okF F) (h : RM M F s) (hs : okS F s) (hp : p < fN F) (ht : t < fM F) (hQ : ∀ M1, Fr frA M M1 → Q (.inl (some (.int (b2i (joinS F s p t))))) (lm_T M1 v G)) : lm_Q X (d + 2) 188 [.ref 64, .int (nI p), .int (nI t)] (lm_T M v G) Q := by
  have hn := hF.n
  have hm := hF.m
  show lm_G X (d + 2) 188 106 0 0 0 [some (.ref 64), some (.int (nI p)), some (.int (nI t)), none, none, none] [] (lm_T M v G) Q
  refine lm_G_sg 2 (pc' := 2) (L' := [some (.ref 64), some (.int (nI p)), some (.int (nI t)), none, none, none]) (S' := [.int (nI t), .ref 64]) (σ' := lm_T M v G) rfl trivial ?_
  refine lm_G_ca (j := 181) (as := [.ref 64, .int (nI t)]) (rest := []) rfl (Or.inl rfl) (Nat.le_of_ble_eq_true rfl) (Nat.le_of_ble_eq_true rfl) (Nat.le_of_ble_eq_true rfl) (Nat.le_of_ble_eq_true rfl) rfl ?_
  refine m_whoHums hF h ?_
  show lm_G X (d + 2) 188 106 0 0 5 [some (.ref 64), some (.int (nI p)), some (.int (nI t)), none, none, none] [.int (humS F (sHu s) (nI t))] (lm_T M v G) Q
  refine lm_G_sg 5 (pc' := 12) (L' := [some (.ref 64), some (.int (nI p)), some (.int (nI t)), some (.int (humS F (sHu s) (nI t))), none, none]) (S' := [.int (M 68 4)]) (σ' := lm_T M v G) rfl ⟨(lm_inb_ok rfl), trivial, trivial⟩ ?_
  rw [show M 68 4 = nI (fR1 F).length from h.l1]
  refine lm_G_br (b := (nI (fR1 F).length) = 0) (t := 25) (S' := []) rfl (fun hc => ?_) (fun hc => ?_)
  ·
    have e0 : fR1 F = [] := by
      by_cases w : (fR1 F).length = 0
      · exact List.length_eq_zero_iff.mp w
      · exact absurd hc (nI_ne0 (by omega) (by have := hF.2.2.2.2.2.1; omega))
    have e : joinS F s p t = false := by unfold joinS; simp [e0]
    rw [b2i_f e] at hQ
    refine lm_G_sg 1 (pc' := 26) (L' := [some (.ref 64), some (.int (nI p)), some (.int (nI t)), some (.int (humS F (sHu s) (nI t))), none, none]) (S' := [.int 0]) (σ' := lm_T M v G) rfl trivial ?_
    exact lm_G_re rfl (Or.inl rfl) (Nat.zero_le _) (Nat.zero_le _) (hQ _ (Fr_rf _ _))
  ·
    have e0 : fR1 F ≠ [] := fun w => hc (by rw [w]; rfl)
    refine lm_G_sg 3 (pc' := 18) (L' := [some (.ref 64), some (.int (nI p)), some (.int (nI t)), some (.int (humS F (sHu s) (nI t))), none, none]) (S' := [.int (nI p), .ref 64, .int (humS F (sHu s) (nI t))]) (σ' := lm_T M v G) rfl trivial ?_
    refine lm_G_ca (j := 180) (as := [.ref 64, .int (nI p)]) (rest := [.int (humS F (sHu s) (nI t))]) rfl (Or.inl rfl) (Nat.le_of_ble_eq_true rfl) (Nat.le_of_ble_eq_true rfl) (Nat.le_of_ble_eq_true rfl) (Nat.le_of_ble_eq_true rfl) rfl ?_
    refine m_heardBy hF h hp ?_
    show lm_G X (d + 2) 188 106 0 0 21 [some (.ref 64), some (.int (nI p)), some (.int (nI t)), some (.int (humS F (sHu s) (nI t))), none, none] [.int (heardS F (sPl s) p), .int (humS F (sHu s) (nI t))] (lm_T M v G) Q
    refine lm_G_sg 1 (pc' := 22) (L' := [some (.ref 64), some (.int (nI p)), some (.int (nI t)), some (.int (humS F (sHu s) (nI t))), none, none]) (S' := [.int ((humS F (sHu s) (nI t)) &&& (heardS F (sPl s) p))]) (σ' := lm_T M v G) rfl trivial ?_
    refine lm_G_br (b := ¬ ((humS F (sHu s) (nI t)) &&& (heardS F (sPl s) p)) = 0) (t := 27) (S' := []) rfl (fun h2 => ?_) (fun h2 => ?_)
    ·
      refine lm_G_sg 4 (pc' := 35) (L' := [some (.ref 64), some (.int (nI p)), some (.int (nI t)), some (.int (humS F (sHu s) (nI t))), some (.int 1000), some (.int 0)]) (S' := []) (σ' := lm_T M v G) rfl trivial ?_
      refine lm_ind (α := Unit) (St := fun (j : Nat) zz => lm_G X (d + 2) 188 106 0 0 35 [some (.ref 64), some (.int (nI p)), some (.int (nI t)), some (.int (humS F (sHu s) (nI t))), some (.int (nearS F s p (nI t) 1000 j)), some (.int (nI j))] [] (lm_T M v G) Q) (Inv := fun (j : Nat) zz => True) (fN F) (fun j zz hj hI ih => ?_) (fun zz hI => ?_) (0) () (by omega) ?_
      ·
        replace hI : True := hI
        replace ih : ∀ (_ : True), lm_G X (d + 2) 188 106 0 0 35 [some (.ref 64), some (.int (nI p)), some (.int (nI t)), some (.int (humS F (sHu s) (nI t))), some (.int (nearS F s p (nI t) 1000 (j + 1))), some (.int (nI (j + 1)))] [] (lm_T M v G) Q := fun q => ih () q
        show lm_G X (d + 2) 188 106 0 0 35 [some (.ref 64), some (.int (nI p)), some (.int (nI t)), some (.int (humS F (sHu s) (nI t))), some (.int (nearS F s p (nI t) 1000 j)), some (.int (nI j))] [] (lm_T M v G) Q
        refine lm_G_sg 5 (pc' := 43) (L' := [some (.ref 64), some (.int (nI p)), some (.int (nI t)), some (.int (humS F (sHu s) (nI t))), some (.int (nearS F s p (nI t) 1000 j)), some (.int (nI j))]) (S' := [.int (M 68 0), .int (nI j)]) (σ' := lm_T M v G) rfl ⟨(lm_inb_ok rfl), trivial, trivial⟩ ?_
        rw [show M 68 0 = nI (fN F) from h.n]
        refine lm_G_br (b := (nI (fN F)) ≤ (nI j)) (t := 85) (S' := []) rfl (fun hc => absurd hc (nI_ge hj (by omega))) (fun hc => ?_)
        refine lm_G_sg 2 (pc' := 49) (L' := [some (.ref 64), some (.int (nI p)), some (.int (nI t)), some (.int (humS F (sHu s) (nI t))), some (.int (nearS F s p (nI t) 1000 j)), some (.int (nI j))]) (S' := [.int (nI j), .int (humS F (sHu s) (nI t))]) (σ' := lm_T M v G) rfl trivial ?_
        refine lm_G_ca (j := 143) (as := [.int (humS F (sHu s) (nI t)), .int (nI j)]) (rest := []) rfl (Or.inl rfl) (Nat.le_of_ble_eq_true rfl) (Nat.le_of_ble_eq_true rfl) (Nat.le_of_ble_eq_true rfl) (Nat.le_of_ble_eq_true rfl) rfl ?_
        refine m_isOf ?_
        show lm_G X (d + 2) 188 106 0 0 52 [some (.ref 64), some (.int (nI p)), some (.int (nI t)), some (.int (humS F (sHu s) (nI t))), some (.int (nearS F s p (nI t) 1000 j)), some (.int (nI j))] [.int (b2i (bitW (humS F (sHu s) (nI t)) j))] (lm_T M v G) Q
        have eb : bitW (humS F (sHu s) (nI t)) j = decide (sHu s j = nI t) := bitW_mskn (by omega) hj
        refine lm_G_br (b := (b2i (bitW (humS F (sHu s) (nI t)) j)) = 0) (t := 79) (S' := []) rfl (fun h3 => ?_) (fun h3 => ?_)
        ·
          refine lm_G_sg 1 (pc' := 82) (L' := [some (.ref 64), some (.int (nI p)), some (.int (nI t)), some (.int (humS F (sHu s) (nI t))), some (.int (nearS F s p (nI t) 1000 j)), some (.int ((nI j) + 1))]) (S' := []) (σ' := lm_T M v G) rfl trivial ?_
          rw [nI_1]
          refine lm_G_sg 1 (pc' := 35) (L' := [some (.ref 64), some (.int (nI p)), some (.int (nI t)), some (.int (humS F (sHu s) (nI t))), some (.int (nearS F s p (nI t) 1000 j)), some (.int (nI (j + 1)))]) (S' := []) (σ' := lm_T M v G) rfl trivial ?_
          rw [show nearS F s p (nI t) 1000 j = nearS F s p (nI t) 1000 (j + 1) from by simp only [nearS]; rw [if_neg (fun w => by rw [← eb, b2i_0 h3] at w; cases w)]]
          exact ih  trivial
        ·
          refine lm_G_sg 5 (pc' := 63) (L' := [some (.ref 64), some (.int (nI p)), some (.int (nI t)), some (.int (humS F (sHu s) (nI t))), some (.int (nearS F s p (nI t) 1000 j)), some (.int (nI j))]) (S' := [.int (M 85 (nI p).toNatClampNeg), .int (nearS F s p (nI t) 1000 j)]) (σ' := lm_T M v G) rfl ⟨(vp_in_nI (by omega) (by omega)), trivial, trivial⟩ ?_
          rw [show (nI p).toNatClampNeg = p from nI_clamp (by omega)]
          rw [show M 85 p = sPl s p from h.pl p (by omega)]
          refine lm_G_sg 4 (pc' := 70) (L' := [some (.ref 64), some (.int (nI p)), some (.int (nI t)), some (.int (humS F (sHu s) (nI t))), some (.int (nearS F s p (nI t) 1000 j)), some (.int (nI j))]) (S' := [.int (M 85 (nI j).toNatClampNeg), .int (sPl s p), .int (nearS F s p (nI t) 1000 j)]) (σ' := lm_T M v G) rfl ⟨(vp_in_nI (by omega) (by omega)), trivial, trivial⟩ ?_
          rw [show (nI j).toNatClampNeg = j from nI_clamp (by omega)]
          rw [show M 85 j = sPl s j from h.pl j (by omega)]
          refine lm_G_sg 5 (pc' := 82) (L' := [some (.ref 64), some (.int (nI p)), some (.int (nI t)), some (.int (humS F (sHu s) (nI t))), some (.int (if (absI ((sPl s p) - (sPl s j))) < (nearS F s p (nI t) 1000 j) then (absI ((sPl s p) - (sPl s j))) else (nearS F s p (nI t) 1000 j))), some (.int ((nI j) + 1))]) (S' := []) (σ' := lm_T M v G) rfl ⟨trivial, (Nat.le_of_ble_eq_true rfl), trivial, (Nat.le_of_ble_eq_true rfl), trivial⟩ ?_
          rw [nI_1]
          refine lm_G_sg 1 (pc' := 35) (L' := [some (.ref 64), some (.int (nI p)), some (.int (nI t)), some (.int (humS F (sHu s) (nI t))), some (.int (if (absI ((sPl s p) - (sPl s j))) < (nearS F s p (nI t) 1000 j) then (absI ((sPl s p) - (sPl s j))) else (nearS F s p (nI t) 1000 j))), some (.int (nI (j + 1)))]) (S' := []) (σ' := lm_T M v G) rfl trivial ?_
          have ed : decide (sHu s j = nI t) = true := by rw [← eb]; exact b2i_1 h3
          rw [show (if (absI ((sPl s p) - (sPl s j))) < (nearS F s p (nI t) 1000 j) then (absI ((sPl s p) - (sPl s j))) else (nearS F s p (nI t) 1000 j)) = nearS F s p (nI t) 1000 (j + 1) from by simp only [nearS]; rw [if_pos ed]]
          exact ih  trivial
      ·
        replace hI : True := hI
        show lm_G X (d + 2) 188 106 0 0 35 [some (.ref 64), some (.int (nI p)), some (.int (nI t)), some (.int (humS F (sHu s) (nI t))), some (.int (nearS F s p (nI t) 1000 (fN F))), some (.int (nI (fN F)))] [] (lm_T M v G) Q
        refine lm_G_sg 5 (pc' := 43) (L' := [some (.ref 64), some (.int (nI p)), some (.int (nI t)), some (.int (humS F (sHu s) (nI t))), some (.int (nearS F s p (nI t) 1000 (fN F))), some (.int (nI (fN F)))]) (S' := [.int (M 68 0), .int (nI (fN F))]) (σ' := lm_T M v G) rfl ⟨(lm_inb_ok rfl), trivial, trivial⟩ ?_
        rw [show M 68 0 = nI (fN F) from h.n]
        refine lm_G_br (b := (nI (fN F)) ≤ (nI (fN F))) (t := 85) (S' := []) rfl (fun hc => ?_) (fun hc => absurd (nI_le (Nat.le_refl _) (by omega)) hc)
        have hx : ∃ q, q < fN F ∧ sHu s q = nI t := by
          apply Classical.byContradiction
          intro w
          apply h2
          rw [(hum_z hF).mpr (fun q hq e => w ⟨q, hq, e⟩)]
          simp
        rw [near_eq hs hp _ (Nat.le_refl _) hx]
        refine lm_G_sg 3 (pc' := 88) (L' := [some (.ref 64), some (.int (nI p)), some (.int (nI t)), some (.int (humS F (sHu s) (nI t))), some (.int (nearS F s p (nI t) 30 (fN F))), some (.int (nI (fN F)))]) (S' := [.int (nI t), .int (nI p), .ref 64]) (σ' := lm_T M v G) rfl trivial ?_
        refine lm_G_ca (j := 186) (as := [.ref 64, .int (nI p), .int (nI t)]) (rest := []) rfl (Or.inl rfl) (Nat.le_of_ble_eq_true rfl) (Nat.le_of_ble_eq_true rfl) (Nat.le_of_ble_eq_true rfl) (Nat.le_of_ble_eq_true rfl) rfl ?_
        refine m_layValues hF h hp ht (fun M1 f1 g1 => ?_)
        show lm_G X (d + 2) 188 106 0 0 91 [some (.ref 64), some (.int (nI p)), some (.int (nI t)), some (.int (humS F (sHu s) (nI t))), some (.int (nearS F s p (nI t) 30 (fN F))), some (.int (nI (fN F)))] [] (lm_T M1 v G) Q
        have h1 := RM_A h f1
        refine lm_G_sg 12 (pc' := 110) (L' := [some (.ref 64), some (.int (nI p)), some (.int (nI t)), some (.int (humS F (sHu s) (nI t))), some (.int (nearS F s p (nI t) 30 (fN F))), some (.int (nI (fN F)))]) (S' := [.int (M1 68 4), .ref 77, .ref 64]) (σ' := lm_T (lm_wr M1 88 5 (nearS F s p (nI t) 30 (fN F))) v G) rfl ⟨(lm_inb_ok rfl), trivial, (lm_inb_ok rfl), trivial, trivial⟩ ?_
        rw [show M1 68 4 = nI (fR1 F).length from h1.l1]
        refine lm_G_ca (j := 185) (as := [.ref 64, .ref 77, .int (nI (fR1 F).length)]) (rest := []) rfl (Or.inl rfl) (Nat.le_of_ble_eq_true rfl) (Nat.le_of_ble_eq_true rfl) (Nat.le_of_ble_eq_true rfl) (Nat.le_of_ble_eq_true rfl) rfl ?_
        refine m_valueNow1 (vs := vsS F s p t (nearS F s p (nI t) 30 (fN F))) (hF.2.2.2.2.2.1) ((hF.2.2.2.1).resolve_left e0) (RM_A h1 (Fr_wr (Fr_rf _ _) rfl)).r1 (Ag6 (g1 _) rfl) (fun M2 f2 => ?_)
        show lm_G X (d + 2) 188 106 0 0 113 [some (.ref 64), some (.int (nI p)), some (.int (nI t)), some (.int (humS F (sHu s) (nI t))), some (.int (nearS F s p (nI t) 30 (fN F))), some (.int (nI (fN F)))] [.int (reckS (vsS F s p t (nearS F s p (nI t) 30 (fN F))) (fR1 F))] (lm_T M2 v G) Q
        have f3 : Fr frA M M2 := Fr_tr (Fr_wr f1 rfl) (Fr_KA f2)
        refine lm_G_br (b := (reckS (vsS F s p t (nearS F s p (nI t) 30 (fN F))) (fR1 F)) ≤ 0) (t := 120) (S' := []) rfl (fun h3 => ?_) (fun h3 => ?_)
        ·
          have e : joinS F s p t = false := by
            unfold joinS
            rw [decide_eq_true h2, decide_eq_true e0]
            simp [h3]
          rw [b2i_f e] at hQ
          refine lm_G_sg 1 (pc' := 121) (L' := [some (.ref 64), some (.int (nI p)), some (.int (nI t)), some (.int (humS F (sHu s) (nI t))), some (.int (nearS F s p (nI t) 30 (fN F))), some (.int (nI (fN F)))]) (S' := [.int 0]) (σ' := lm_T M2 v G) rfl trivial ?_
          exact lm_G_re rfl (Or.inl rfl) (Nat.zero_le _) (Nat.zero_le _) (hQ _ f3)
        ·
          have e : joinS F s p t = true := by
            unfold joinS
            rw [decide_eq_true h2, decide_eq_true e0]
            simp [Int32.not_le.mp h3]
          rw [b2i_t e] at hQ
          refine lm_G_sg 2 (pc' := 121) (L' := [some (.ref 64), some (.int (nI p)), some (.int (nI t)), some (.int (humS F (sHu s) (nI t))), some (.int (nearS F s p (nI t) 30 (fN F))), some (.int (nI (fN F)))]) (S' := [.int 1]) (σ' := lm_T M2 v G) rfl trivial ?_
          exact lm_G_re rfl (Or.inr rfl) (Nat.zero_le _) (Nat.zero_le _) (hQ _ f3)
      ·
        trivial
    ·
      have e : joinS F s p t = false := by unfold joinS; rw [decide_eq_false h2]; rfl
      rw [b2i_f e] at hQ
      refine lm_G_sg 1 (pc' := 26) (L' := [some (.ref 64), some (.int (nI p)), some (.int (nI t)), some (.int (humS F (sHu s) (nI t))), none, none]) (S' := [.int 0]) (σ' := lm_T M v G) rfl trivial ?_
      exact lm_G_re rfl (Or.inl rfl) (Nat.zero_le _) (Nat.zero_le _) (hQ _ (Fr_rf _ _))
set_option maxRecDepth 10000 in
theorem m_giveTo {X : lm_X} {d v : Nat} {M : Nat → Nat → Int32} {G : Nat → Nat → Int64} {Q : lm_O → lm_S → Prop} {F : Fa} {s : Sc} {t : Nat} {x : Int32} (hF : okF F) (h : RM M F s) (ht : t < fM F) (hQ : Q (.inl none) (lm_T (lm_wr (lm_wr M 64 41 (M 64 41 + (if sOw s t = x then 0 else 1))) 81 t x) v G)) : lm_Q X d 189 [.ref 64, .int (nI t), .int x] (lm_T M v G) Q := by
  have hn := hF.n
  have hm := hF.m
  show lm_G X d 189 106 0 0 0 [some (.ref 64), some (.int (nI t)), some (.int x)] [] (lm_T M v G) Q
  refine lm_G_sg 7 (pc' := 11) (L' := [some (.ref 64), some (.int (nI t)), some (.int x)]) (S' := [.int (M 81 (nI t).toNatClampNeg), .int (M 64 41), .ref 64]) (σ' := lm_T M v G) rfl ⟨(vp_in_nI (by omega) (by omega)), trivial, trivial⟩ ?_
  rw [show (nI t).toNatClampNeg = t from nI_clamp (by omega)]
  rw [show M 81 t = sOw s t from h.ow t (by omega)]
  refine lm_G_sg 1 (pc' := 12) (L' := [some (.ref 64), some (.int (nI t)), some (.int x)]) (S' := [.int x, .int (sOw s t), .int (M 64 41), .ref 64]) (σ' := lm_T M v G) rfl trivial ?_
  refine lm_G_br (b := ¬ (sOw s t) = x) (t := 19) (S' := [.int (M 64 41), .ref 64]) rfl (fun hc => ?_) (fun hc => ?_)
  ·
    rw [if_neg hc] at hQ
    refine lm_G_sg 8 (pc' := 31) (L' := [some (.ref 64), some (.int (nI t)), some (.int x)]) (S' := []) (σ' := lm_T (lm_wr (lm_wr M 64 41 ((M 64 41) + 1)) 81 ((nI t).toNatClampNeg) x) v G) rfl ⟨trivial, trivial, (vp_in_nI (by omega) (by omega)), trivial, trivial⟩ ?_
    rw [show (nI t).toNatClampNeg = t from nI_clamp (by omega)]
    exact lm_G_re rfl trivial (Nat.zero_le _) (Nat.zero_le _) hQ
  ·
    rw [if_pos (Classical.not_not.mp hc)] at hQ
    refine lm_G_sg 9 (pc' := 31) (L' := [some (.ref 64), some (.int (nI t)), some (.int x)]) (S' := []) (σ' := lm_T (lm_wr (lm_wr M 64 41 ((M 64 41) + 0)) 81 ((nI t).toNatClampNeg) x) v G) rfl ⟨trivial, trivial, (vp_in_nI (by omega) (by omega)), trivial, trivial⟩ ?_
    rw [show (nI t).toNatClampNeg = t from nI_clamp (by omega)]
    exact lm_G_re rfl trivial (Nat.zero_le _) (Nat.zero_le _) hQ
set_option maxRecDepth 10000 in
theorem m_fallSilent {X : lm_X} {d v : Nat} {M : Nat → Nat → Int32} {G : Nat → Nat → Int64} {Q : lm_O → lm_S → Prop} {p : Nat} (hp : p < 8) (hQ : Q (.inl none) (lm_T (lm_wr (lm_wr (lm_wr M 82 p (-1)) 83 p 0) 84 p 0) v G)) : lm_Q X d 190 [.ref 64, .int (nI p)] (lm_T M v G) Q := by
  show lm_G X d 190 106 0 0 0 [some (.ref 64), some (.int (nI p))] [] (lm_T M v G) Q
  refine lm_G_sg 5 (pc' := 7) (L' := [some (.ref 64), some (.int (nI p))]) (S' := []) (σ' := lm_T (lm_wr M 82 ((nI p).toNatClampNeg) (-1)) v G) rfl ⟨(vp_in_nI (by omega) (by omega)), trivial, trivial⟩ ?_
  rw [show (nI p).toNatClampNeg = p from nI_clamp (by omega)]
  refine lm_G_sg 5 (pc' := 14) (L' := [some (.ref 64), some (.int (nI p))]) (S' := []) (σ' := lm_T (lm_wr (lm_wr M 82 p (-1)) 83 ((nI p).toNatClampNeg) 0) v G) rfl ⟨(vp_in_nI (by omega) (by omega)), trivial, trivial⟩ ?_
  rw [show (nI p).toNatClampNeg = p from nI_clamp (by omega)]
  refine lm_G_sg 5 (pc' := 21) (L' := [some (.ref 64), some (.int (nI p))]) (S' := []) (σ' := lm_T (lm_wr (lm_wr (lm_wr M 82 p (-1)) 83 p 0) 84 ((nI p).toNatClampNeg) 0) v G) rfl ⟨(vp_in_nI (by omega) (by omega)), trivial, trivial⟩ ?_
  rw [show (nI p).toNatClampNeg = p from nI_clamp (by omega)]
  exact lm_G_re rfl trivial (Nat.zero_le _) (Nat.zero_le _) hQ
set_option maxRecDepth 10000 in
theorem m_allStop {X : lm_X} {d v : Nat} {M : Nat → Nat → Int32} {G : Nat → Nat → Int64} {Q : lm_O → lm_S → Prop} {F : Fa} {s : Sc} {x : Int32} (hF : okF F) (h : RM M F s) (hQ : ∀ M1, RM M1 F (allS F (bitW x) s (fM F)) → M1 64 41 = M 64 41 + allD F (bitW x) s (fM F) → FrM M M1 → Q (.inl none) (lm_T M1 v G)) : lm_Q X (d + 1) 191 [.ref 64, .int x] (lm_T M v G) Q := by
  have hn := hF.n
  have hm := hF.m
  show lm_G X (d + 1) 191 106 0 0 0 [some (.ref 64), some (.int x), none, none, none, none] [] (lm_T M v G) Q
  refine lm_G_sg 2 (pc' := 2) (L' := [some (.ref 64), some (.int x), some (.int 0), none, none, none]) (S' := []) (σ' := lm_T M v G) rfl trivial ?_
  refine lm_ind (α := (Nat → Fn)) (St := fun (j : Nat) zz => (fun (M1 : Nat → Fn) => lm_G X (d + 1) 191 106 0 0 2 [some (.ref 64), some (.int x), some (.int (nI j)), none, none, none] [] (lm_T M1 v G) Q) zz) (Inv := fun (j : Nat) zz => (fun (M1 : Nat → Fn) => RM M1 F (allS F (bitW x) s j) ∧ M1 64 41 = M 64 41 + allD F (bitW x) s j ∧ FrM M M1) zz) (fM F) (fun j zz hj hI ih => ?_) (fun zz hI => ?_) (0) M (by omega) ?_
  ·
    revert ih hI
    revert zz
    intro M1 hI ih
    replace hI : RM M1 F (allS F (bitW x) s j) ∧ M1 64 41 = M 64 41 + allD F (bitW x) s j ∧ FrM M M1 := hI
    replace ih : ∀ (M1 : Nat → Fn) (_ : RM M1 F (allS F (bitW x) s (j + 1)) ∧ M1 64 41 = M 64 41 + allD F (bitW x) s (j + 1) ∧ FrM M M1), lm_G X (d + 1) 191 106 0 0 2 [some (.ref 64), some (.int x), some (.int (nI (j + 1))), none, none, none] [] (lm_T M1 v G) Q := fun M1 q => ih M1 q
    show lm_G X (d + 1) 191 106 0 0 2 [some (.ref 64), some (.int x), some (.int (nI j)), none, none, none] [] (lm_T M1 v G) Q
    obtain ⟨h1, t1, f1⟩ := hI
    refine lm_G_sg 5 (pc' := 9) (L' := [some (.ref 64), some (.int x), some (.int (nI j)), none, none, none]) (S' := [.int (M1 68 1), .int (nI j)]) (σ' := lm_T M1 v G) rfl ⟨(lm_inb_ok rfl), trivial, trivial⟩ ?_
    rw [show M1 68 1 = nI (fM F) from h1.m]
    refine lm_G_br (b := (nI (fM F)) ≤ (nI j)) (t := 105) (S' := []) rfl (fun hc => absurd hc (nI_ge hj (by omega))) (fun hc => ?_)
    refine lm_G_sg 2 (pc' := 14) (L' := [some (.ref 64), some (.int x), some (.int (nI j)), none, none, none]) (S' := [.int (nI j), .ref 64]) (σ' := lm_T M1 v G) rfl trivial ?_
    refine lm_G_ca (j := 181) (as := [.ref 64, .int (nI j)]) (rest := []) rfl (Or.inl rfl) (Nat.le_of_ble_eq_true rfl) (Nat.le_of_ble_eq_true rfl) (Nat.le_of_ble_eq_true rfl) (Nat.le_of_ble_eq_true rfl) rfl ?_
    refine m_whoHums hF h1 ?_
    show lm_G X (d + 1) 191 106 0 0 17 [some (.ref 64), some (.int x), some (.int (nI j)), none, none, none] [.int (humS F (sHu (allS F (bitW x) s j)) (nI j))] (lm_T M1 v G) Q
    refine lm_G_sg 2 (pc' := 19) (L' := [some (.ref 64), some (.int x), some (.int (nI j)), some (.int (humS F (sHu (allS F (bitW x) s j)) (nI j))), none, none]) (S' := [.int (humS F (sHu (allS F (bitW x) s j)) (nI j))]) (σ' := lm_T M1 v G) rfl trivial ?_
    refine lm_G_br (b := ¬ (humS F (sHu (allS F (bitW x) s j)) (nI j)) = 0) (t := 25) (S' := []) rfl (fun hz => ?_) (fun hz => ?_)
    ·
      refine lm_G_sg 4 (pc' := 31) (L' := [some (.ref 64), some (.int x), some (.int (nI j)), some (.int (humS F (sHu (allS F (bitW x) s j)) (nI j))), some (.int (-1)), some (.int 0)]) (S' := []) (σ' := lm_T M1 v G) rfl trivial ?_
      refine lm_ind (α := (Nat → Fn)) (St := fun (q : Nat) zz => (fun (M2 : Nat → Fn) => lm_G X (d + 1) 191 106 0 0 31 [some (.ref 64), some (.int x), some (.int (nI j)), some (.int (humS F (sHu (allS F (bitW x) s j)) (nI j))), some (.int (lstS (bitW x) (allS F (bitW x) s j) (nI j) q)), some (.int (nI q))] [] (lm_T M2 v G) Q) zz) (Inv := fun (q : Nat) zz => (fun (M2 : Nat → Fn) => RM M2 F (stpS (bitW x) (allS F (bitW x) s j) (nI j) q) ∧ M2 64 41 = M1 64 41 ∧ FrM M1 M2) zz) (fN F) (fun q zz hj2 hI2 ih2 => ?_) (fun zz hI2 => ?_) (0) M1 (by omega) ?_
      ·
        revert ih2 hI2
        revert zz
        intro M2 hI2 ih2
        replace hI2 : RM M2 F (stpS (bitW x) (allS F (bitW x) s j) (nI j) q) ∧ M2 64 41 = M1 64 41 ∧ FrM M1 M2 := hI2
        replace ih2 : ∀ (M2 : Nat → Fn) (_ : RM M2 F (stpS (bitW x) (allS F (bitW x) s j) (nI j) (q + 1)) ∧ M2 64 41 = M1 64 41 ∧ FrM M1 M2), lm_G X (d + 1) 191 106 0 0 31 [some (.ref 64), some (.int x), some (.int (nI j)), some (.int (humS F (sHu (allS F (bitW x) s j)) (nI j))), some (.int (lstS (bitW x) (allS F (bitW x) s j) (nI j) (q + 1))), some (.int (nI (q + 1)))] [] (lm_T M2 v G) Q := fun M2 q => ih2 M2 q
        show lm_G X (d + 1) 191 106 0 0 31 [some (.ref 64), some (.int x), some (.int (nI j)), some (.int (humS F (sHu (allS F (bitW x) s j)) (nI j))), some (.int (lstS (bitW x) (allS F (bitW x) s j) (nI j) q)), some (.int (nI q))] [] (lm_T M2 v G) Q
        obtain ⟨h2, t2, f2⟩ := hI2
        refine lm_G_sg 5 (pc' := 39) (L' := [some (.ref 64), some (.int x), some (.int (nI j)), some (.int (humS F (sHu (allS F (bitW x) s j)) (nI j))), some (.int (lstS (bitW x) (allS F (bitW x) s j) (nI j) q)), some (.int (nI q))]) (S' := [.int (M2 68 0), .int (nI q)]) (σ' := lm_T M2 v G) rfl ⟨(lm_inb_ok rfl), trivial, trivial⟩ ?_
        rw [show M2 68 0 = nI (fN F) from h2.n]
        refine lm_G_br (b := (nI (fN F)) ≤ (nI q)) (t := 72) (S' := []) rfl (fun hc => absurd hc (nI_ge hj2 (by omega))) (fun hc => ?_)
        refine lm_G_sg 4 (pc' := 47) (L' := [some (.ref 64), some (.int x), some (.int (nI j)), some (.int (humS F (sHu (allS F (bitW x) s j)) (nI j))), some (.int (lstS (bitW x) (allS F (bitW x) s j) (nI j) q)), some (.int (nI q))]) (S' := [.int (nI q), .int ((humS F (sHu (allS F (bitW x) s j)) (nI j)) &&& x)]) (σ' := lm_T M2 v G) rfl trivial ?_
        refine lm_G_ca (j := 143) (as := [.int ((humS F (sHu (allS F (bitW x) s j)) (nI j)) &&& x), .int (nI q)]) (rest := []) rfl (Or.inl rfl) (Nat.le_of_ble_eq_true rfl) (Nat.le_of_ble_eq_true rfl) (Nat.le_of_ble_eq_true rfl) (Nat.le_of_ble_eq_true rfl) rfl ?_
        refine m_isOf ?_
        show lm_G X (d + 1) 191 106 0 0 50 [some (.ref 64), some (.int x), some (.int (nI j)), some (.int (humS F (sHu (allS F (bitW x) s j)) (nI j))), some (.int (lstS (bitW x) (allS F (bitW x) s j) (nI j) q)), some (.int (nI q))] [.int (b2i (bitW ((humS F (sHu (allS F (bitW x) s j)) (nI j)) &&& x) q))] (lm_T M2 v G) Q
        have eb : bitW ((humS F (sHu (allS F (bitW x) s j)) (nI j)) &&& x) q = (decide (sHu (allS F (bitW x) s j) q = nI j) && bitW x q) := by rw [bitW_and _ _ (by omega)]; congr 1; exact bitW_mskn (by omega) hj2
        refine lm_G_br (b := ¬ (b2i (bitW ((humS F (sHu (allS F (bitW x) s j)) (nI j)) &&& x) q)) = 0) (t := 56) (S' := []) rfl (fun h3 => ?_) (fun h3 => ?_)
        ·
          refine lm_G_sg 2 (pc' := 59) (L' := [some (.ref 64), some (.int x), some (.int (nI j)), some (.int (humS F (sHu (allS F (bitW x) s j)) (nI j))), some (.int (lstS (bitW x) (allS F (bitW x) s j) (nI j) q)), some (.int (nI q))]) (S' := [.int (nI q), .ref 64]) (σ' := lm_T M2 v G) rfl trivial ?_
          refine lm_G_ca (j := 190) (as := [.ref 64, .int (nI q)]) (rest := []) rfl (Or.inl rfl) (Nat.le_of_ble_eq_true rfl) (Nat.le_of_ble_eq_true rfl) (Nat.le_of_ble_eq_true rfl) (Nat.le_of_ble_eq_true rfl) rfl ?_
          refine m_fallSilent (by omega) ?_
          show lm_G X (d + 1) 191 106 0 0 62 [some (.ref 64), some (.int x), some (.int (nI j)), some (.int (humS F (sHu (allS F (bitW x) s j)) (nI j))), some (.int (lstS (bitW x) (allS F (bitW x) s j) (nI j) q)), some (.int (nI q))] [] (lm_T (lm_wr (lm_wr (lm_wr M2 82 q (-1)) 83 q 0) 84 q 0) v G) Q
          have e3 := b2i_1 h3
          rw [eb] at e3
          refine lm_G_sg 3 (pc' := 69) (L' := [some (.ref 64), some (.int x), some (.int (nI j)), some (.int (humS F (sHu (allS F (bitW x) s j)) (nI j))), some (.int (nI q)), some (.int ((nI q) + 1))]) (S' := []) (σ' := lm_T (lm_wr (lm_wr (lm_wr M2 82 q (-1)) 83 q 0) 84 q 0) v G) rfl trivial ?_
          rw [nI_1]
          refine lm_G_sg 1 (pc' := 31) (L' := [some (.ref 64), some (.int x), some (.int (nI j)), some (.int (humS F (sHu (allS F (bitW x) s j)) (nI j))), some (.int (nI q)), some (.int (nI (q + 1)))]) (S' := []) (σ' := lm_T (lm_wr (lm_wr (lm_wr M2 82 q (-1)) 83 q 0) 84 q 0) v G) rfl trivial ?_
          have e4 : lstS (bitW x) (allS F (bitW x) s j) (nI j) (q + 1) = nI q := by simp only [lstS]; rw [if_pos e3]
          have e5 : stpS (bitW x) (allS F (bitW x) s j) (nI j) (q + 1) = silS (stpS (bitW x) (allS F (bitW x) s j) (nI j) q) q := by simp only [stpS]; rw [if_pos e3]
          rw [e4, e5] at ih2
          exact ih2 _ (⟨RM_sil h2 q, t2, FrM_wr (FrM_wr (FrM_wr f2 rfl (by decide)) rfl (by decide)) rfl (by decide)⟩)
        ·
          refine lm_G_sg 2 (pc' := 69) (L' := [some (.ref 64), some (.int x), some (.int (nI j)), some (.int (humS F (sHu (allS F (bitW x) s j)) (nI j))), some (.int (lstS (bitW x) (allS F (bitW x) s j) (nI j) q)), some (.int ((nI q) + 1))]) (S' := []) (σ' := lm_T M2 v G) rfl trivial ?_
          rw [nI_1]
          refine lm_G_sg 1 (pc' := 31) (L' := [some (.ref 64), some (.int x), some (.int (nI j)), some (.int (humS F (sHu (allS F (bitW x) s j)) (nI j))), some (.int (lstS (bitW x) (allS F (bitW x) s j) (nI j) q)), some (.int (nI (q + 1)))]) (S' := []) (σ' := lm_T M2 v G) rfl trivial ?_
          have e3 := b2i_0 (Classical.not_not.mp h3)
          rw [eb] at e3
          have e4 : lstS (bitW x) (allS F (bitW x) s j) (nI j) (q + 1) = lstS (bitW x) (allS F (bitW x) s j) (nI j) q := by simp only [lstS]; rw [e3]; rfl
          have e5 : stpS (bitW x) (allS F (bitW x) s j) (nI j) (q + 1) = (stpS (bitW x) (allS F (bitW x) s j) (nI j) q) := by simp only [stpS]; rw [e3]; rfl
          rw [e4, e5] at ih2
          exact ih2 _ (⟨h2, t2, f2⟩)
      ·
        revert hI2
        revert zz
        intro M2 hI2
        replace hI2 : RM M2 F (stpS (bitW x) (allS F (bitW x) s j) (nI j) (fN F)) ∧ M2 64 41 = M1 64 41 ∧ FrM M1 M2 := hI2
        show lm_G X (d + 1) 191 106 0 0 31 [some (.ref 64), some (.int x), some (.int (nI j)), some (.int (humS F (sHu (allS F (bitW x) s j)) (nI j))), some (.int (lstS (bitW x) (allS F (bitW x) s j) (nI j) (fN F))), some (.int (nI (fN F)))] [] (lm_T M2 v G) Q
        obtain ⟨h2, t2, f2⟩ := hI2
        refine lm_G_sg 5 (pc' := 39) (L' := [some (.ref 64), some (.int x), some (.int (nI j)), some (.int (humS F (sHu (allS F (bitW x) s j)) (nI j))), some (.int (lstS (bitW x) (allS F (bitW x) s j) (nI j) (fN F))), some (.int (nI (fN F)))]) (S' := [.int (M2 68 0), .int (nI (fN F))]) (σ' := lm_T M2 v G) rfl ⟨(lm_inb_ok rfl), trivial, trivial⟩ ?_
        rw [show M2 68 0 = nI (fN F) from h2.n]
        refine lm_G_br (b := (nI (fN F)) ≤ (nI (fN F))) (t := 72) (S' := []) rfl (fun hc => ?_) (fun hc => absurd (nI_le (Nat.le_refl _) (by omega)) hc)
        refine lm_G_sg 2 (pc' := 74) (L' := [some (.ref 64), some (.int x), some (.int (nI j)), some (.int (humS F (sHu (allS F (bitW x) s j)) (nI j))), some (.int (lstS (bitW x) (allS F (bitW x) s j) (nI j) (fN F))), some (.int (nI (fN F)))]) (S' := [.int (nI j), .ref 64]) (σ' := lm_T M2 v G) rfl trivial ?_
        refine lm_G_ca (j := 181) (as := [.ref 64, .int (nI j)]) (rest := []) rfl (Or.inl rfl) (Nat.le_of_ble_eq_true rfl) (Nat.le_of_ble_eq_true rfl) (Nat.le_of_ble_eq_true rfl) (Nat.le_of_ble_eq_true rfl) rfl ?_
        refine m_whoHums hF h2 ?_
        show lm_G X (d + 1) 191 106 0 0 77 [some (.ref 64), some (.int x), some (.int (nI j)), some (.int (humS F (sHu (allS F (bitW x) s j)) (nI j))), some (.int (lstS (bitW x) (allS F (bitW x) s j) (nI j) (fN F))), some (.int (nI (fN F)))] [.int (humS F (sHu (stpS (bitW x) (allS F (bitW x) s j) (nI j) (fN F))) (nI j))] (lm_T M2 v G) Q
        refine lm_G_br (b := ¬ (humS F (sHu (stpS (bitW x) (allS F (bitW x) s j) (nI j) (fN F))) (nI j)) = 0) (t := 99) (S' := []) rfl (fun h3 => ?_) (fun h3 => ?_)
        ·
          refine lm_G_sg 1 (pc' := 102) (L' := [some (.ref 64), some (.int x), some (.int ((nI j) + 1)), some (.int (humS F (sHu (allS F (bitW x) s j)) (nI j))), some (.int (lstS (bitW x) (allS F (bitW x) s j) (nI j) (fN F))), some (.int (nI (fN F)))]) (S' := []) (σ' := lm_T M2 v G) rfl trivial ?_
          rw [nI_1]
          refine lm_G_sg 1 (pc' := 2) (L' := [some (.ref 64), some (.int x), some (.int (nI (j + 1))), some (.int (humS F (sHu (allS F (bitW x) s j)) (nI j))), some (.int (lstS (bitW x) (allS F (bitW x) s j) (nI j) (fN F))), some (.int (nI (fN F)))]) (S' := []) (σ' := lm_T M2 v G) rfl trivial ?_
          have ef : fallS F (bitW x) (allS F (bitW x) s j) (nI j) = false := by unfold fallS; rw [decide_eq_false h3]; simp
          have e1 : allS F (bitW x) s (j + 1) = (stpS (bitW x) (allS F (bitW x) s j) (nI j) (fN F)) := by simp only [allS, tunS]; rw [ef]; rfl
          have e2 : allD F (bitW x) s (j + 1) = allD F (bitW x) s j := by simp only [allD, tunD]; rw [ef]; simp
          rw [e1, e2] at ih
          refine lm_G_jk (L := [some (.ref 64), some (.int x), some (.int (nI (j + 1))), none, none, none]) ⟨rfl, rfl, rfl, trivial⟩ ?_
          exact ih _ (⟨h2, t2.trans t1, FrM_tr f1 f2⟩)
        ·
          have ef : fallS F (bitW x) (allS F (bitW x) s j) (nI j) = true := by unfold fallS; rw [decide_eq_true hz, decide_eq_true (Classical.not_not.mp h3)]; rfl
          refine lm_G_sg 3 (pc' := 83) (L' := [some (.ref 64), some (.int x), some (.int (nI j)), some (.int (humS F (sHu (allS F (bitW x) s j)) (nI j))), some (.int (lstS (bitW x) (allS F (bitW x) s j) (nI j) (fN F))), some (.int (nI (fN F)))]) (S' := [.int (humS F (sHu (allS F (bitW x) s j)) (nI j)), .int (nI j), .ref 64]) (σ' := lm_T M2 v G) rfl trivial ?_
          refine lm_G_ca (j := 144) (as := [.int (humS F (sHu (allS F (bitW x) s j)) (nI j))]) (rest := [.int (nI j), .ref 64]) rfl (Or.inl rfl) (Nat.le_of_ble_eq_true rfl) (Nat.le_of_ble_eq_true rfl) (Nat.le_of_ble_eq_true rfl) (Nat.le_of_ble_eq_true rfl) rfl ?_
          refine m_bits (hum_lt hF _ _) ?_
          show lm_G X (d + 1) 191 106 0 0 86 [some (.ref 64), some (.int x), some (.int (nI j)), some (.int (humS F (sHu (allS F (bitW x) s j)) (nI j))), some (.int (lstS (bitW x) (allS F (bitW x) s j) (nI j) (fN F))), some (.int (nI (fN F)))] [.int (cnt (humS F (sHu (allS F (bitW x) s j)) (nI j))), .int (nI j), .ref 64] (lm_T M2 v G) Q
          refine lm_G_sg 1 (pc' := 87) (L' := [some (.ref 64), some (.int x), some (.int (nI j)), some (.int (humS F (sHu (allS F (bitW x) s j)) (nI j))), some (.int (lstS (bitW x) (allS F (bitW x) s j) (nI j) (fN F))), some (.int (nI (fN F)))]) (S' := [.int 1, .int (cnt (humS F (sHu (allS F (bitW x) s j)) (nI j))), .int (nI j), .ref 64]) (σ' := lm_T M2 v G) rfl trivial ?_
          refine lm_G_br (b := ¬ (cnt (humS F (sHu (allS F (bitW x) s j)) (nI j))) = 1) (t := 95) (S' := [.int (nI j), .ref 64]) rfl (fun h4 => ?_) (fun h4 => ?_)
          ·
            have en : newS F (bitW x) (allS F (bitW x) s j) (nI j) = -1 := by unfold newS; rw [if_neg h4]
            refine lm_G_sg 1 (pc' := 96) (L' := [some (.ref 64), some (.int x), some (.int (nI j)), some (.int (humS F (sHu (allS F (bitW x) s j)) (nI j))), some (.int (lstS (bitW x) (allS F (bitW x) s j) (nI j) (fN F))), some (.int (nI (fN F)))]) (S' := [.int (-1), .int (nI j), .ref 64]) (σ' := lm_T M2 v G) rfl trivial ?_
            rw [← en]
            refine lm_G_ca (j := 189) (as := [.ref 64, .int (nI j), .int (newS F (bitW x) (allS F (bitW x) s j) (nI j))]) (rest := []) rfl (Or.inl rfl) (Nat.le_of_ble_eq_true rfl) (Nat.le_of_ble_eq_true rfl) (Nat.le_of_ble_eq_true rfl) (Nat.le_of_ble_eq_true rfl) rfl ?_
            refine m_giveTo hF h2 hj ?_
            show lm_G X (d + 1) 191 106 0 0 99 [some (.ref 64), some (.int x), some (.int (nI j)), some (.int (humS F (sHu (allS F (bitW x) s j)) (nI j))), some (.int (lstS (bitW x) (allS F (bitW x) s j) (nI j) (fN F))), some (.int (nI (fN F)))] [] (lm_T (lm_wr (lm_wr M2 64 41 (M2 64 41 + (if sOw (stpS (bitW x) (allS F (bitW x) s j) (nI j) (fN F)) j = newS F (bitW x) (allS F (bitW x) s j) (nI j) then 0 else 1))) 81 j (newS F (bitW x) (allS F (bitW x) s j) (nI j))) v G) Q
            refine lm_G_sg 1 (pc' := 102) (L' := [some (.ref 64), some (.int x), some (.int ((nI j) + 1)), some (.int (humS F (sHu (allS F (bitW x) s j)) (nI j))), some (.int (lstS (bitW x) (allS F (bitW x) s j) (nI j) (fN F))), some (.int (nI (fN F)))]) (S' := []) (σ' := lm_T (lm_wr (lm_wr M2 64 41 (M2 64 41 + (if sOw (stpS (bitW x) (allS F (bitW x) s j) (nI j) (fN F)) j = newS F (bitW x) (allS F (bitW x) s j) (nI j) then 0 else 1))) 81 j (newS F (bitW x) (allS F (bitW x) s j) (nI j))) v G) rfl trivial ?_
            rw [nI_1]
            refine lm_G_sg 1 (pc' := 2) (L' := [some (.ref 64), some (.int x), some (.int (nI (j + 1))), some (.int (humS F (sHu (allS F (bitW x) s j)) (nI j))), some (.int (lstS (bitW x) (allS F (bitW x) s j) (nI j) (fN F))), some (.int (nI (fN F)))]) (S' := []) (σ' := lm_T (lm_wr (lm_wr M2 64 41 (M2 64 41 + (if sOw (stpS (bitW x) (allS F (bitW x) s j) (nI j) (fN F)) j = newS F (bitW x) (allS F (bitW x) s j) (nI j) then 0 else 1))) 81 j (newS F (bitW x) (allS F (bitW x) s j) (nI j))) v G) rfl trivial ?_
            have e1 : allS F (bitW x) s (j + 1) = ownT (stpS (bitW x) (allS F (bitW x) s j) (nI j) (fN F)) j (newS F (bitW x) (allS F (bitW x) s j) (nI j)) := by simp only [allS, tunS]; rw [ef]; rfl
            have e2 : allD F (bitW x) s (j + 1) = allD F (bitW x) s j + (if sOw (stpS (bitW x) (allS F (bitW x) s j) (nI j) (fN F)) j = newS F (bitW x) (allS F (bitW x) s j) (nI j) then 0 else 1) := by
              simp only [allD, tunD]
              rw [ef, (stp_ow (fN F)).1]
              by_cases w : sOw (allS F (bitW x) s j) j = newS F (bitW x) (allS F (bitW x) s j) (nI j) <;> simp [w]
            rw [e1, e2] at ih
            refine lm_G_jk (L := [some (.ref 64), some (.int x), some (.int (nI (j + 1))), none, none, none]) ⟨rfl, rfl, rfl, trivial⟩ ?_
            exact ih _ (⟨RM_own h2 j _ _, by rw [wr_row (by decide), wr_same, t2, t1, Int32.add_assoc], FrM_tr f1 (FrM_wr (FrM_w64 f2 (Or.inr rfl)) rfl (by decide))⟩)
          ·
            have en : newS F (bitW x) (allS F (bitW x) s j) (nI j) = lstS (bitW x) (allS F (bitW x) s j) (nI j) (fN F) := by unfold newS; rw [if_pos (Classical.not_not.mp h4)]
            refine lm_G_sg 2 (pc' := 96) (L' := [some (.ref 64), some (.int x), some (.int (nI j)), some (.int (humS F (sHu (allS F (bitW x) s j)) (nI j))), some (.int (lstS (bitW x) (allS F (bitW x) s j) (nI j) (fN F))), some (.int (nI (fN F)))]) (S' := [.int (lstS (bitW x) (allS F (bitW x) s j) (nI j) (fN F)), .int (nI j), .ref 64]) (σ' := lm_T M2 v G) rfl trivial ?_
            rw [← en]
            refine lm_G_ca (j := 189) (as := [.ref 64, .int (nI j), .int (newS F (bitW x) (allS F (bitW x) s j) (nI j))]) (rest := []) rfl (Or.inl rfl) (Nat.le_of_ble_eq_true rfl) (Nat.le_of_ble_eq_true rfl) (Nat.le_of_ble_eq_true rfl) (Nat.le_of_ble_eq_true rfl) rfl ?_
            refine m_giveTo hF h2 hj ?_
            show lm_G X (d + 1) 191 106 0 0 99 [some (.ref 64), some (.int x), some (.int (nI j)), some (.int (humS F (sHu (allS F (bitW x) s j)) (nI j))), some (.int (newS F (bitW x) (allS F (bitW x) s j) (nI j))), some (.int (nI (fN F)))] [] (lm_T (lm_wr (lm_wr M2 64 41 (M2 64 41 + (if sOw (stpS (bitW x) (allS F (bitW x) s j) (nI j) (fN F)) j = newS F (bitW x) (allS F (bitW x) s j) (nI j) then 0 else 1))) 81 j (newS F (bitW x) (allS F (bitW x) s j) (nI j))) v G) Q
            refine lm_G_sg 1 (pc' := 102) (L' := [some (.ref 64), some (.int x), some (.int ((nI j) + 1)), some (.int (humS F (sHu (allS F (bitW x) s j)) (nI j))), some (.int (newS F (bitW x) (allS F (bitW x) s j) (nI j))), some (.int (nI (fN F)))]) (S' := []) (σ' := lm_T (lm_wr (lm_wr M2 64 41 (M2 64 41 + (if sOw (stpS (bitW x) (allS F (bitW x) s j) (nI j) (fN F)) j = newS F (bitW x) (allS F (bitW x) s j) (nI j) then 0 else 1))) 81 j (newS F (bitW x) (allS F (bitW x) s j) (nI j))) v G) rfl trivial ?_
            rw [nI_1]
            refine lm_G_sg 1 (pc' := 2) (L' := [some (.ref 64), some (.int x), some (.int (nI (j + 1))), some (.int (humS F (sHu (allS F (bitW x) s j)) (nI j))), some (.int (newS F (bitW x) (allS F (bitW x) s j) (nI j))), some (.int (nI (fN F)))]) (S' := []) (σ' := lm_T (lm_wr (lm_wr M2 64 41 (M2 64 41 + (if sOw (stpS (bitW x) (allS F (bitW x) s j) (nI j) (fN F)) j = newS F (bitW x) (allS F (bitW x) s j) (nI j) then 0 else 1))) 81 j (newS F (bitW x) (allS F (bitW x) s j) (nI j))) v G) rfl trivial ?_
            have e1 : allS F (bitW x) s (j + 1) = ownT (stpS (bitW x) (allS F (bitW x) s j) (nI j) (fN F)) j (newS F (bitW x) (allS F (bitW x) s j) (nI j)) := by simp only [allS, tunS]; rw [ef]; rfl
            have e2 : allD F (bitW x) s (j + 1) = allD F (bitW x) s j + (if sOw (stpS (bitW x) (allS F (bitW x) s j) (nI j) (fN F)) j = newS F (bitW x) (allS F (bitW x) s j) (nI j) then 0 else 1) := by
              simp only [allD, tunD]
              rw [ef, (stp_ow (fN F)).1]
              by_cases w : sOw (allS F (bitW x) s j) j = newS F (bitW x) (allS F (bitW x) s j) (nI j) <;> simp [w]
            rw [e1, e2] at ih
            refine lm_G_jk (L := [some (.ref 64), some (.int x), some (.int (nI (j + 1))), none, none, none]) ⟨rfl, rfl, rfl, trivial⟩ ?_
            exact ih _ (⟨RM_own h2 j _ _, by rw [wr_row (by decide), wr_same, t2, t1, Int32.add_assoc], FrM_tr f1 (FrM_wr (FrM_w64 f2 (Or.inr rfl)) rfl (by decide))⟩)
      ·
        try dsimp only
        exact ⟨h1, rfl, FrM_rf _⟩
    ·
      refine lm_G_sg 2 (pc' := 102) (L' := [some (.ref 64), some (.int x), some (.int ((nI j) + 1)), some (.int (humS F (sHu (allS F (bitW x) s j)) (nI j))), none, none]) (S' := []) (σ' := lm_T M1 v G) rfl trivial ?_
      rw [nI_1]
      refine lm_G_sg 1 (pc' := 2) (L' := [some (.ref 64), some (.int x), some (.int (nI (j + 1))), some (.int (humS F (sHu (allS F (bitW x) s j)) (nI j))), none, none]) (S' := []) (σ' := lm_T M1 v G) rfl trivial ?_
      obtain ⟨n1, n2⟩ := tun_none hF (W := (bitW x)) (Classical.not_not.mp hz)
      have e1 : allS F (bitW x) s (j + 1) = (allS F (bitW x) s j) := n1
      have e2 : allD F (bitW x) s (j + 1) = allD F (bitW x) s j := by simp only [allD]; rw [n2]; simp
      rw [e1, e2] at ih
      refine lm_G_jk (L := [some (.ref 64), some (.int x), some (.int (nI (j + 1))), none, none, none]) ⟨rfl, rfl, rfl, rfl, rfl, trivial⟩ ?_
      exact ih _ (⟨h1, t1, f1⟩)
  ·
    revert hI
    revert zz
    intro M1 hI
    replace hI : RM M1 F (allS F (bitW x) s (fM F)) ∧ M1 64 41 = M 64 41 + allD F (bitW x) s (fM F) ∧ FrM M M1 := hI
    show lm_G X (d + 1) 191 106 0 0 2 [some (.ref 64), some (.int x), some (.int (nI (fM F))), none, none, none] [] (lm_T M1 v G) Q
    obtain ⟨h1, t1, f1⟩ := hI
    refine lm_G_sg 5 (pc' := 9) (L' := [some (.ref 64), some (.int x), some (.int (nI (fM F))), none, none, none]) (S' := [.int (M1 68 1), .int (nI (fM F))]) (σ' := lm_T M1 v G) rfl ⟨(lm_inb_ok rfl), trivial, trivial⟩ ?_
    rw [show M1 68 1 = nI (fM F) from h1.m]
    refine lm_G_br (b := (nI (fM F)) ≤ (nI (fM F))) (t := 105) (S' := []) rfl (fun hc => ?_) (fun hc => absurd (nI_le (Nat.le_refl _) (by omega)) hc)
    exact lm_G_re rfl trivial (Nat.zero_le _) (Nat.zero_le _) (hQ _ h1 t1 f1)
  ·
    try dsimp only
    exact ⟨h, by simp [allD], FrM_rf _⟩
