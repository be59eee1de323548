/-! ===== contracts: acts ===== -/
set_option maxRecDepth 10000 in
theorem c_refuse {X : lm_X} {d v : Nat} {M : Nat → Nat → Int32} {G : Nat → Nat → Int64} {Q : lm_O → lm_S → Prop} {j : Nat} (hj : j < 3) (hQ : Q (.inl none) (lm_T (lm_wr M 56 j (M 56 j + 1)) v G)) : lm_Q X d 2 [.ref 52, .int (nI j)] (lm_T M v G) Q := by
  show lm_G X d 2 106 0 0 0 [some (.ref 52), some (.int (nI j))] [] (lm_T M v G) Q
  refine lm_G_sg 1 (pc' := 1) (L' := [some (.ref 52), some (.int (nI j))]) (S' := [.int (nI j)]) (σ' := lm_T M v G) rfl trivial ?_
  refine lm_G_br (b := (nI j) < 0) (t := 19) (S' := []) rfl (fun hc => absurd hc (nI_pos (by omega))) (fun hc => ?_)
  refine lm_G_sg 2 (pc' := 6) (L' := [some (.ref 52), some (.int (nI j))]) (S' := [.int 3, .int (nI j)]) (σ' := lm_T M v G) rfl trivial ?_
  refine lm_G_br (b := 3 ≤ (nI j)) (t := 19) (S' := []) rfl (fun hc => absurd hc (nI_ge (b := 3) hj (by omega))) (fun hc => ?_)
  refine lm_G_sg 5 (pc' := 16) (L' := [some (.ref 52), some (.int (nI j))]) (S' := [.int (M 56 (nI j).toNatClampNeg), .int (nI j), .ref 56]) (σ' := lm_T M v G) rfl ⟨(vp_in_nI (by omega) (by omega)), trivial, trivial⟩ ?_
  rw [show (nI j).toNatClampNeg = j from nI_clamp (by omega)]
  refine lm_G_sg 3 (pc' := 19) (L' := [some (.ref 52), some (.int (nI j))]) (S' := []) (σ' := lm_T (lm_wr M 56 ((nI j).toNatClampNeg) ((M 56 j) + 1)) v G) rfl ⟨(vp_in_nI (by omega) (by omega)), trivial, trivial⟩ ?_
  rw [show (nI j).toNatClampNeg = j from nI_clamp (by omega)]
  exact lm_G_re rfl trivial (Nat.zero_le _) (Nat.zero_le _) hQ
def frG2 (a : Nat) : Bool := decide (a = 52 ∨ (54 ≤ a ∧ a ≤ 56))
set_option maxRecDepth 10000 in
theorem c_refuseAct {X : lm_X} {d v : Nat} {M : Nat → Nat → Int32} {G : Nat → Nat → Int64} {Q : lm_O → lm_S → Prop} {F : Fa} {s : Sc} {B : Bk} (hc0 : CS M F s B) (hQ : ∀ M1, CS M1 F s (rfB B 1) → Fr frG M M1 → Q (.inl (some (.int (-1)))) (lm_T M1 v G)) : lm_Q X (d + 1) 98 [.ref 0] (lm_T M v G) Q := by
  show lm_G X (d + 1) 98 106 0 0 0 [some (.ref 0)] [] (lm_T M v G) Q
  refine lm_G_sg 3 (pc' := 5) (L' := [some (.ref 0)]) (S' := [.int 1, .ref 52]) (σ' := lm_T M v G) rfl trivial ?_
  refine lm_G_ca (j := 2) (as := [.ref 52, .int 1]) (rest := []) rfl (Or.inl rfl) (Nat.le_of_ble_eq_true rfl) (Nat.le_of_ble_eq_true rfl) (Nat.le_of_ble_eq_true rfl) (Nat.le_of_ble_eq_true rfl) rfl ?_
  refine c_refuse (j := 1) (by omega) ?_
  show lm_G X (d + 1) 98 106 0 0 8 [some (.ref 0)] [] (lm_T (lm_wr M 56 1 (M 56 1 + 1)) v G) Q
  refine lm_G_sg 1 (pc' := 9) (L' := [some (.ref 0)]) (S' := [.int (-1)]) (σ' := lm_T (lm_wr M 56 1 (M 56 1 + 1)) v G) rfl trivial ?_
  exact lm_G_re rfl trivial (Nat.zero_le _) (Nat.zero_le _) (hQ _ ⟨RC_fr hc0.1 (Fr_wr (p := frG2) (Fr_rf _ _) rfl) (by decide) (by decide), hc0.2.1, CB_rf hc0.2.2 (by omega)⟩ (Fr_wr (Fr_rf _ _) rfl))
theorem frG2O {a r : Nat} (ha : frG2 a = false) (hr : frG2 r = true) : frO r a = false := by
  unfold frO
  rw [beq_eq_false_iff_ne]
  intro e
  rw [e, hr] at ha
  cases ha
theorem frGG {a : Nat} (h : frG a = false) : frG2 a = false := by
  unfold frG at h
  unfold frG2
  rw [decide_eq_false_iff_not] at h ⊢
  omega
set_option maxRecDepth 10000 in
theorem c_keep {X : lm_X} {d v : Nat} {M : Nat → Nat → Int32} {G : Nat → Nat → Int64} {Q : lm_O → lm_S → Prop} {F : Fa} {s : Sc} {B : Bk} (hF : okF F) (hc0 : CS M F s B) (hA : bkA B ≤ 40) (hQ : ∀ M1, CS M1 F s (kpB B s) → Fr frG M M1 → Q (.inl none) (lm_T M1 v G)) : lm_Q X (d + 1) 4 [.ref 52, .ref 28] (lm_T M v G) Q := by
  have hn := hF.n
  have hm := hF.m
  show lm_G X (d + 1) 4 106 0 0 0 [some (.ref 52), some (.ref 28)] [] (lm_T M v G) Q
  refine lm_G_sg 2 (pc' := 4) (L' := [some (.ref 52), some (.ref 28)]) (S' := [.int (M 52 2)]) (σ' := lm_T M v G) rfl trivial ?_
  rw [show M 52 2 = nI (bkA B) from hc0.2.2.1]
  refine lm_G_sg 1 (pc' := 6) (L' := [some (.ref 52), some (.ref 28)]) (S' := [.int 40, .int (nI (bkA B))]) (σ' := lm_T M v G) rfl trivial ?_
  refine lm_G_br (b := (nI (bkA B)) < 40) (t := 32) (S' := []) rfl (fun h1 => ?_) (fun h1 => ?_)
  ·
    have hA2 : bkA B < 40 := (nI_ltI (b := 40) (by omega) (by omega)).mp h1
    refine lm_G_sg 5 (pc' := 41) (L' := [some (.ref 52), some (.ref 28)]) (S' := [.int (M 52 2), .ref 54, .ref 28]) (σ' := lm_T M v G) rfl trivial ?_
    rw [show M 52 2 = nI (bkA B) from hc0.2.2.1]
    refine lm_G_sg 2 (pc' := 44) (L' := [some (.ref 52), some (.ref 28)]) (S' := [.int ((nI (bkA B)) * 47), .ref 54, .ref 28]) (σ' := lm_T M v G) rfl trivial ?_
    rw [show (nI (bkA B)) * 47 = nI ((bkA B) * 47) from pk_mul (bkA B) 47]
    refine lm_G_ca (j := 54) (as := [.ref 28, .ref 54, .int (nI ((bkA B) * 47))]) (rest := []) rfl (Or.inl rfl) (Nat.le_of_ble_eq_true rfl) (Nat.le_of_ble_eq_true rfl) (Nat.le_of_ble_eq_true rfl) (Nat.le_of_ble_eq_true rfl) rfl ?_
    refine c_saveTo54 (a := bkA B * 47) hF hc0.1 (by omega) (fun M1 v1 o1 f1 => ?_)
    show lm_G X (d + 1) 4 106 0 0 47 [some (.ref 52), some (.ref 28)] [] (lm_T M1 v G) Q
    refine lm_G_sg 3 (pc' := 52) (L' := [some (.ref 52), some (.ref 28)]) (S' := [.int (M1 52 2), .ref 52]) (σ' := lm_T M1 v G) rfl trivial ?_
    rw [show M1 52 2 = nI (bkA B) from (congrFun (f1 52 rfl) 2).trans hc0.2.2.1]
    refine lm_G_sg 2 (pc' := 54) (L' := [some (.ref 52), some (.ref 28)]) (S' := [.int ((nI (bkA B)) + 1), .ref 52]) (σ' := lm_T M1 v G) rfl trivial ?_
    rw [show (nI (bkA B)) + 1 = nI ((bkA B) + 1) from nI_add (bkA B) 1]
    refine lm_G_sg 1 (pc' := 57) (L' := [some (.ref 52), some (.ref 28)]) (S' := []) (σ' := lm_T (lm_wr M1 52 2 (nI ((bkA B) + 1))) v G) rfl ⟨trivial, trivial, trivial⟩ ?_
    rw [Nat.mul_comm] at v1 o1
    exact lm_G_re rfl trivial (Nat.zero_le _) (Nat.zero_le _) (hQ _ ⟨RC_fr (p := frG2) hc0.1 (Fr_wr (Fr_mn f1 (fun a ha => frG2O ha rfl)) rfl) (by decide) (by decide), (congrFun (f1 28 rfl) 12).trans hc0.2.1, CB_kp hF hc0.2.2 hA2 rfl (congrFun (f1 52 rfl) 4) v1 (fun i hi => o1 i (Or.inl hi)) (f1 55 rfl) (f1 56 rfl)⟩ (Fr_wr (Fr_mn f1 (fun a ha => frG2O (frGG ha) rfl)) rfl))
  ·
    have hA2 : bkA B = 40 := by
      have : ¬ bkA B < 40 := fun w => h1 (nI_lt (b := 40) w (by omega))
      omega
    refine lm_G_sg 18 (pc' := 44) (L' := [some (.ref 52), some (.ref 28)]) (S' := [.int (39 * 47), .ref 54, .ref 28]) (σ' := lm_T (lm_wr (lm_wa M 54 (va_cpy (M 54) (M 54) 47 0 1833)) 52 2 39) v G) rfl ⟨⟨by decide, by decide, by decide, by decide, by decide⟩, (Nat.le_of_ble_eq_true rfl), trivial, trivial, trivial⟩ ?_
    rw [show (39 : Int32) * 47 = nI 1833 from by decide]
    have h9 : RC 28 (lm_wr (lm_wa M 54 (va_cpy (M 54) (M 54) 47 0 1833)) 52 2 39) F s := RC_fr (p := frG2) hc0.1 (Fr_wr (Fr_wa (Fr_rf _ _) rfl) rfl) (by decide) (by decide)
    have f9 : Fr frG2 M (lm_wr (lm_wa M 54 (va_cpy (M 54) (M 54) 47 0 1833)) 52 2 39) := Fr_wr (Fr_wa (Fr_rf _ _) rfl) rfl
    have e9 : ∀ i, i < 1833 → (lm_wr (lm_wa M 54 (va_cpy (M 54) (M 54) 47 0 1833)) 52 2 39) 54 i = M 54 (47 + i) := fun i hi => pk_cpy_in (dp := 0) (by omega) (by omega)
    have a9 : (lm_wr (lm_wa M 54 (va_cpy (M 54) (M 54) 47 0 1833)) 52 2 39) 52 2 = 39 := rfl
    have b9 : (lm_wr (lm_wa M 54 (va_cpy (M 54) (M 54) 47 0 1833)) 52 2 39) 52 4 = M 52 4 := rfl
    have c9 : (lm_wr (lm_wa M 54 (va_cpy (M 54) (M 54) 47 0 1833)) 52 2 39) 55 = M 55 := rfl
    have d9 : (lm_wr (lm_wa M 54 (va_cpy (M 54) (M 54) 47 0 1833)) 52 2 39) 56 = M 56 := rfl
    revert h9 f9 e9 a9 b9 c9 d9
    generalize lm_wr (lm_wa M 54 (va_cpy (M 54) (M 54) 47 0 1833)) 52 2 39 = M9
    intro h9 f9 e9 a9 b9 c9 d9
    refine lm_G_ca (j := 54) (as := [.ref 28, .ref 54, .int (nI 1833)]) (rest := []) rfl (Or.inl rfl) (Nat.le_of_ble_eq_true rfl) (Nat.le_of_ble_eq_true rfl) (Nat.le_of_ble_eq_true rfl) (Nat.le_of_ble_eq_true rfl) rfl ?_
    refine c_saveTo54 (a := 1833) hF h9 (by omega) (fun M1 v1 o1 f1 => ?_)
    show lm_G X (d + 1) 4 106 0 0 47 [some (.ref 52), some (.ref 28)] [] (lm_T M1 v G) Q
    refine lm_G_sg 3 (pc' := 52) (L' := [some (.ref 52), some (.ref 28)]) (S' := [.int (M1 52 2), .ref 52]) (σ' := lm_T M1 v G) rfl trivial ?_
    rw [show M1 52 2 = 39 from (congrFun (f1 52 rfl) 2).trans a9]
    refine lm_G_sg 3 (pc' := 57) (L' := [some (.ref 52), some (.ref 28)]) (S' := []) (σ' := lm_T (lm_wr M1 52 2 (39 + 1)) v G) rfl ⟨trivial, trivial, trivial⟩ ?_
    exact lm_G_re rfl trivial (Nat.zero_le _) (Nat.zero_le _) (hQ _ ⟨RC_fr (p := frG2) h9 (Fr_wr (Fr_mn f1 (fun a ha => frG2O ha rfl)) rfl) (by decide) (by decide), ((congrFun (f1 28 rfl) 12).trans (congrFun (f9 28 rfl) 12)).trans hc0.2.1, CB_kp40 hF hc0.2.2 hA2 rfl ((congrFun (f1 52 rfl) 4).trans b9) v1 (fun i hi => (o1 i (Or.inl hi)).trans (e9 i hi)) ((f1 55 rfl).trans c9) ((f1 56 rfl).trans d9)⟩ (Fr_wr (Fr_tr (Fr_mn f9 (fun _ => frGG)) (Fr_mn f1 (fun a ha => frG2O (frGG ha) rfl))) rfl))
set_option maxRecDepth 10000 in
theorem m_refuse {X : lm_X} {d v : Nat} {M : Nat → Nat → Int32} {G : Nat → Nat → Int64} {Q : lm_O → lm_S → Prop} {F : Fa} {s : Sc} {B : Bk} {j : Nat} (hj : j < 3) (hm0 : MS M F s B) (hQ : ∀ M1, MS M1 F s (rfB B j) → FrH M M1 → Q (.inl (some (.int (-1)))) (lm_T M1 v G)) : lm_Q X d 204 [.ref 64, .int (nI j)] (lm_T M v G) Q := by
  show lm_G X d 204 106 0 0 0 [some (.ref 64), some (.int (nI j))] [] (lm_T M v G) Q
  refine lm_G_sg 5 (pc' := 7) (L' := [some (.ref 64), some (.int (nI j))]) (S' := [.int (M 78 (nI j).toNatClampNeg), .int (nI j), .ref 78]) (σ' := lm_T M v G) rfl ⟨(vp_in_nI (by omega) (by omega)), trivial, trivial⟩ ?_
  rw [show (nI j).toNatClampNeg = j from nI_clamp (by omega)]
  refine lm_G_sg 3 (pc' := 10) (L' := [some (.ref 64), some (.int (nI j))]) (S' := []) (σ' := lm_T (lm_wr M 78 ((nI j).toNatClampNeg) ((M 78 j) + 1)) v G) rfl ⟨(vp_in_nI (by omega) (by omega)), trivial, trivial⟩ ?_
  rw [show (nI j).toNatClampNeg = j from nI_clamp (by omega)]
  refine lm_G_sg 1 (pc' := 11) (L' := [some (.ref 64), some (.int (nI j))]) (S' := [.int (-1)]) (σ' := lm_T (lm_wr M 78 j ((M 78 j) + 1)) v G) rfl trivial ?_
  exact lm_G_re rfl trivial (Nat.zero_le _) (Nat.zero_le _) (hQ _ ⟨RM_wr hm0.1 (by decide), hm0.2.1, MB_rf hm0.2.2 hj⟩ (FrH_wr (FrH_rf _) rfl (by decide)))
theorem frHO {a r : Nat} (ha : frH a = false) (hr : frH r = true) : frO r a = false := by
  unfold frO
  rw [beq_eq_false_iff_ne]
  intro e
  rw [e, hr] at ha
  cases ha
set_option maxRecDepth 10000 in
theorem m_keep {X : lm_X} {d v : Nat} {M : Nat → Nat → Int32} {G : Nat → Nat → Int64} {Q : lm_O → lm_S → Prop} {F : Fa} {s : Sc} {B : Bk} (hF : okF F) (hm0 : MS M F s B) (hA : bkA B ≤ 40) (hQ : ∀ M1, MS M1 F s (kpB B s) → FrH M M1 → M1 64 4 = M 64 4 → Q (.inl none) (lm_T M1 v G)) : lm_Q X (d + 1) 205 [.ref 64] (lm_T M v G) Q := by
  have hn := hF.n
  have hm := hF.m
  show lm_G X (d + 1) 205 106 0 0 0 [some (.ref 64), none] [] (lm_T M v G) Q
  refine lm_G_sg 2 (pc' := 4) (L' := [some (.ref 64), none]) (S' := [.int (M 64 37)]) (σ' := lm_T M v G) rfl trivial ?_
  rw [show M 64 37 = nI (bkA B) from hm0.2.2.1]
  refine lm_G_sg 1 (pc' := 6) (L' := [some (.ref 64), none]) (S' := [.int 40, .int (nI (bkA B))]) (σ' := lm_T M v G) rfl trivial ?_
  refine lm_G_br (b := ¬ (nI (bkA B)) = 40) (t := 52) (S' := []) rfl (fun h1 => ?_) (fun h1 => ?_)
  ·
    have hA2 : bkA B < 40 := by
      have : ¬ bkA B = 40 := fun w => h1 (by rw [w]; rfl)
      omega
    refine lm_G_sg 6 (pc' := 63) (L' := [some (.ref 64), none]) (S' := [.int (M 64 37), .int 47, .ref 87, .ref 64]) (σ' := lm_T M v G) rfl trivial ?_
    rw [show M 64 37 = nI (bkA B) from hm0.2.2.1]
    refine lm_G_sg 1 (pc' := 64) (L' := [some (.ref 64), none]) (S' := [.int (47 * (nI (bkA B))), .ref 87, .ref 64]) (σ' := lm_T M v G) rfl trivial ?_
    rw [show 47 * (nI (bkA B)) = nI (47 * (bkA B)) from pk_mul 47 (bkA B)]
    refine lm_G_ca (j := 177) (as := [.ref 64, .ref 87, .int (nI (47 * (bkA B)))]) (rest := []) rfl (Or.inl rfl) (Nat.le_of_ble_eq_true rfl) (Nat.le_of_ble_eq_true rfl) (Nat.le_of_ble_eq_true rfl) (Nat.le_of_ble_eq_true rfl) rfl ?_
    refine m_pack87 (a := 47 * bkA B) hF hm0.1 (by omega) (fun M1 v1 o1 f1 => ?_)
    show lm_G X (d + 1) 205 106 0 0 67 [some (.ref 64), none] [] (lm_T M1 v G) Q
    refine lm_G_sg 3 (pc' := 72) (L' := [some (.ref 64), none]) (S' := [.int (M1 64 37), .ref 64]) (σ' := lm_T M1 v G) rfl trivial ?_
    rw [show M1 64 37 = nI (bkA B) from (congrFun (f1 64 rfl) 37).trans hm0.2.2.1]
    refine lm_G_sg 2 (pc' := 74) (L' := [some (.ref 64), none]) (S' := [.int ((nI (bkA B)) + 1), .ref 64]) (σ' := lm_T M1 v G) rfl trivial ?_
    rw [show (nI (bkA B)) + 1 = nI ((bkA B) + 1) from nI_add (bkA B) 1]
    refine lm_G_sg 1 (pc' := 77) (L' := [some (.ref 64), none]) (S' := []) (σ' := lm_T (lm_wr M1 64 37 (nI ((bkA B) + 1))) v G) rfl ⟨trivial, trivial, trivial⟩ ?_
    exact lm_G_re rfl trivial (Nat.zero_le _) (Nat.zero_le _) (hQ _ ⟨RM_taken (RM_O hm0.1 f1 (by decide)) 37 (by decide) _, (wr_at (by decide)).trans ((congrFun (f1 64 rfl) 42).trans hm0.2.1), MB_kp hF hm0.2.2 hA2 wr_same ((wr_at (by decide)).trans (congrFun (f1 64 rfl) 38)) v1 (fun i hi => o1 i (Or.inl hi)) (f1 92 rfl) (f1 93 rfl) (f1 94 rfl) (f1 78 rfl)⟩ ⟨Fr_wr (Fr_mn f1 (fun a ha => frHO ha rfl)) rfl, fun k _ _ a3 _ _ => by rw [wr_at a3, f1 64 rfl]⟩ ((wr_at (by decide)).trans (congrFun (f1 64 rfl) 4)))
  ·
    have hA2 : bkA B = 40 := (nI_eq (b := 40) (by omega) (by omega)).mp (Classical.not_not.mp h1)
    refine lm_G_sg 2 (pc' := 12) (L' := [some (.ref 64), some (.int 47)]) (S' := []) (σ' := lm_T M v G) rfl trivial ?_
    refine lm_ind (α := (Nat → Fn)) (St := fun (j : Nat) zz => (fun (M1 : Nat → Fn) => lm_G X (d + 1) 205 106 0 0 12 [some (.ref 64), some (.int (nI (47 + j)))] [] (lm_T M1 v G) Q) zz) (Inv := fun (j : Nat) zz => (fun (M1 : Nat → Fn) => (∀ i, i < j → M1 87 i = M 87 (47 + i)) ∧ (∀ i, j ≤ i → M1 87 i = M 87 i) ∧ Fr (frO 87) M M1) zz) (1833) (fun j zz hj hI ih => ?_) (fun zz hI => ?_) (0) M (by omega) ?_
    ·
      revert ih hI
      revert zz
      intro M1 hI ih
      replace hI : (∀ i, i < j → M1 87 i = M 87 (47 + i)) ∧ (∀ i, j ≤ i → M1 87 i = M 87 i) ∧ Fr (frO 87) M M1 := hI
      replace ih : ∀ (M1 : Nat → Fn) (_ : (∀ i, i < (j + 1) → M1 87 i = M 87 (47 + i)) ∧ (∀ i, (j + 1) ≤ i → M1 87 i = M 87 i) ∧ Fr (frO 87) M M1), lm_G X (d + 1) 205 106 0 0 12 [some (.ref 64), some (.int (nI (47 + (j + 1))))] [] (lm_T M1 v G) Q := fun M1 q => ih M1 q
      show lm_G X (d + 1) 205 106 0 0 12 [some (.ref 64), some (.int (nI (47 + j)))] [] (lm_T M1 v G) Q
      obtain ⟨i1, i2, i3⟩ := hI
      refine lm_G_sg 4 (pc' := 18) (L' := [some (.ref 64), some (.int (nI (47 + j)))]) (S' := [.int 1880, .int (nI (47 + j))]) (σ' := lm_T M1 v G) rfl trivial ?_
      refine lm_G_br (b := 1880 ≤ (nI (47 + j))) (t := 42) (S' := []) rfl (fun hc => absurd hc (nI_ge (a := 47 + j) (b := 1880) (by omega) (by omega))) (fun hc => ?_)
      refine lm_G_sg 5 (pc' := 29) (L' := [some (.ref 64), some (.int (nI (47 + j)))]) (S' := [.int ((nI (47 + j)) - 47), .ref 87]) (σ' := lm_T M1 v G) rfl trivial ?_
      rw [show (nI (47 + j)) - 47 = nI j from by rw [show (47 : Int32) = nI 47 from rfl, nI_sub (by omega)]; congr 1; omega]
      refine lm_G_sg 4 (pc' := 35) (L' := [some (.ref 64), some (.int (nI (47 + j)))]) (S' := [.int (M1 87 (nI (47 + j)).toNatClampNeg), .int (nI j), .ref 87]) (σ' := lm_T M1 v G) rfl ⟨(vp_in_nI (by omega) (by omega)), trivial, trivial⟩ ?_
      rw [show (nI (47 + j)).toNatClampNeg = (47 + j) from nI_clamp (by omega)]
      rw [show M1 87 (47 + j) = M 87 (47 + j) from i2 (47 + j) (by omega)]
      refine lm_G_sg 1 (pc' := 36) (L' := [some (.ref 64), some (.int (nI (47 + j)))]) (S' := []) (σ' := lm_T (lm_wr M1 87 ((nI j).toNatClampNeg) (M 87 (47 + j))) v G) rfl ⟨(vp_in_nI (by omega) (by omega)), trivial, trivial⟩ ?_
      rw [show (nI j).toNatClampNeg = j from nI_clamp (by omega)]
      refine lm_G_sg 1 (pc' := 39) (L' := [some (.ref 64), some (.int ((nI (47 + j)) + 1))]) (S' := []) (σ' := lm_T (lm_wr M1 87 j (M 87 (47 + j))) v G) rfl trivial ?_
      rw [nI_1]
      refine lm_G_sg 1 (pc' := 12) (L' := [some (.ref 64), some (.int (nI ((47 + j) + 1)))]) (S' := []) (σ' := lm_T (lm_wr M1 87 j (M 87 (47 + j))) v G) rfl trivial ?_
      exact ih _ (⟨fun i hi => if e : i = j then (by rw [e]; exact wr_same) else (by rw [wr_at e]; exact i1 i (by omega)), fun i hi => by rw [wr_at (by omega)]; exact i2 i (by omega), Fr_wr i3 rfl⟩)
    ·
      revert hI
      revert zz
      intro M1 hI
      replace hI : (∀ i, i < 1833 → M1 87 i = M 87 (47 + i)) ∧ (∀ i, 1833 ≤ i → M1 87 i = M 87 i) ∧ Fr (frO 87) M M1 := hI
      show lm_G X (d + 1) 205 106 0 0 12 [some (.ref 64), some (.int (nI (47 + 1833)))] [] (lm_T M1 v G) Q
      obtain ⟨i1, i2, i3⟩ := hI
      refine lm_G_sg 4 (pc' := 18) (L' := [some (.ref 64), some (.int (nI (47 + 1833)))]) (S' := [.int 1880, .int (nI (47 + 1833))]) (σ' := lm_T M1 v G) rfl trivial ?_
      refine lm_G_br (b := 1880 ≤ (nI (47 + 1833))) (t := 42) (S' := []) rfl (fun hc => ?_) (fun hc => absurd (nI_le (a := 1880) (by omega) (by omega)) hc)
      refine lm_G_sg 3 (pc' := 47) (L' := [some (.ref 64), some (.int (nI (47 + 1833)))]) (S' := [.int (M1 64 37), .ref 64]) (σ' := lm_T M1 v G) rfl trivial ?_
      rw [show M1 64 37 = nI (bkA B) from (congrFun (i3 64 rfl) 37).trans hm0.2.2.1]
      refine lm_G_sg 2 (pc' := 49) (L' := [some (.ref 64), some (.int (nI (47 + 1833)))]) (S' := [.int ((nI (bkA B)) - 1), .ref 64]) (σ' := lm_T M1 v G) rfl trivial ?_
      rw [show (nI (bkA B)) - 1 = nI 39 from by rw [hA2]; decide]
      refine lm_G_sg 1 (pc' := 52) (L' := [some (.ref 64), some (.int (nI (47 + 1833)))]) (S' := []) (σ' := lm_T (lm_wr M1 64 37 (nI 39)) v G) rfl ⟨trivial, trivial, trivial⟩ ?_
      have h9 : RM (lm_wr M1 64 37 (nI 39)) F s := RM_taken (RM_O hm0.1 i3 (by decide)) 37 (by decide) _
      have a9 : (lm_wr M1 64 37 (nI 39)) 64 37 = nI 39 := wr_same
      have f9 : ∀ k, k ≠ 37 → (lm_wr M1 64 37 (nI 39)) 64 k = M 64 k := fun k hk => by rw [wr_at hk, i3 64 rfl]
      have g9 : ∀ a, a ≠ 64 → a ≠ 87 → (lm_wr M1 64 37 (nI 39)) a = M a := fun a h1 h2 => by rw [wr_row h1]; exact i3 a (by unfold frO; rw [beq_eq_false_iff_ne]; exact h2)
      have e9 : ∀ i, i < 1833 → (lm_wr M1 64 37 (nI 39)) 87 i = M 87 (47 + i) := fun i hi => i1 i hi
      revert h9 a9 f9 g9 e9
      generalize lm_wr M1 64 37 (nI 39) = M9
      intro h9 a9 f9 g9 e9
      refine lm_G_sg 6 (pc' := 63) (L' := [some (.ref 64), some (.int (nI (47 + 1833)))]) (S' := [.int (M9 64 37), .int 47, .ref 87, .ref 64]) (σ' := lm_T M9 v G) rfl trivial ?_
      rw [show M9 64 37 = nI 39 from a9]
      refine lm_G_sg 1 (pc' := 64) (L' := [some (.ref 64), some (.int (nI (47 + 1833)))]) (S' := [.int (47 * (nI 39)), .ref 87, .ref 64]) (σ' := lm_T M9 v G) rfl trivial ?_
      refine lm_G_ca (j := 177) (as := [.ref 64, .ref 87, .int (47 * (nI 39))]) (rest := []) rfl (Or.inl rfl) (Nat.le_of_ble_eq_true rfl) (Nat.le_of_ble_eq_true rfl) (Nat.le_of_ble_eq_true rfl) (Nat.le_of_ble_eq_true rfl) rfl ?_
      refine m_pack87 (a := 47 * 39) hF h9 (by omega) (fun M2 v2 o2 f2 => ?_)
      show lm_G X (d + 1) 205 106 0 0 67 [some (.ref 64), some (.int (nI (47 + 1833)))] [] (lm_T M2 v G) Q
      refine lm_G_sg 3 (pc' := 72) (L' := [some (.ref 64), some (.int (nI (47 + 1833)))]) (S' := [.int (M2 64 37), .ref 64]) (σ' := lm_T M2 v G) rfl trivial ?_
      rw [show M2 64 37 = nI 39 from (congrFun (f2 64 rfl) 37).trans a9]
      refine lm_G_sg 3 (pc' := 77) (L' := [some (.ref 64), some (.int (nI (47 + 1833)))]) (S' := []) (σ' := lm_T (lm_wr M2 64 37 ((nI 39) + 1)) v G) rfl ⟨trivial, trivial, trivial⟩ ?_
      exact lm_G_re rfl trivial (Nat.zero_le _) (Nat.zero_le _) (hQ _ ⟨RM_taken (RM_O h9 f2 (by decide)) 37 (by decide) _, (wr_at (by decide)).trans ((congrFun (f2 64 rfl) 42).trans ((f9 42 (by decide)).trans hm0.2.1)), MB_kp40 hF hm0.2.2 hA2 wr_same ((wr_at (by decide)).trans ((congrFun (f2 64 rfl) 38).trans (f9 38 (by decide)))) v2 (fun i hi => (o2 i (Or.inl hi)).trans (e9 i hi)) ((f2 92 rfl).trans (g9 92 (by decide) (by decide))) ((f2 93 rfl).trans (g9 93 (by decide) (by decide))) ((f2 94 rfl).trans (g9 94 (by decide) (by decide))) ((f2 78 rfl).trans (g9 78 (by decide) (by decide)))⟩ ⟨Fr_wr (fun a ha => (f2 a (frHO ha rfl)).trans (g9 a (fun e => by rw [e] at ha; cases ha) (fun e => by rw [e] at ha; cases ha))) rfl, fun k _ _ a3 _ _ => by rw [wr_at a3, f2 64 rfl]; exact f9 k a3⟩ ((wr_at (by decide)).trans ((congrFun (f2 64 rfl) 4).trans (f9 4 (by decide)))))
    ·
      try dsimp only
      exact ⟨fun i hi => by omega, fun _ _ => rfl, Fr_rf _ _⟩
