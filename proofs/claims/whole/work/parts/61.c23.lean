/-! ===== contracts: undo, image, restore, see ===== -/
theorem unB_0 {B : Bk} (h : bkA B = 0) : unB B = B := by
  unfold unB
  rw [h]
  show (0, B.2) = B
  rw [← h]
def undS (B : Bk) (s : Sc) : Sc := if bkA B = 0 then s else bkS B (bkA B - 1)
def undV (B : Bk) : Int32 := if bkA B = 0 then -1 else nI (bkA B - 1)
theorem CB_cp {o1 o2 : Nat} {M M1 : Nat → Fn} {F : Fa} {B : Bk} (hF : okF F) (hA : bkA B ≤ 40) (hG : bkG B ≤ 8) (h : CB o2 M F B) (e2 : M1 o1 2 = M o2 2) (e4 : M1 o1 4 = M o2 4) (r2 : ∀ i, i < 1880 → M1 (o1 + 2) i = M (o2 + 2) i) (r3 : ∀ i, i < 24 → M1 (o1 + 3) i = M (o2 + 3) i) (r4 : ∀ i, i < 3 → M1 (o1 + 4) i = M (o2 + 4) i) : CB o1 M1 F B := by
  refine ⟨e2.trans h.1, e4.trans h.2.1, fun i hi => SavC_eq hF (h.2.2.1 i hi) (fun k a1 a2 => r2 k (by omega)), fun i hi => ?_, fun j hj => (r4 j hj).trans (h.2.2.2.2 j hj)⟩
  obtain ⟨a, b, c⟩ := h.2.2.2.1 i hi
  exact ⟨(r3 _ (by omega)).trans a, (r3 _ (by omega)).trans b, (r3 _ (by omega)).trans c⟩
def frK1 (a : Nat) : Bool := decide (a = 0 ∨ (57 ≤ a ∧ a ≤ 61))
theorem cp_i {f g : Nat → Int32} {n i : Nat} (h : i < n) : va_cpy f g 0 0 n i = f i := by
  rw [pk_cpy_in (by omega) (by omega)]
  congr 1
  omega
set_option maxRecDepth 10000 in
theorem c_copyBook57 {X : lm_X} {d v : Nat} {M : Nat → Nat → Int32} {G : Nat → Nat → Int64} {Q : lm_O → lm_S → Prop} {F : Fa} {B : Bk} (hF : okF F) (hA : bkA B ≤ 40) (hG : bkG B ≤ 8) (hb : CB 52 M F B) (hQ : ∀ M1, CB 57 M1 F B → Fr frK1 M M1 → Q (.inl none) (lm_T M1 v G)) : lm_Q X d 1 [.ref 57, .ref 52] (lm_T M v G) Q := by
  show lm_G X d 1 106 0 0 0 [some (.ref 57), some (.ref 52)] [] (lm_T M v G) Q
  refine lm_G_sg 38 (pc' := 70) (L' := [some (.ref 57), some (.ref 52)]) (S' := []) (σ' := lm_T (lm_wa (lm_wa (lm_wa (lm_wr (lm_wr M 57 2 (M 52 2)) 57 4 (M 52 4)) 59 (va_cpy (M 54) (M 59) 0 0 1880)) 60 (va_cpy (M 55) (M 60) 0 0 24)) 61 (va_cpy (M 56) (M 61) 0 0 3)) v G) rfl ⟨trivial, trivial, trivial, trivial, ⟨by decide, by decide, by decide, by decide, by decide⟩, (Nat.le_of_ble_eq_true rfl), ⟨by decide, by decide, by decide, by decide, by decide⟩, (Nat.le_of_ble_eq_true rfl), ⟨by decide, by decide, by decide, by decide, by decide⟩, (Nat.le_of_ble_eq_true rfl), trivial⟩ ?_
  exact lm_G_re rfl trivial (Nat.zero_le _) (Nat.zero_le _) (hQ _ (CB_cp hF hA hG hb rfl rfl (fun i hi => cp_i hi) (fun i hi => cp_i hi) (fun i hi => cp_i hi)) (Fr_wa (Fr_wa (Fr_wa (Fr_wr (Fr_wr (Fr_rf _ _) rfl) rfl) rfl) rfl) rfl))
set_option maxRecDepth 10000 in
theorem c_copyBook52 {X : lm_X} {d v : Nat} {M : Nat → Nat → Int32} {G : Nat → Nat → Int64} {Q : lm_O → lm_S → Prop} {F : Fa} {B : Bk} (hF : okF F) (hA : bkA B ≤ 40) (hG : bkG B ≤ 8) (hb : CB 57 M F B) (hQ : ∀ M1, CB 52 M1 F B → Fr frG2 M M1 → Q (.inl none) (lm_T M1 v G)) : lm_Q X d 1 [.ref 52, .ref 57] (lm_T M v G) Q := by
  show lm_G X d 1 106 0 0 0 [some (.ref 52), some (.ref 57)] [] (lm_T M v G) Q
  refine lm_G_sg 38 (pc' := 70) (L' := [some (.ref 52), some (.ref 57)]) (S' := []) (σ' := lm_T (lm_wa (lm_wa (lm_wa (lm_wr (lm_wr M 52 2 (M 57 2)) 52 4 (M 57 4)) 54 (va_cpy (M 59) (M 54) 0 0 1880)) 55 (va_cpy (M 60) (M 55) 0 0 24)) 56 (va_cpy (M 61) (M 56) 0 0 3)) v G) rfl ⟨trivial, trivial, trivial, trivial, ⟨by decide, by decide, by decide, by decide, by decide⟩, (Nat.le_of_ble_eq_true rfl), ⟨by decide, by decide, by decide, by decide, by decide⟩, (Nat.le_of_ble_eq_true rfl), ⟨by decide, by decide, by decide, by decide, by decide⟩, (Nat.le_of_ble_eq_true rfl), trivial⟩ ?_
  exact lm_G_re rfl trivial (Nat.zero_le _) (Nat.zero_le _) (hQ _ (CB_cp hF hA hG hb rfl rfl (fun i hi => cp_i hi) (fun i hi => cp_i hi) (fun i hi => cp_i hi)) (Fr_wa (Fr_wa (Fr_wa (Fr_wr (Fr_wr (Fr_rf _ _) rfl) rfl) rfl) rfl) rfl))
set_option maxRecDepth 10000 in
theorem c_takeBack {X : lm_X} {d v : Nat} {M : Nat → Nat → Int32} {G : Nat → Nat → Int64} {Q : lm_O → lm_S → Prop} {F : Fa} {s : Sc} {B : Bk} (hF : okF F) (hc0 : CS M F s B) (hA : bkA B ≤ 40) (hbr : ∀ i, i < bkA B → sBr (bkS B i) = sBr s) (hQ : ∀ M1, CS M1 F (undS B s) (unB B) → Fr frG M M1 → Q (.inl (some (.int (b2i (decide (bkA B ≠ 0)))))) (lm_T M1 v G)) : lm_Q X (d + 2) 5 [.ref 52, .ref 28] (lm_T M v G) Q := by
  have hn := hF.n
  have hm := hF.m
  show lm_G X (d + 2) 5 106 0 0 0 [some (.ref 52), some (.ref 28)] [] (lm_T M v G) Q
  refine lm_G_sg 2 (pc' := 4) (L' := [some (.ref 52), some (.ref 28)]) (S' := [.int (M 52 2)]) (σ' := lm_T M v G) rfl trivial ?_
  rw [show M 52 2 = nI (bkA B) from hc0.2.2.1]
  refine lm_G_br (b := ¬ (nI (bkA B)) = 0) (t := 9) (S' := []) rfl (fun h1 => ?_) (fun h1 => ?_)
  rotate_left
  ·
    have e0 : bkA B = 0 := (nI_eq (b := 0) (by omega) (by omega)).mp (Classical.not_not.mp h1)
    rw [show undS B s = s from if_pos e0, unB_0 e0, decide_eq_false (fun w => w e0)] at hQ
    refine lm_G_sg 1 (pc' := 8) (L' := [some (.ref 52), some (.ref 28)]) (S' := [.int 0]) (σ' := lm_T M v G) rfl trivial ?_
    exact lm_G_re rfl (by decide) (Nat.zero_le _) (Nat.zero_le _) (hQ _ hc0 (Fr_rf _ _))
  ·
    have e0 : ¬ bkA B = 0 := fun w => h1 (by rw [w]; rfl)
    rw [show undS B s = bkS B (bkA B - 1) from if_neg e0, decide_eq_true e0] at hQ
    refine lm_G_sg 3 (pc' := 14) (L' := [some (.ref 52), some (.ref 28)]) (S' := [.int (M 52 2), .ref 52]) (σ' := lm_T M v G) rfl trivial ?_
    rw [show M 52 2 = nI (bkA B) from hc0.2.2.1]
    refine lm_G_sg 2 (pc' := 16) (L' := [some (.ref 52), some (.ref 28)]) (S' := [.int ((nI (bkA B)) - 1), .ref 52]) (σ' := lm_T M v G) rfl trivial ?_
    rw [show (nI (bkA B)) - 1 = nI (bkA B - 1) from nI_sb1 (by omega)]
    refine lm_G_sg 1 (pc' := 19) (L' := [some (.ref 52), some (.ref 28)]) (S' := []) (σ' := lm_T (lm_wr M 52 2 (nI (bkA B - 1))) v G) rfl ⟨trivial, trivial, trivial⟩ ?_
    have k9 : KC (lm_wr M 52 2 (nI (bkA B - 1))) F := KC_of hc0.1.1 rfl rfl rfl rfl rfl rfl rfl
    have b9 : Ag (fN F) ((lm_wr M 52 2 (nI (bkA B - 1))) 29) (sBr s) := hc0.1.br
    have a9 : (lm_wr M 52 2 (nI (bkA B - 1))) 52 2 = nI (bkA B - 1) := rfl
    have e9 : CB 52 (lm_wr M 52 2 (nI (bkA B - 1))) F (unB B) := ⟨rfl, hc0.2.2.2.1, fun i hi => hc0.2.2.2.2.1 i (by replace hi : i < bkA B - 1 := hi; omega), hc0.2.2.2.2.2.1, hc0.2.2.2.2.2.2⟩
    have l9 : (lm_wr M 52 2 (nI (bkA B - 1))) 28 12 = -1 := hc0.2.1
    have f9 : Fr frG M (lm_wr M 52 2 (nI (bkA B - 1))) := Fr_wr (Fr_rf _ _) rfl
    have v9 : SavC ((lm_wr M 52 2 (nI (bkA B - 1))) 54) ((bkA B - 1) * 47) F (bkS B (bkA B - 1)) := by rw [Nat.mul_comm]; exact hc0.2.2.2.2.1 (bkA B - 1) (by omega)
    revert k9 b9 a9 e9 l9 f9 v9
    generalize lm_wr M 52 2 (nI (bkA B - 1)) = M9
    intro k9 b9 a9 e9 l9 f9 v9
    refine lm_G_sg 5 (pc' := 28) (L' := [some (.ref 52), some (.ref 28)]) (S' := [.int (M9 52 2), .ref 54, .ref 28]) (σ' := lm_T M9 v G) rfl trivial ?_
    rw [show M9 52 2 = nI (bkA B - 1) from a9]
    refine lm_G_sg 2 (pc' := 31) (L' := [some (.ref 52), some (.ref 28)]) (S' := [.int ((nI (bkA B - 1)) * 47), .ref 54, .ref 28]) (σ' := lm_T M9 v G) rfl trivial ?_
    rw [show (nI (bkA B - 1)) * 47 = nI ((bkA B - 1) * 47) from pk_mul (bkA B - 1) 47]
    refine lm_G_ca (j := 55) (as := [.ref 28, .ref 54, .int (nI ((bkA B - 1) * 47))]) (rest := []) rfl (Or.inl rfl) (Nat.le_of_ble_eq_true rfl) (Nat.le_of_ble_eq_true rfl) (Nat.le_of_ble_eq_true rfl) (Nat.le_of_ble_eq_true rfl) rfl ?_
    refine c_loadFrom54 (s := bkS B (bkA B - 1)) (a := (bkA B - 1) * 47) hF k9 (by rw [hbr _ (by omega)]; exact b9) v9 (by omega) (fun M1 h1c k1 => ?_)
    show lm_G X (d + 2) 5 106 0 0 34 [some (.ref 52), some (.ref 28)] [] (lm_T M1 v G) Q
    refine lm_G_sg 1 (pc' := 35) (L' := [some (.ref 52), some (.ref 28)]) (S' := [.int 1]) (σ' := lm_T M1 v G) rfl trivial ?_
    exact lm_G_re rfl (by decide) (Nat.zero_le _) (Nat.zero_le _) (hQ _ ⟨h1c, (k1.2 12 (by decide)).trans l9, CB_L e9 k1⟩ (Fr_tr f9 (FG_L k1)))
set_option maxRecDepth 10000 in
theorem c_undo {X : lm_X} {d v : Nat} {M : Nat → Nat → Int32} {G : Nat → Nat → Int64} {Q : lm_O → lm_S → Prop} {F : Fa} {s : Sc} {B : Bk} (hF : okF F) (hc0 : CS M F s B) (hA : bkA B ≤ 40) (hbr : ∀ i, i < bkA B → sBr (bkS B i) = sBr s) (hQ : ∀ M1, CS M1 F (undS B s) (unB B) → Fr frG M M1 → Q (.inl (some (.int (undV B)))) (lm_T M1 v G)) : lm_Q X (d + 3) 97 [.ref 0] (lm_T M v G) Q := by
  have hn := hF.n
  have hm := hF.m
  show lm_G X (d + 3) 97 106 0 0 0 [some (.ref 0)] [] (lm_T M v G) Q
  refine lm_G_sg 4 (pc' := 8) (L' := [some (.ref 0)]) (S' := [.ref 28, .ref 52]) (σ' := lm_T M v G) rfl trivial ?_
  refine lm_G_ca (j := 5) (as := [.ref 52, .ref 28]) (rest := []) rfl (Or.inl rfl) (Nat.le_of_ble_eq_true rfl) (Nat.le_of_ble_eq_true rfl) (Nat.le_of_ble_eq_true rfl) (Nat.le_of_ble_eq_true rfl) rfl ?_
  refine c_takeBack hF hc0 hA hbr (fun M1 c1 f1 => ?_)
  show lm_G X (d + 3) 97 106 0 0 11 [some (.ref 0)] [.int (b2i (decide (bkA B ≠ 0)))] (lm_T M1 v G) Q
  refine lm_G_br (b := (b2i (decide (bkA B ≠ 0))) = 0) (t := 24) (S' := []) rfl (fun h1 => ?_) (fun h1 => ?_)
  ·
    have e0 := of_decide_eq_false (b2i_0 h1)
    rw [show undV B = -1 from if_pos (Classical.not_not.mp e0)] at hQ
    refine lm_G_sg 1 (pc' := 25) (L' := [some (.ref 0)]) (S' := [.int (-1)]) (σ' := lm_T M1 v G) rfl trivial ?_
    exact lm_G_re rfl trivial (Nat.zero_le _) (Nat.zero_le _) (hQ _ c1 f1)
  ·
    have e0 := of_decide_eq_true (b2i_1 h1)
    rw [show undV B = nI (bkA B - 1) from if_neg e0] at hQ
    refine lm_G_sg 3 (pc' := 21) (L' := [some (.ref 0)]) (S' := [.int (M1 52 2)]) (σ' := lm_T M1 v G) rfl trivial ?_
    rw [show M1 52 2 = nI (bkA B - 1) from c1.2.2.1]
    refine lm_G_sg 1 (pc' := 25) (L' := [some (.ref 0)]) (S' := [.int (nI (bkA B - 1))]) (σ' := lm_T M1 v G) rfl trivial ?_
    exact lm_G_re rfl trivial (Nat.zero_le _) (Nat.zero_le _) (hQ _ c1 f1)
set_option maxRecDepth 10000 in
theorem m_undo {X : lm_X} {d v : Nat} {M : Nat → Nat → Int32} {G : Nat → Nat → Int64} {Q : lm_O → lm_S → Prop} {F : Fa} {s : Sc} {B : Bk} (hF : okF F) (hm0 : MS M F s B) (hA : bkA B ≤ 40) (hbr : ∀ i, i < bkA B → sBr (bkS B i) = sBr s) (hQ : ∀ M1, MS M1 F (undS B s) (unB B) → FrH M M1 → M1 64 4 = 0 → Q (.inl (some (.int (undV B)))) (lm_T M1 v G)) : lm_Q X (d + 1) 211 [.ref 64] (lm_T M v G) Q := by
  have hn := hF.n
  have hm := hF.m
  show lm_G X (d + 1) 211 106 0 0 0 [some (.ref 64)] [] (lm_T M v G) Q
  refine lm_G_sg 3 (pc' := 5) (L' := [some (.ref 64)]) (S' := []) (σ' := lm_T (lm_wr M 64 4 0) v G) rfl ⟨trivial, trivial, trivial⟩ ?_
  have m0 : MS (lm_wr M 64 4 0) F s B := MS_4 hm0 0
  have f0 : FrH M (lm_wr M 64 4 0) := FrH_w64 (FrH_rf _) (Or.inl rfl)
  have c0 : (lm_wr M 64 4 0) 64 4 = 0 := wr_same
  revert m0 f0 c0
  generalize lm_wr M 64 4 0 = M0
  intro m0 f0 c0
  have h0 := m0.1
  refine lm_G_sg 2 (pc' := 9) (L' := [some (.ref 64)]) (S' := [.int (M0 64 37)]) (σ' := lm_T M0 v G) rfl trivial ?_
  rw [show M0 64 37 = nI (bkA B) from m0.2.2.1]
  refine lm_G_br (b := ¬ (nI (bkA B)) = 0) (t := 14) (S' := []) rfl (fun h1 => ?_) (fun h1 => ?_)
  rotate_left
  ·
    have e0 : bkA B = 0 := (nI_eq (b := 0) (by omega) (by omega)).mp (Classical.not_not.mp h1)
    rw [show undS B s = s from if_pos e0, unB_0 e0, show undV B = -1 from if_pos e0] at hQ
    refine lm_G_sg 1 (pc' := 13) (L' := [some (.ref 64)]) (S' := [.int (-1)]) (σ' := lm_T M0 v G) rfl trivial ?_
    exact lm_G_re rfl trivial (Nat.zero_le _) (Nat.zero_le _) (hQ _ m0 f0 c0)
  ·
    have e0 : ¬ bkA B = 0 := fun w => h1 (by rw [w]; rfl)
    rw [show undS B s = bkS B (bkA B - 1) from if_neg e0, show undV B = nI (bkA B - 1) from if_neg e0] at hQ
    refine lm_G_sg 3 (pc' := 19) (L' := [some (.ref 64)]) (S' := [.int (M0 64 37), .ref 64]) (σ' := lm_T M0 v G) rfl trivial ?_
    rw [show M0 64 37 = nI (bkA B) from m0.2.2.1]
    refine lm_G_sg 2 (pc' := 21) (L' := [some (.ref 64)]) (S' := [.int ((nI (bkA B)) - 1), .ref 64]) (σ' := lm_T M0 v G) rfl trivial ?_
    rw [show (nI (bkA B)) - 1 = nI (bkA B - 1) from nI_sb1 (by omega)]
    refine lm_G_sg 1 (pc' := 24) (L' := [some (.ref 64)]) (S' := []) (σ' := lm_T (lm_wr M0 64 37 (nI (bkA B - 1))) v G) rfl ⟨trivial, trivial, trivial⟩ ?_
    have k9 : KM (lm_wr M0 64 37 (nI (bkA B - 1))) F := m0.1.1
    have b9 : Ag (fN F) ((lm_wr M0 64 37 (nI (bkA B - 1))) 79) (sBr s) := m0.1.br
    have a9 : (lm_wr M0 64 37 (nI (bkA B - 1))) 64 37 = nI (bkA B - 1) := wr_same
    have e9 : MB1 (lm_wr M0 64 37 (nI (bkA B - 1))) F (unB B) := ⟨wr_same, m0.2.2.2.1, fun i hi => m0.2.2.2.2.1 i (by replace hi : i < bkA B - 1 := hi; omega), m0.2.2.2.2.2.1, m0.2.2.2.2.2.2⟩
    have l9 : (lm_wr M0 64 37 (nI (bkA B - 1))) 64 42 = 0 := m0.2.1
    have f9 : FrH M (lm_wr M0 64 37 (nI (bkA B - 1))) := FrH_w64 f0 (by decide)
    have c9 : (lm_wr M0 64 37 (nI (bkA B - 1))) 64 4 = 0 := c0
    have v9 : SavM ((lm_wr M0 64 37 (nI (bkA B - 1))) 87) (47 * (bkA B - 1)) F (bkS B (bkA B - 1)) := m0.2.2.2.2.1 (bkA B - 1) (by omega)
    revert k9 b9 a9 e9 l9 f9 c9 v9
    generalize lm_wr M0 64 37 (nI (bkA B - 1)) = M9
    intro k9 b9 a9 e9 l9 f9 c9 v9
    refine lm_G_sg 6 (pc' := 35) (L' := [some (.ref 64)]) (S' := [.int (M9 64 37), .int 47, .ref 87, .ref 64]) (σ' := lm_T M9 v G) rfl trivial ?_
    rw [show M9 64 37 = nI (bkA B - 1) from a9]
    refine lm_G_sg 1 (pc' := 36) (L' := [some (.ref 64)]) (S' := [.int (47 * (nI (bkA B - 1))), .ref 87, .ref 64]) (σ' := lm_T M9 v G) rfl trivial ?_
    rw [show 47 * (nI (bkA B - 1)) = nI (47 * (bkA B - 1)) from pk_mul 47 (bkA B - 1)]
    refine lm_G_ca (j := 178) (as := [.ref 64, .ref 87, .int (nI (47 * (bkA B - 1)))]) (rest := []) rfl (Or.inl rfl) (Nat.le_of_ble_eq_true rfl) (Nat.le_of_ble_eq_true rfl) (Nat.le_of_ble_eq_true rfl) (Nat.le_of_ble_eq_true rfl) rfl ?_
    refine m_unpack87 (s := bkS B (bkA B - 1)) (a := 47 * (bkA B - 1)) hF k9 (by rw [hbr _ (by omega)]; exact b9) v9 (by omega) (fun M1 h1c k1 => ?_)
    show lm_G X (d + 1) 211 106 0 0 39 [some (.ref 64)] [] (lm_T M1 v G) Q
    refine lm_G_sg 2 (pc' := 43) (L' := [some (.ref 64)]) (S' := [.int (M1 64 37)]) (σ' := lm_T M1 v G) rfl trivial ?_
    rw [show M1 64 37 = nI (bkA B - 1) from (k1.2 37 (by decide)).trans a9]
    exact lm_G_re rfl trivial (Nat.zero_le _) (Nat.zero_le _) (hQ _ ⟨h1c, (k1.2 42 (by decide)).trans l9, MB_U e9 k1⟩ (FrH_tr f9 (FrH_U k1)) ((k1.2 4 (by decide)).trans c9))
theorem frK1O {a r : Nat} (ha : frK1 a = false) (hr : frK1 r = true) : frO r a = false := by
  unfold frO
  rw [beq_eq_false_iff_ne]
  intro e
  rw [e, hr] at ha
  cases ha
set_option maxRecDepth 10000 in
theorem c_image {X : lm_X} {d v : Nat} {M : Nat → Nat → Int32} {G : Nat → Nat → Int64} {Q : lm_O → lm_S → Prop} {F : Fa} {s : Sc} {B : Bk} (hF : okF F) (hA : bkA B ≤ 40) (hG : bkG B ≤ 8) (hc0 : CS M F s B) (hQ : ∀ M1, M1 0 8 = 1 → CB 57 M1 F B → SavC (M1 58) 0 F s → Fr frK1 M M1 → Q (.inl none) (lm_T M1 v G)) : lm_Q X (d + 1) 130 [.ref 0] (lm_T M v G) Q := by
  have hn := hF.n
  have hm := hF.m
  show lm_G X (d + 1) 130 106 0 0 0 [some (.ref 0)] [] (lm_T M v G) Q
  refine lm_G_sg 4 (pc' := 8) (L' := [some (.ref 0)]) (S' := [.ref 52, .ref 57]) (σ' := lm_T M v G) rfl trivial ?_
  refine lm_G_ca (j := 1) (as := [.ref 57, .ref 52]) (rest := []) rfl (Or.inl rfl) (Nat.le_of_ble_eq_true rfl) (Nat.le_of_ble_eq_true rfl) (Nat.le_of_ble_eq_true rfl) (Nat.le_of_ble_eq_true rfl) rfl ?_
  refine c_copyBook57 hF hA hG hc0.2.2 (fun M1 b1 f1 => ?_)
  show lm_G X (d + 1) 130 106 0 0 11 [some (.ref 0)] [] (lm_T M1 v G) Q
  have h1 : RC 28 M1 F s := RC_fr hc0.1 f1 (by decide) (by decide)
  refine lm_G_sg 6 (pc' := 23) (L' := [some (.ref 0)]) (S' := [.int 0, .ref 58, .ref 28]) (σ' := lm_T M1 v G) rfl trivial ?_
  refine lm_G_ca (j := 54) (as := [.ref 28, .ref 58, .int 0]) (rest := []) rfl (Or.inl rfl) (Nat.le_of_ble_eq_true rfl) (Nat.le_of_ble_eq_true rfl) (Nat.le_of_ble_eq_true rfl) (Nat.le_of_ble_eq_true rfl) rfl ?_
  refine c_saveTo58 (a := 0) hF h1 (by omega) (fun M2 v2 o2 f2 => ?_)
  show lm_G X (d + 1) 130 106 0 0 26 [some (.ref 0)] [] (lm_T M2 v G) Q
  refine lm_G_sg 3 (pc' := 31) (L' := [some (.ref 0)]) (S' := []) (σ' := lm_T (lm_wr M2 0 8 1) v G) rfl ⟨(by decide), trivial, trivial⟩ ?_
  exact lm_G_re rfl trivial (Nat.zero_le _) (Nat.zero_le _) (hQ _ rfl (CB_fr b1 (f2 57 rfl) (f2 59 rfl) (f2 60 rfl) (f2 61 rfl)) v2 (Fr_wr (Fr_tr f1 (Fr_mn f2 (fun a ha => frK1O ha rfl))) rfl))
set_option maxRecDepth 10000 in
theorem c_restore {X : lm_X} {d v : Nat} {M : Nat → Nat → Int32} {G : Nat → Nat → Int64} {Q : lm_O → lm_S → Prop} {F : Fa} {s s2 : Sc} {B B2 : Bk} {K : Bool} (hF : okF F) (hA : bkA B2 ≤ 40) (hG : bkG B2 ≤ 8) (hc0 : CS M F s B) (hk : M 0 8 = b2i K) (hb2 : sBr s2 = sBr s) (hk2 : K = true → CB 57 M F B2 ∧ SavC (M 58) 0 F s2) (hQ : (K = false → Q (.inl (some (.int 0))) (lm_T M v G)) ∧ (K = true → ∀ M1, CS M1 F s2 B2 → Fr frG M M1 → Q (.inl (some (.int 1))) (lm_T M1 v G))) : lm_Q X (d + 2) 131 [.ref 0] (lm_T M v G) Q := by
  have hn := hF.n
  have hm := hF.m
  show lm_G X (d + 2) 131 106 0 0 0 [some (.ref 0)] [] (lm_T M v G) Q
  refine lm_G_sg 2 (pc' := 4) (L' := [some (.ref 0)]) (S' := [.int (M 0 8)]) (σ' := lm_T M v G) rfl trivial ?_
  rw [show M 0 8 = b2i K from hk]
  refine lm_G_br (b := ¬ (b2i K) = 0) (t := 9) (S' := []) rfl (fun h1 => ?_) (fun h1 => ?_)
  rotate_left
  ·
    have e0 := b2i_0 (Classical.not_not.mp h1)
    rw [e0] at hQ
    refine lm_G_sg 1 (pc' := 8) (L' := [some (.ref 0)]) (S' := [.int 0]) (σ' := lm_T M v G) rfl trivial ?_
    exact lm_G_re rfl (by decide) (Nat.zero_le _) (Nat.zero_le _) (hQ.1 rfl)
  ·
    have e0 := b2i_1 h1
    rw [e0] at hQ
    obtain ⟨b2, v2⟩ := hk2 e0
    refine lm_G_sg 4 (pc' := 17) (L' := [some (.ref 0)]) (S' := [.ref 57, .ref 52]) (σ' := lm_T M v G) rfl trivial ?_
    refine lm_G_ca (j := 1) (as := [.ref 52, .ref 57]) (rest := []) rfl (Or.inl rfl) (Nat.le_of_ble_eq_true rfl) (Nat.le_of_ble_eq_true rfl) (Nat.le_of_ble_eq_true rfl) (Nat.le_of_ble_eq_true rfl) rfl ?_
    refine c_copyBook52 (B := B2) hF hA hG b2 (fun M1 b1 f1 => ?_)
    show lm_G X (d + 2) 131 106 0 0 20 [some (.ref 0)] [] (lm_T M1 v G) Q
    refine lm_G_sg 6 (pc' := 32) (L' := [some (.ref 0)]) (S' := [.int 0, .ref 58, .ref 28]) (σ' := lm_T M1 v G) rfl trivial ?_
    refine lm_G_ca (j := 55) (as := [.ref 28, .ref 58, .int 0]) (rest := []) rfl (Or.inl rfl) (Nat.le_of_ble_eq_true rfl) (Nat.le_of_ble_eq_true rfl) (Nat.le_of_ble_eq_true rfl) (Nat.le_of_ble_eq_true rfl) rfl ?_
    refine c_loadFrom58 (s := s2) (a := 0) hF (KC_fr hc0.1.1 f1 (by decide)) (by rw [f1 29 rfl, hb2]; exact hc0.1.br) (by rw [f1 58 rfl]; exact v2) (by omega) (fun M2 h2c k2 => ?_)
    show lm_G X (d + 2) 131 106 0 0 35 [some (.ref 0)] [] (lm_T M2 v G) Q
    refine lm_G_sg 1 (pc' := 36) (L' := [some (.ref 0)]) (S' := [.int 1]) (σ' := lm_T M2 v G) rfl trivial ?_
    exact lm_G_re rfl (by decide) (Nat.zero_le _) (Nat.zero_le _) (hQ.2 rfl _ ⟨h2c, (k2.2 12 (by decide)).trans ((congrFun (f1 28 rfl) 12).trans hc0.2.1), CB_L b1 k2⟩ (Fr_tr (Fr_mn f1 (fun _ => frGG)) (FG_L k2)))
def frI (a : Nat) : Bool := decide (a = 64 ∨ (99 ≤ a ∧ a ≤ 104))
def FrI (M M1 : Nat → Fn) : Prop := Fr frI M M1 ∧ ∀ k, k ≠ 4 → k ≠ 54 → k ≠ 55 → k ≠ 56 → M1 64 k = M 64 k
theorem frIO {a r : Nat} (ha : frI a = false) (hr : frI r = true) : frO r a = false := by
  unfold frO
  rw [beq_eq_false_iff_ne]
  intro e
  rw [e, hr] at ha
  cases ha
set_option maxRecDepth 10000 in
theorem m_image {X : lm_X} {d v : Nat} {M : Nat → Nat → Int32} {G : Nat → Nat → Int64} {Q : lm_O → lm_S → Prop} {F : Fa} {s : Sc} {B : Bk} (hF : okF F) (hA : bkA B ≤ 40) (hG : bkG B ≤ 8) (hm0 : MS M F s B) (hQ : ∀ M1, M1 64 54 = 1 → MB2 M1 F B → SavM (M1 99) 0 F s → FrI M M1 → M1 64 4 = 0 → Q (.inl none) (lm_T M1 v G)) : lm_Q X (d + 1) 242 [.ref 64] (lm_T M v G) Q := by
  have hn := hF.n
  have hm := hF.m
  show lm_G X (d + 1) 242 106 0 0 0 [some (.ref 64)] [] (lm_T M v G) Q
  refine lm_G_sg 14 (pc' := 26) (L' := [some (.ref 64)]) (S' := []) (σ' := lm_T (lm_wr (lm_wr (lm_wr (lm_wr M 64 4 0) 64 54 1) 64 55 (M 64 37)) 64 56 (M 64 38)) v G) rfl ⟨trivial, trivial, (by decide), trivial, trivial, trivial, trivial, trivial, trivial⟩ ?_
  have h0 : RM (lm_wr (lm_wr (lm_wr (lm_wr M 64 4 0) 64 54 1) 64 55 (M 64 37)) 64 56 (M 64 38)) F s := RM_taken (RM_taken (RM_taken (RM_taken hm0.1 4 (by decide) _) 54 (by decide) _) 55 (by decide) _) 56 (by decide) _
  have g0 : ∀ a, a ≠ 64 → (lm_wr (lm_wr (lm_wr (lm_wr M 64 4 0) 64 54 1) 64 55 (M 64 37)) 64 56 (M 64 38)) a = M a := fun a ha => by rw [wr_row ha, wr_row ha, wr_row ha, wr_row ha]
  have c0 : (lm_wr (lm_wr (lm_wr (lm_wr M 64 4 0) 64 54 1) 64 55 (M 64 37)) 64 56 (M 64 38)) 64 4 = 0 := rfl
  have i0 : (lm_wr (lm_wr (lm_wr (lm_wr M 64 4 0) 64 54 1) 64 55 (M 64 37)) 64 56 (M 64 38)) 64 54 = 1 := rfl
  have a0 : (lm_wr (lm_wr (lm_wr (lm_wr M 64 4 0) 64 54 1) 64 55 (M 64 37)) 64 56 (M 64 38)) 64 55 = M 64 37 := rfl
  have b0 : (lm_wr (lm_wr (lm_wr (lm_wr M 64 4 0) 64 54 1) 64 55 (M 64 37)) 64 56 (M 64 38)) 64 56 = M 64 38 := rfl
  have k0 : ∀ k, k ≠ 4 → k ≠ 54 → k ≠ 55 → k ≠ 56 → (lm_wr (lm_wr (lm_wr (lm_wr M 64 4 0) 64 54 1) 64 55 (M 64 37)) 64 56 (M 64 38)) 64 k = M 64 k := fun k h1 h2 h3 h4 => by rw [wr_at h4, wr_at h3, wr_at h2, wr_at h1]
  revert h0 g0 c0 i0 a0 b0 k0
  generalize lm_wr (lm_wr (lm_wr (lm_wr M 64 4 0) 64 54 1) 64 55 (M 64 37)) 64 56 (M 64 38) = M0
  intro h0 g0 c0 i0 a0 b0 k0
  refine lm_G_sg 4 (pc' := 32) (L' := [some (.ref 64)]) (S' := [.int 0, .ref 99, .ref 64]) (σ' := lm_T M0 v G) rfl trivial ?_
  refine lm_G_ca (j := 177) (as := [.ref 64, .ref 99, .int 0]) (rest := []) rfl (Or.inl rfl) (Nat.le_of_ble_eq_true rfl) (Nat.le_of_ble_eq_true rfl) (Nat.le_of_ble_eq_true rfl) (Nat.le_of_ble_eq_true rfl) rfl ?_
  refine m_pack99 (a := 0) hF h0 (by omega) (fun M1 v1 o1 f1 => ?_)
  show lm_G X (d + 1) 242 106 0 0 35 [some (.ref 64)] [] (lm_T M1 v G) Q
  refine lm_G_sg 4 (pc' := 43) (L' := [some (.ref 64)]) (S' := [.ref 87, .ref 100]) (σ' := lm_T M1 v G) rfl trivial ?_
  refine lm_G_ca (j := 241) (as := [.ref 100, .ref 87]) (rest := []) rfl (Or.inl rfl) (Nat.le_of_ble_eq_true rfl) (Nat.le_of_ble_eq_true rfl) (Nat.le_of_ble_eq_true rfl) (Nat.le_of_ble_eq_true rfl) rfl ?_
  refine m_copyTo100 (fun M2 r100 g100 => ?_)
  show lm_G X (d + 1) 242 106 0 0 46 [some (.ref 64)] [] (lm_T M2 v G) Q
  refine lm_G_sg 4 (pc' := 54) (L' := [some (.ref 64)]) (S' := [.ref 92, .ref 101]) (σ' := lm_T M2 v G) rfl trivial ?_
  refine lm_G_ca (j := 241) (as := [.ref 101, .ref 92]) (rest := []) rfl (Or.inl rfl) (Nat.le_of_ble_eq_true rfl) (Nat.le_of_ble_eq_true rfl) (Nat.le_of_ble_eq_true rfl) (Nat.le_of_ble_eq_true rfl) rfl ?_
  refine m_copyTo101 (fun M3 r101 g101 => ?_)
  show lm_G X (d + 1) 242 106 0 0 57 [some (.ref 64)] [] (lm_T M3 v G) Q
  refine lm_G_sg 4 (pc' := 65) (L' := [some (.ref 64)]) (S' := [.ref 93, .ref 102]) (σ' := lm_T M3 v G) rfl trivial ?_
  refine lm_G_ca (j := 241) (as := [.ref 102, .ref 93]) (rest := []) rfl (Or.inl rfl) (Nat.le_of_ble_eq_true rfl) (Nat.le_of_ble_eq_true rfl) (Nat.le_of_ble_eq_true rfl) (Nat.le_of_ble_eq_true rfl) rfl ?_
  refine m_copyTo102 (fun M4 r102 g102 => ?_)
  show lm_G X (d + 1) 242 106 0 0 68 [some (.ref 64)] [] (lm_T M4 v G) Q
  refine lm_G_sg 4 (pc' := 76) (L' := [some (.ref 64)]) (S' := [.ref 94, .ref 103]) (σ' := lm_T M4 v G) rfl trivial ?_
  refine lm_G_ca (j := 241) (as := [.ref 103, .ref 94]) (rest := []) rfl (Or.inl rfl) (Nat.le_of_ble_eq_true rfl) (Nat.le_of_ble_eq_true rfl) (Nat.le_of_ble_eq_true rfl) (Nat.le_of_ble_eq_true rfl) rfl ?_
  refine m_copyTo103 (fun M5 r103 g103 => ?_)
  show lm_G X (d + 1) 242 106 0 0 79 [some (.ref 64)] [] (lm_T M5 v G) Q
  refine lm_G_sg 4 (pc' := 87) (L' := [some (.ref 64)]) (S' := [.ref 78, .ref 104]) (σ' := lm_T M5 v G) rfl trivial ?_
  refine lm_G_ca (j := 241) (as := [.ref 104, .ref 78]) (rest := []) rfl (Or.inl rfl) (Nat.le_of_ble_eq_true rfl) (Nat.le_of_ble_eq_true rfl) (Nat.le_of_ble_eq_true rfl) (Nat.le_of_ble_eq_true rfl) rfl ?_
  refine m_copyTo104 (fun M6 r104 g104 => ?_)
  show lm_G X (d + 1) 242 106 0 0 90 [some (.ref 64)] [] (lm_T M6 v G) Q
  have hb := hm0.2.2
  have eA : M6 64 55 = nI (bkA B) := by rw [g104 64 rfl, g103 64 rfl, g102 64 rfl, g101 64 rfl, g100 64 rfl, f1 64 rfl, a0]; exact hb.1
  have eG : M6 64 56 = nI (bkG B) := by rw [g104 64 rfl, g103 64 rfl, g102 64 rfl, g101 64 rfl, g100 64 rfl, f1 64 rfl, b0]; exact hb.2.1
  have q100 : ∀ i, i < 1880 → M6 100 i = M 87 i := fun i hi => by
    rw [g104 100 rfl, g103 100 rfl, g102 100 rfl, g101 100 rfl]
    rw [r100 i hi, f1 87 rfl, g0 87 (by decide)]
  have q101 : ∀ i, i < 8 → M6 101 i = M 92 i := fun i hi => by
    rw [g104 101 rfl, g103 101 rfl, g102 101 rfl]
    rw [r101 i hi, g100 92 rfl, f1 92 rfl, g0 92 (by decide)]
  have q102 : ∀ i, i < 8 → M6 102 i = M 93 i := fun i hi => by
    rw [g104 102 rfl, g103 102 rfl]
    rw [r102 i hi, g101 93 rfl, g100 93 rfl, f1 93 rfl, g0 93 (by decide)]
  have q103 : ∀ i, i < 8 → M6 103 i = M 94 i := fun i hi => by
    rw [g104 103 rfl]
    rw [r103 i hi, g102 94 rfl, g101 94 rfl, g100 94 rfl, f1 94 rfl, g0 94 (by decide)]
  have q104 : ∀ i, i < 3 → M6 104 i = M 78 i := fun i hi => by
    skip
    rw [r104 i hi, g103 78 rfl, g102 78 rfl, g101 78 rfl, g100 78 rfl, f1 78 rfl, g0 78 (by decide)]
  have eB : MB2 M6 F B := ⟨eA, eG, fun i hi => SavM_eq hF (hb.2.2.1 i hi) (fun k a1 a2 => q100 k (by omega)), fun i hi => ⟨(q101 i (by omega)).trans (hb.2.2.2.1 i hi).1, (q102 i (by omega)).trans (hb.2.2.2.1 i hi).2.1, (q103 i (by omega)).trans (hb.2.2.2.1 i hi).2.2⟩, fun j hj => (q104 j hj).trans (hb.2.2.2.2 j hj)⟩
  have eV : SavM (M6 99) 0 F s := by rw [g104 99 rfl, g103 99 rfl, g102 99 rfl, g101 99 rfl, g100 99 rfl]; exact v1
  have eF : FrI M M6 := ⟨fun a ha => by rw [g104 a (frIO ha rfl), g103 a (frIO ha rfl), g102 a (frIO ha rfl), g101 a (frIO ha rfl), g100 a (frIO ha rfl), f1 a (frIO ha rfl)]; exact g0 a (fun e => by rw [e] at ha; cases ha), fun k h1 h2 h3 h4 => by rw [g104 64 rfl, g103 64 rfl, g102 64 rfl, g101 64 rfl, g100 64 rfl, f1 64 rfl]; exact k0 k h1 h2 h3 h4⟩
  exact lm_G_re rfl trivial (Nat.zero_le _) (Nat.zero_le _) (hQ _ (by rw [g104 64 rfl, g103 64 rfl, g102 64 rfl, g101 64 rfl, g100 64 rfl, f1 64 rfl]; exact i0) eB eV eF (by rw [g104 64 rfl, g103 64 rfl, g102 64 rfl, g101 64 rfl, g100 64 rfl, f1 64 rfl]; exact c0))
set_option maxRecDepth 10000 in
theorem m_restore {X : lm_X} {d v : Nat} {M : Nat → Nat → Int32} {G : Nat → Nat → Int64} {Q : lm_O → lm_S → Prop} {F : Fa} {s s2 : Sc} {B B2 : Bk} {K : Bool} (hF : okF F) (hA : bkA B2 ≤ 40) (hG : bkG B2 ≤ 8) (hm0 : MS M F s B) (hk : M 64 54 = b2i K) (hb2 : sBr s2 = sBr s) (hk2 : K = true → MB2 M F B2 ∧ SavM (M 99) 0 F s2) (hQ : (K = false → ∀ M1, MS M1 F s B → FrH M M1 → M1 64 4 = 0 → Q (.inl (some (.int 0))) (lm_T M1 v G)) ∧ (K = true → ∀ M1, MS M1 F s2 B2 → FrH M M1 → M1 64 4 = 0 → Q (.inl (some (.int 1))) (lm_T M1 v G))) : lm_Q X (d + 1) 243 [.ref 64] (lm_T M v G) Q := by
  have hn := hF.n
  have hm := hF.m
  show lm_G X (d + 1) 243 106 0 0 0 [some (.ref 64)] [] (lm_T M v G) Q
  refine lm_G_sg 3 (pc' := 5) (L' := [some (.ref 64)]) (S' := []) (σ' := lm_T (lm_wr M 64 4 0) v G) rfl ⟨trivial, trivial, trivial⟩ ?_
  have m0 : MS (lm_wr M 64 4 0) F s B := MS_4 hm0 0
  have f0 : FrH M (lm_wr M 64 4 0) := FrH_w64 (FrH_rf _) (Or.inl rfl)
  have c0 : (lm_wr M 64 4 0) 64 4 = 0 := wr_same
  revert m0 f0 c0
  generalize lm_wr M 64 4 0 = M0
  intro m0 f0 c0
  have h0 := m0.1
  have k0 : M0 64 54 = b2i K := (f0.2 54 (by decide) (by decide) (by decide) (by decide) (by decide)).trans hk
  refine lm_G_sg 2 (pc' := 9) (L' := [some (.ref 64)]) (S' := [.int (M0 64 54)]) (σ' := lm_T M0 v G) rfl trivial ?_
  rw [show M0 64 54 = b2i K from k0]
  refine lm_G_br (b := ¬ (b2i K) = 0) (t := 14) (S' := []) rfl (fun h1 => ?_) (fun h1 => ?_)
  rotate_left
  ·
    have e0 := b2i_0 (Classical.not_not.mp h1)
    rw [e0] at hQ
    refine lm_G_sg 1 (pc' := 13) (L' := [some (.ref 64)]) (S' := [.int 0]) (σ' := lm_T M0 v G) rfl trivial ?_
    exact lm_G_re rfl (by decide) (Nat.zero_le _) (Nat.zero_le _) (hQ.1 rfl _ m0 f0 c0)
  ·
    have e0 := b2i_1 h1
    rw [e0] at hQ
    obtain ⟨b2, v2⟩ := hk2 e0
    refine lm_G_sg 8 (pc' := 30) (L' := [some (.ref 64)]) (S' := []) (σ' := lm_T (lm_wr (lm_wr M0 64 37 (M0 64 55)) 64 38 (M0 64 56)) v G) rfl ⟨trivial, trivial, trivial, trivial, trivial⟩ ?_
    have k9 : KM (lm_wr (lm_wr M0 64 37 (M0 64 55)) 64 38 (M0 64 56)) F := m0.1.1
    have b9 : Ag (fN F) ((lm_wr (lm_wr M0 64 37 (M0 64 55)) 64 38 (M0 64 56)) 79) (sBr s) := m0.1.br
    have a9 : (lm_wr (lm_wr M0 64 37 (M0 64 55)) 64 38 (M0 64 56)) 64 37 = M0 64 55 := rfl
    have e9 : (lm_wr (lm_wr M0 64 37 (M0 64 55)) 64 38 (M0 64 56)) 64 38 = M0 64 56 := rfl
    have l9 : (lm_wr (lm_wr M0 64 37 (M0 64 55)) 64 38 (M0 64 56)) 64 42 = 0 := m0.2.1
    have f9 : FrH M (lm_wr (lm_wr M0 64 37 (M0 64 55)) 64 38 (M0 64 56)) := FrH_w64 (FrH_w64 f0 (by decide)) (by decide)
    have c9 : (lm_wr (lm_wr M0 64 37 (M0 64 55)) 64 38 (M0 64 56)) 64 4 = 0 := c0
    have r9 : ∀ a, a ≠ 64 → (lm_wr (lm_wr M0 64 37 (M0 64 55)) 64 38 (M0 64 56)) a = M0 a := fun a ha => by rw [wr_row ha, wr_row ha]
    revert k9 b9 a9 e9 l9 f9 c9 r9
    generalize lm_wr (lm_wr M0 64 37 (M0 64 55)) 64 38 (M0 64 56) = M9
    intro k9 b9 a9 e9 l9 f9 c9 r9
    have z9 : ∀ a, frH a = false → M0 a = M a := fun a ha => f0.1 a ha
    refine lm_G_sg 4 (pc' := 36) (L' := [some (.ref 64)]) (S' := [.int 0, .ref 99, .ref 64]) (σ' := lm_T M9 v G) rfl trivial ?_
    refine lm_G_ca (j := 178) (as := [.ref 64, .ref 99, .int 0]) (rest := []) rfl (Or.inl rfl) (Nat.le_of_ble_eq_true rfl) (Nat.le_of_ble_eq_true rfl) (Nat.le_of_ble_eq_true rfl) (Nat.le_of_ble_eq_true rfl) rfl ?_
    refine m_unpack99 (s := s2) (a := 0) hF k9 (by rw [hb2]; exact b9) (by rw [r9 99 (by decide), z9 99 rfl]; exact v2) (by omega) (fun M1 h1c k1 => ?_)
    show lm_G X (d + 1) 243 106 0 0 39 [some (.ref 64)] [] (lm_T M1 v G) Q
    refine lm_G_sg 4 (pc' := 47) (L' := [some (.ref 64)]) (S' := [.ref 100, .ref 87]) (σ' := lm_T M1 v G) rfl trivial ?_
    refine lm_G_ca (j := 241) (as := [.ref 87, .ref 100]) (rest := []) rfl (Or.inl rfl) (Nat.le_of_ble_eq_true rfl) (Nat.le_of_ble_eq_true rfl) (Nat.le_of_ble_eq_true rfl) (Nat.le_of_ble_eq_true rfl) rfl ?_
    refine m_copyTo87 (fun M2 r87 g87 => ?_)
    show lm_G X (d + 1) 243 106 0 0 50 [some (.ref 64)] [] (lm_T M2 v G) Q
    refine lm_G_sg 4 (pc' := 58) (L' := [some (.ref 64)]) (S' := [.ref 101, .ref 92]) (σ' := lm_T M2 v G) rfl trivial ?_
    refine lm_G_ca (j := 241) (as := [.ref 92, .ref 101]) (rest := []) rfl (Or.inl rfl) (Nat.le_of_ble_eq_true rfl) (Nat.le_of_ble_eq_true rfl) (Nat.le_of_ble_eq_true rfl) (Nat.le_of_ble_eq_true rfl) rfl ?_
    refine m_copyTo92 (fun M3 r92 g92 => ?_)
    show lm_G X (d + 1) 243 106 0 0 61 [some (.ref 64)] [] (lm_T M3 v G) Q
    refine lm_G_sg 4 (pc' := 69) (L' := [some (.ref 64)]) (S' := [.ref 102, .ref 93]) (σ' := lm_T M3 v G) rfl trivial ?_
    refine lm_G_ca (j := 241) (as := [.ref 93, .ref 102]) (rest := []) rfl (Or.inl rfl) (Nat.le_of_ble_eq_true rfl) (Nat.le_of_ble_eq_true rfl) (Nat.le_of_ble_eq_true rfl) (Nat.le_of_ble_eq_true rfl) rfl ?_
    refine m_copyTo93 (fun M4 r93 g93 => ?_)
    show lm_G X (d + 1) 243 106 0 0 72 [some (.ref 64)] [] (lm_T M4 v G) Q
    refine lm_G_sg 4 (pc' := 80) (L' := [some (.ref 64)]) (S' := [.ref 103, .ref 94]) (σ' := lm_T M4 v G) rfl trivial ?_
    refine lm_G_ca (j := 241) (as := [.ref 94, .ref 103]) (rest := []) rfl (Or.inl rfl) (Nat.le_of_ble_eq_true rfl) (Nat.le_of_ble_eq_true rfl) (Nat.le_of_ble_eq_true rfl) (Nat.le_of_ble_eq_true rfl) rfl ?_
    refine m_copyTo94 (fun M5 r94 g94 => ?_)
    show lm_G X (d + 1) 243 106 0 0 83 [some (.ref 64)] [] (lm_T M5 v G) Q
    refine lm_G_sg 4 (pc' := 91) (L' := [some (.ref 64)]) (S' := [.ref 104, .ref 78]) (σ' := lm_T M5 v G) rfl trivial ?_
    refine lm_G_ca (j := 241) (as := [.ref 78, .ref 104]) (rest := []) rfl (Or.inl rfl) (Nat.le_of_ble_eq_true rfl) (Nat.le_of_ble_eq_true rfl) (Nat.le_of_ble_eq_true rfl) (Nat.le_of_ble_eq_true rfl) rfl ?_
    refine m_copyTo78 (fun M6 r78 g78 => ?_)
    show lm_G X (d + 1) 243 106 0 0 94 [some (.ref 64)] [] (lm_T M6 v G) Q
    refine lm_G_sg 1 (pc' := 95) (L' := [some (.ref 64)]) (S' := [.int 1]) (σ' := lm_T M6 v G) rfl trivial ?_
    have q87 : ∀ i, i < 1880 → M6 87 i = M 100 i := fun i hi => by
      rw [g78 87 rfl, g94 87 rfl, g93 87 rfl, g92 87 rfl]
      rw [r87 i hi, k1.1 100 rfl, r9 100 (by decide), z9 100 rfl]
    have q92 : ∀ i, i < 8 → M6 92 i = M 101 i := fun i hi => by
      rw [g78 92 rfl, g94 92 rfl, g93 92 rfl]
      rw [r92 i hi, g87 101 rfl, k1.1 101 rfl, r9 101 (by decide), z9 101 rfl]
    have q93 : ∀ i, i < 8 → M6 93 i = M 102 i := fun i hi => by
      rw [g78 93 rfl, g94 93 rfl]
      rw [r93 i hi, g92 102 rfl, g87 102 rfl, k1.1 102 rfl, r9 102 (by decide), z9 102 rfl]
    have q94 : ∀ i, i < 8 → M6 94 i = M 103 i := fun i hi => by
      rw [g78 94 rfl]
      rw [r94 i hi, g93 103 rfl, g92 103 rfl, g87 103 rfl, k1.1 103 rfl, r9 103 (by decide), z9 103 rfl]
    have q78 : ∀ i, i < 3 → M6 78 i = M 104 i := fun i hi => by
      skip
      rw [r78 i hi, g94 104 rfl, g93 104 rfl, g92 104 rfl, g87 104 rfl, k1.1 104 rfl, r9 104 (by decide), z9 104 rfl]
    have w0 : ∀ k, k = 55 ∨ k = 56 → M0 64 k = M 64 k := fun k hk => f0.2 k (by omega) (by omega) (by omega) (by omega) (by omega)
    have eB : MB1 M6 F B2 := ⟨by rw [g78 64 rfl, g94 64 rfl, g93 64 rfl, g92 64 rfl, g87 64 rfl, k1.2 37 (by decide), a9, w0 55 (Or.inl rfl)]; exact b2.1, by rw [g78 64 rfl, g94 64 rfl, g93 64 rfl, g92 64 rfl, g87 64 rfl, k1.2 38 (by decide), e9, w0 56 (Or.inr rfl)]; exact b2.2.1, fun i hi => SavM_eq hF (b2.2.2.1 i hi) (fun k a1 a2 => q87 k (by omega)), fun i hi => ⟨(q92 i (by omega)).trans (b2.2.2.2.1 i hi).1, (q93 i (by omega)).trans (b2.2.2.2.1 i hi).2.1, (q94 i (by omega)).trans (b2.2.2.2.1 i hi).2.2⟩, fun j hj => (q78 j hj).trans (b2.2.2.2.2 j hj)⟩
    have eR : RM M6 F s2 := (RM_O (RM_O (RM_O (RM_O (RM_O h1c g87 (by decide)) g92 (by decide)) g93 (by decide)) g94 (by decide)) g78 (by decide))
    have eF : FrH M M6 := ⟨fun a ha => by rw [g78 a (frHO ha rfl), g94 a (frHO ha rfl), g93 a (frHO ha rfl), g92 a (frHO ha rfl), g87 a (frHO ha rfl)]; exact (FrH_tr f9 (FrH_U k1)).1 a ha, fun k h1 h2 h3 h4 h5 => by rw [g78 64 rfl, g94 64 rfl, g93 64 rfl, g92 64 rfl, g87 64 rfl]; exact (FrH_tr f9 (FrH_U k1)).2 k h1 h2 h3 h4 h5⟩
    exact lm_G_re rfl (by decide) (Nat.zero_le _) (Nat.zero_le _) (hQ.2 rfl _ ⟨eR, by rw [g78 64 rfl, g94 64 rfl, g93 64 rfl, g92 64 rfl, g87 64 rfl, k1.2 42 (by decide)]; exact l9, eB⟩ eF (by rw [g78 64 rfl, g94 64 rfl, g93 64 rfl, g92 64 rfl, g87 64 rfl, k1.2 4 (by decide)]; exact c9))
