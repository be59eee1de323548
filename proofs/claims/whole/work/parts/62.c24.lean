/-! ===== contracts: what is ===== -/
theorem lm_G_tsd {X : lm_X} {d i z c k : Nat} {Q : lm_O → lm_S → Prop} {pc pc' x y w : Nat} {L : lm_L} {r : List Value} {σ : lm_S} {v : Int32} {df lo hi : Int} {offs : Array Int} (hr : lm_row i pc = some (pc, .tableswitch df lo hi offs, x, y, w)) (hv : v.toInt < lo ∨ hi < v.toInt) (hpc : ((pc : Int) + df).toNat = pc') (hk : lm_G X d i z c k pc' L r σ Q) : lm_G X d i z c k pc L (.int v :: r) σ Q := by
  refine lm_G_sg 1 (pc' := pc') (L' := L) (S' := r) (σ' := σ) (g := True) ?_ trivial hk
  simp only [lm_sg, hr, lm_st]
  rw [if_pos hv, hpc]
  rfl
theorem isP_no {n : Nat} {x : Int32} (h : isP n x = false) : x.toInt < 0 ∨ ((n : Int) - 1) < x.toInt := by
  have := of_decide_eq_false h
  omega
def vPer (F : Fa) (s : Sc) (p : Nat) (w : Int32) : Int32 := if w = 0 then sBr s p else if w = 1 then fRe F p else if w = 2 then sPl s p else if w = 3 then sCo s p else if w = 4 then sHu s p else if w = 5 then sHd s p else if w = 6 then ownS F (sOw s) (nI p) else if w = 7 then b2i (decide (fRe F p ≤ sId s p)) else if w = 8 then heardS F (sPl s) p else fWh F p
def aPer (F : Fa) (s : Sc) (x w : Int32) : An := if isP (fN F) x && isP 10 w then .inl (vPer F s x.toNatClampNeg w) else .inr false
def aTun (F : Fa) (s : Sc) (x w : Int32) : An := if isP (fM F) x && isP 3 w then .inl (if w = 0 then fAi F x.toNatClampNeg else if w = 1 then sOw s x.toNatClampNeg else humS F (sHu s) x) else .inr false
def vCnt (F : Fa) (s : Sc) (B : Bk) (L : Nat) (w : Int32) : Int32 := if w = 0 then nI (fN F) else if w = 1 then nI (fM F) else if w = 2 then sHr s else if w = 3 then fE F else if w = 4 then msk (fun p => decide (sHu s p ≠ -1)) (fN F) else if w = 5 then ownS F (sOw s) (-1) else if w = 6 then partS F (sPl s) else if w = 7 then nI (fewS F (sPl s) (2 ^ fN F)) else if w = 8 then sumS (sCo s) (fN F) else if w = 9 then nI (bkA B) else if w = 10 then nI (bkG B) else if w = 11 then nI L else if w = 12 then bkR B 0 else if w = 13 then bkR B 1 else bkR B 2
def aCnt (F : Fa) (s : Sc) (B : Bk) (L : Nat) (w : Int32) : An := if isP 15 w then .inl (vCnt F s B L w) else .inr false
theorem fWh01 {F : Fa} {p : Nat} (h : fWh F p = 0 ∨ fWh F p = 1) : fWh F p = b2i (decide (fWh F p ≠ 0)) := by
  rcases h with e | e <;> rw [e] <;> decide
set_option maxRecDepth 10000 in
theorem c_person {X : lm_X} {d v : Nat} {M : Nat → Nat → Int32} {G : Nat → Nat → Int64} {Q : lm_O → lm_S → Prop} {F : Fa} {s : Sc} {x w : Int32} (hF : okF F) (h : RC 28 M F s) (hs : okS F s) (hl : M 28 12 = -1) (h15 : Ag (fN F) (M 15) (sBr s)) (hQ : ∀ M1, Fr frQ M M1 → Q (cO (aPer F s x w)) (lm_T M1 v G)) : lm_Q X (d + 2) 90 [.ref 0, .int x, .int w] (lm_T M v G) Q := by
  have hn := hF.n
  have hm := hF.m
  show lm_G X (d + 2) 90 106 0 0 0 [some (.ref 0), some (.int x), some (.int w)] [] (lm_T M v G) Q
  refine lm_G_sg 2 (pc' := 2) (L' := [some (.ref 0), some (.int x), some (.int w)]) (S' := [.int x, .ref 0]) (σ' := lm_T M v G) rfl trivial ?_
  refine lm_G_ca (j := 133) (as := [.ref 0, .int x]) (rest := []) rfl (Or.inl rfl) (Nat.le_of_ble_eq_true rfl) (Nat.le_of_ble_eq_true rfl) (Nat.le_of_ble_eq_true rfl) (Nat.le_of_ble_eq_true rfl) rfl ?_
  refine c_isPerson hF h ?_
  show lm_G X (d + 2) 90 106 0 0 5 [some (.ref 0), some (.int x), some (.int w)] [.int (b2i (isP (fN F) x))] (lm_T M v G) Q
  refine lm_G_br (b := (b2i (isP (fN F) x)) = 0) (t := 21) (S' := []) rfl (fun hx => ?_) (fun hx => ?_)
  ·
    replace hx := b2i_0 hx
    refine lm_G_sg 1 (pc' := 22) (L' := [some (.ref 0), some (.int x), some (.int w)]) (S' := [.int 0]) (σ' := lm_T M v G) rfl trivial ?_
    rw [show aPer F s x w = .inr false from by simp +decide only [aPer, hx, if_true, if_false, Bool.and_true, Bool.true_and, Bool.and_self, Bool.false_and, Bool.and_false, Bool.false_eq_true]] at hQ
    refine lm_G_ca (j := 137) (as := [.int 0]) (rest := []) rfl (Or.inl rfl) (Nat.le_of_ble_eq_true rfl) (Nat.le_of_ble_eq_true rfl) (Nat.le_of_ble_eq_true rfl) (Nat.le_of_ble_eq_true rfl) rfl ?_
    exact c_mustExistF ⟨by decide, rfl, hQ M (Fr_rf _ _)⟩
  ·
    replace hx := b2i_1 hx
    refine lm_G_sg 2 (pc' := 11) (L' := [some (.ref 0), some (.int x), some (.int w)]) (S' := [.int 10, .int w]) (σ' := lm_T M v G) rfl trivial ?_
    refine lm_G_ca (j := 135) (as := [.int w, .int 10]) (rest := []) rfl (Or.inl rfl) (Nat.le_of_ble_eq_true rfl) (Nat.le_of_ble_eq_true rfl) (Nat.le_of_ble_eq_true rfl) (Nat.le_of_ble_eq_true rfl) rfl ?_
    refine c_isWhat (n := 10) (by omega) ?_
    show lm_G X (d + 2) 90 106 0 0 14 [some (.ref 0), some (.int x), some (.int w)] [.int (b2i (isP 10 w))] (lm_T M v G) Q
    refine lm_G_br (b := (b2i (isP 10 w)) = 0) (t := 21) (S' := []) rfl (fun hw => ?_) (fun hw => ?_)
    ·
      replace hw := b2i_0 hw
      refine lm_G_sg 1 (pc' := 22) (L' := [some (.ref 0), some (.int x), some (.int w)]) (S' := [.int 0]) (σ' := lm_T M v G) rfl trivial ?_
      rw [show aPer F s x w = .inr false from by simp +decide only [aPer, hw, hx, if_true, if_false, Bool.and_true, Bool.true_and, Bool.and_self, Bool.false_and, Bool.and_false, Bool.false_eq_true]] at hQ
      refine lm_G_ca (j := 137) (as := [.int 0]) (rest := []) rfl (Or.inl rfl) (Nat.le_of_ble_eq_true rfl) (Nat.le_of_ble_eq_true rfl) (Nat.le_of_ble_eq_true rfl) (Nat.le_of_ble_eq_true rfl) rfl ?_
      exact c_mustExistF ⟨by decide, rfl, hQ M (Fr_rf _ _)⟩
    ·
      replace hw := b2i_1 hw
      refine lm_G_sg 2 (pc' := 22) (L' := [some (.ref 0), some (.int x), some (.int w)]) (S' := [.int 1]) (σ' := lm_T M v G) rfl trivial ?_
      refine lm_G_ca (j := 137) (as := [.int 1]) (rest := []) rfl (Or.inl rfl) (Nat.le_of_ble_eq_true rfl) (Nat.le_of_ble_eq_true rfl) (Nat.le_of_ble_eq_true rfl) (Nat.le_of_ble_eq_true rfl) rfl ?_
      refine c_mustExistT ?_
      show lm_G X (d + 2) 90 106 1 6 25 [some (.ref 0), some (.int x), some (.int w)] [] (lm_T M v G) Q
      obtain ⟨p, hp, rfl⟩ := isP_nI hx (by omega)
      have cp : (nI p).toNatClampNeg = p := nI_clamp (by omega)
      refine lm_G_sg 1 (pc' := 26) (L' := [some (.ref 0), some (.int (nI p)), some (.int w)]) (S' := [.int w]) (σ' := lm_T M v G) rfl trivial ?_
      obtain ⟨kk, hkk, rfl⟩ := isP_nI hw (by omega)
      rcases (by omega : kk = 0 ∨ kk = 1 ∨ kk = 2 ∨ kk = 3 ∨ kk = 4 ∨ kk = 5 ∨ kk = 6 ∨ kk = 7 ∨ kk = 8 ∨ kk = 9) with rfl | rfl | rfl | rfl | rfl | rfl | rfl | rfl | rfl | rfl
      ·
        show lm_G X (d + 2) 90 106 1 6 26 [some (.ref 0), some (.int (nI p)), some (.int 0)] [.int 0] (lm_T M v G) Q
        refine lm_G_sg 6 (pc' := 85) (L' := [some (.ref 0), some (.int (nI p)), some (.int 0)]) (S' := [.int (M 15 (nI p).toNatClampNeg)]) (σ' := lm_T M v G) rfl ⟨(vp_in_nI (by omega) (by omega)), trivial, trivial⟩ ?_
        rw [show (nI p).toNatClampNeg = p from nI_clamp (by omega)]
        rw [show M 15 p = sBr s p from h15 p (by omega)]
        rw [show aPer F s (nI p) (nI 0) = .inl (sBr s p) from by simp +decide only [aPer, vPer, hx, hw, cp, if_true, if_false, Bool.and_true, Bool.true_and, Bool.and_self, Bool.false_and, Bool.and_false, Bool.false_eq_true]] at hQ
        exact lm_G_re rfl trivial (Nat.le_of_ble_eq_true rfl) (Nat.le_of_ble_eq_true rfl) (hQ _ (Fr_rf _ _))
      ·
        show lm_G X (d + 2) 90 106 1 6 26 [some (.ref 0), some (.int (nI p)), some (.int 1)] [.int 1] (lm_T M v G) Q
        refine lm_G_sg 6 (pc' := 95) (L' := [some (.ref 0), some (.int (nI p)), some (.int 1)]) (S' := [.int (M 16 (nI p).toNatClampNeg)]) (σ' := lm_T M v G) rfl ⟨(vp_in_nI (by omega) (by omega)), trivial, trivial⟩ ?_
        rw [show (nI p).toNatClampNeg = p from nI_clamp (by omega)]
        rw [show M 16 p = fRe F p from h.re p (by omega)]
        rw [show aPer F s (nI p) (nI 1) = .inl (fRe F p) from by simp +decide only [aPer, vPer, hx, hw, cp, if_true, if_false, Bool.and_true, Bool.true_and, Bool.and_self, Bool.false_and, Bool.and_false, Bool.false_eq_true]] at hQ
        exact lm_G_re rfl trivial (Nat.le_of_ble_eq_true rfl) (Nat.le_of_ble_eq_true rfl) (hQ _ (Fr_rf _ _))
      ·
        show lm_G X (d + 2) 90 106 1 6 26 [some (.ref 0), some (.int (nI p)), some (.int 2)] [.int 2] (lm_T M v G) Q
        refine lm_G_sg 6 (pc' := 105) (L' := [some (.ref 0), some (.int (nI p)), some (.int 2)]) (S' := [.int (M 30 (nI p).toNatClampNeg)]) (σ' := lm_T M v G) rfl ⟨(vp_in_nI (by omega) (by omega)), trivial, trivial⟩ ?_
        rw [show (nI p).toNatClampNeg = p from nI_clamp (by omega)]
        rw [show M 30 p = sPl s p from h.pl p (by omega)]
        rw [show aPer F s (nI p) (nI 2) = .inl (sPl s p) from by simp +decide only [aPer, vPer, hx, hw, cp, if_true, if_false, Bool.and_true, Bool.true_and, Bool.and_self, Bool.false_and, Bool.and_false, Bool.false_eq_true]] at hQ
        exact lm_G_re rfl trivial (Nat.le_of_ble_eq_true rfl) (Nat.le_of_ble_eq_true rfl) (hQ _ (Fr_rf _ _))
      ·
        show lm_G X (d + 2) 90 106 1 6 26 [some (.ref 0), some (.int (nI p)), some (.int 3)] [.int 3] (lm_T M v G) Q
        refine lm_G_sg 6 (pc' := 115) (L' := [some (.ref 0), some (.int (nI p)), some (.int 3)]) (S' := [.int (M 31 (nI p).toNatClampNeg)]) (σ' := lm_T M v G) rfl ⟨(vp_in_nI (by omega) (by omega)), trivial, trivial⟩ ?_
        rw [show (nI p).toNatClampNeg = p from nI_clamp (by omega)]
        rw [show M 31 p = sCo s p from h.co p (by omega)]
        rw [show aPer F s (nI p) (nI 3) = .inl (sCo s p) from by simp +decide only [aPer, vPer, hx, hw, cp, if_true, if_false, Bool.and_true, Bool.true_and, Bool.and_self, Bool.false_and, Bool.and_false, Bool.false_eq_true]] at hQ
        exact lm_G_re rfl trivial (Nat.le_of_ble_eq_true rfl) (Nat.le_of_ble_eq_true rfl) (hQ _ (Fr_rf _ _))
      ·
        show lm_G X (d + 2) 90 106 1 6 26 [some (.ref 0), some (.int (nI p)), some (.int 4)] [.int 4] (lm_T M v G) Q
        refine lm_G_sg 6 (pc' := 125) (L' := [some (.ref 0), some (.int (nI p)), some (.int 4)]) (S' := [.int (M 32 (nI p).toNatClampNeg)]) (σ' := lm_T M v G) rfl ⟨(vp_in_nI (by omega) (by omega)), trivial, trivial⟩ ?_
        rw [show (nI p).toNatClampNeg = p from nI_clamp (by omega)]
        rw [show M 32 p = sHu s p from h.hu p (by omega)]
        rw [show aPer F s (nI p) (nI 4) = .inl (sHu s p) from by simp +decide only [aPer, vPer, hx, hw, cp, if_true, if_false, Bool.and_true, Bool.true_and, Bool.and_self, Bool.false_and, Bool.and_false, Bool.false_eq_true]] at hQ
        exact lm_G_re rfl trivial (Nat.le_of_ble_eq_true rfl) (Nat.le_of_ble_eq_true rfl) (hQ _ (Fr_rf _ _))
      ·
        show lm_G X (d + 2) 90 106 1 6 26 [some (.ref 0), some (.int (nI p)), some (.int 5)] [.int 5] (lm_T M v G) Q
        refine lm_G_sg 6 (pc' := 135) (L' := [some (.ref 0), some (.int (nI p)), some (.int 5)]) (S' := [.int (M 33 (nI p).toNatClampNeg)]) (σ' := lm_T M v G) rfl ⟨(vp_in_nI (by omega) (by omega)), trivial, trivial⟩ ?_
        rw [show (nI p).toNatClampNeg = p from nI_clamp (by omega)]
        rw [show M 33 p = sHd s p from h.hd p (by omega)]
        rw [show aPer F s (nI p) (nI 5) = .inl (sHd s p) from by simp +decide only [aPer, vPer, hx, hw, cp, if_true, if_false, Bool.and_true, Bool.true_and, Bool.and_self, Bool.false_and, Bool.and_false, Bool.false_eq_true]] at hQ
        exact lm_G_re rfl trivial (Nat.le_of_ble_eq_true rfl) (Nat.le_of_ble_eq_true rfl) (hQ _ (Fr_rf _ _))
      ·
        show lm_G X (d + 2) 90 106 1 6 26 [some (.ref 0), some (.int (nI p)), some (.int 6)] [.int 6] (lm_T M v G) Q
        refine lm_G_sg 4 (pc' := 141) (L' := [some (.ref 0), some (.int (nI p)), some (.int 6)]) (S' := [.int (nI p), .ref 28]) (σ' := lm_T M v G) rfl trivial ?_
        refine lm_G_ca (j := 60) (as := [.ref 28, .int (nI p)]) (rest := []) rfl (Or.inl rfl) (Nat.le_of_ble_eq_true rfl) (Nat.le_of_ble_eq_true rfl) (Nat.le_of_ble_eq_true rfl) (Nat.le_of_ble_eq_true rfl) rfl ?_
        refine c_ownedBy28 hF h ?_
        show lm_G X (d + 2) 90 106 1 6 144 [some (.ref 0), some (.int (nI p)), some (.int 6)] [.int (ownS F (sOw s) (nI p))] (lm_T M v G) Q
        rw [show aPer F s (nI p) (nI 6) = .inl (ownS F (sOw s) (nI p)) from by simp +decide only [aPer, vPer, hx, hw, cp, if_true, if_false, Bool.and_true, Bool.true_and, Bool.and_self, Bool.false_and, Bool.and_false, Bool.false_eq_true]] at hQ
        exact lm_G_re rfl trivial (Nat.le_of_ble_eq_true rfl) (Nat.le_of_ble_eq_true rfl) (hQ _ (Fr_rf _ _))
      ·
        show lm_G X (d + 2) 90 106 1 6 26 [some (.ref 0), some (.int (nI p)), some (.int 7)] [.int 7] (lm_T M v G) Q
        refine lm_G_sg 4 (pc' := 150) (L' := [some (.ref 0), some (.int (nI p)), some (.int 7)]) (S' := [.int (nI p), .ref 28]) (σ' := lm_T M v G) rfl trivial ?_
        rw [show aPer F s (nI p) (nI 7) = .inl (b2i (decide (fRe F p ≤ sId s p))) from by simp +decide only [aPer, vPer, hx, hw, cp, if_true, if_false, Bool.and_true, Bool.true_and, Bool.and_self, Bool.false_and, Bool.and_false, Bool.false_eq_true]] at hQ
        refine lm_G_ca (j := 58) (as := [.ref 28, .int (nI p)]) (rest := []) rfl (Or.inl rfl) (Nat.le_of_ble_eq_true rfl) (Nat.le_of_ble_eq_true rfl) (Nat.le_of_ble_eq_true rfl) (Nat.le_of_ble_eq_true rfl) rfl ?_
        refine c_isRested28 hF h hp ?_
        show lm_G X (d + 2) 90 106 1 6 153 [some (.ref 0), some (.int (nI p)), some (.int 7)] [.int (b2i (decide (fRe F p ≤ sId s p)))] (lm_T M v G) Q
        refine lm_G_br (b := (b2i (decide (fRe F p ≤ sId s p))) = 0) (t := 160) (S' := []) rfl (fun h5 => ?_) (fun h5 => ?_)
        ·
          rw [b2i_0 h5] at hQ
          refine lm_G_sg 1 (pc' := 161) (L' := [some (.ref 0), some (.int (nI p)), some (.int 7)]) (S' := [.int 0]) (σ' := lm_T M v G) rfl trivial ?_
          exact lm_G_re rfl trivial (Nat.le_of_ble_eq_true rfl) (Nat.le_of_ble_eq_true rfl) (hQ _ (Fr_rf _ _))
        ·
          rw [b2i_1 h5] at hQ
          refine lm_G_sg 2 (pc' := 161) (L' := [some (.ref 0), some (.int (nI p)), some (.int 7)]) (S' := [.int 1]) (σ' := lm_T M v G) rfl trivial ?_
          exact lm_G_re rfl trivial (Nat.le_of_ble_eq_true rfl) (Nat.le_of_ble_eq_true rfl) (hQ _ (Fr_rf _ _))
      ·
        show lm_G X (d + 2) 90 106 1 6 26 [some (.ref 0), some (.int (nI p)), some (.int 8)] [.int 8] (lm_T M v G) Q
        refine lm_G_sg 6 (pc' := 171) (L' := [some (.ref 0), some (.int (nI p)), some (.int 8)]) (S' := [.int (M 37 (nI p).toNatClampNeg)]) (σ' := lm_T M v G) rfl ⟨(vp_in_nI (by omega) (by omega)), trivial, trivial⟩ ?_
        rw [show (nI p).toNatClampNeg = p from nI_clamp (by omega)]
        rw [show M 37 p = heardS F (sPl s) p from h.he p (by omega)]
        rw [show aPer F s (nI p) (nI 8) = .inl (heardS F (sPl s) p) from by simp +decide only [aPer, vPer, hx, hw, cp, if_true, if_false, Bool.and_true, Bool.true_and, Bool.and_self, Bool.false_and, Bool.and_false, Bool.false_eq_true]] at hQ
        exact lm_G_re rfl trivial (Nat.le_of_ble_eq_true rfl) (Nat.le_of_ble_eq_true rfl) (hQ _ (Fr_rf _ _))
      ·
        show lm_G X (d + 2) 90 106 1 6 26 [some (.ref 0), some (.int (nI p)), some (.int 9)] [.int 9] (lm_T M v G) Q
        refine lm_G_sg 6 (pc' := 181) (L' := [some (.ref 0), some (.int (nI p)), some (.int 9)]) (S' := [.int (M 19 (nI p).toNatClampNeg)]) (σ' := lm_T M v G) rfl ⟨(vp_in_nI (by omega) (by omega)), trivial, trivial⟩ ?_
        rw [show (nI p).toNatClampNeg = p from nI_clamp (by omega)]
        rw [show M 19 p = fWh F p from h.wh p (by omega)]
        rw [show aPer F s (nI p) (nI 9) = .inl (fWh F p) from by simp +decide only [aPer, vPer, hx, hw, cp, if_true, if_false, Bool.and_true, Bool.true_and, Bool.and_self, Bool.false_and, Bool.and_false, Bool.false_eq_true]] at hQ
        rw [fWh01 (h.w01 p hp)] at hQ
        refine lm_G_br (b := (fWh F p) = 0) (t := 188) (S' := []) rfl (fun h5 => ?_) (fun h5 => ?_)
        ·
          rw [decide_eq_false (fun w => w h5)] at hQ
          refine lm_G_sg 1 (pc' := 189) (L' := [some (.ref 0), some (.int (nI p)), some (.int 9)]) (S' := [.int 0]) (σ' := lm_T M v G) rfl trivial ?_
          exact lm_G_re rfl trivial (Nat.le_of_ble_eq_true rfl) (Nat.le_of_ble_eq_true rfl) (hQ _ (Fr_rf _ _))
        ·
          rw [decide_eq_true h5] at hQ
          refine lm_G_sg 2 (pc' := 189) (L' := [some (.ref 0), some (.int (nI p)), some (.int 9)]) (S' := [.int 1]) (σ' := lm_T M v G) rfl trivial ?_
          exact lm_G_re rfl trivial (Nat.le_of_ble_eq_true rfl) (Nat.le_of_ble_eq_true rfl) (hQ _ (Fr_rf _ _))
set_option maxRecDepth 10000 in
theorem m_person {X : lm_X} {d v : Nat} {M : Nat → Nat → Int32} {G : Nat → Nat → Int64} {Q : lm_O → lm_S → Prop} {F : Fa} {s : Sc} {x w : Int32} (hF : okF F) (h : RM M F s) (hs : okS F s) (hl : M 64 42 = 0) (hQ : ∀ M1, RM M1 F s → FrN M M1 → M1 64 4 = cd (aPer F s x w) → Q (.inl (some (.int (vl (aPer F s x w))))) (lm_T M1 v G)) : lm_Q X (d + 2) 202 [.ref 64, .int x, .int w] (lm_T M v G) Q := by
  have hn := hF.n
  have hm := hF.m
  show lm_G X (d + 2) 202 106 0 0 0 [some (.ref 64), some (.int x), some (.int w)] [] (lm_T M v G) Q
  refine lm_G_sg 3 (pc' := 5) (L' := [some (.ref 64), some (.int x), some (.int w)]) (S' := []) (σ' := lm_T (lm_wr M 64 4 0) v G) rfl ⟨trivial, trivial, trivial⟩ ?_
  have h0 : RM (lm_wr M 64 4 0) F s := RM_taken h 4 (by decide) 0
  have f0 : FrN M (lm_wr M 64 4 0) := FrN_w64 (FrN_rf _) (by decide)
  have c0 : (lm_wr M 64 4 0) 64 4 = 0 := wr_same
  have l0 : (lm_wr M 64 4 0) 64 42 = 0 := (wr_at (by decide)).trans hl
  revert h0 f0 c0 l0
  generalize lm_wr M 64 4 0 = M0
  intro h0 f0 c0 l0
  refine lm_G_sg 2 (pc' := 7) (L' := [some (.ref 64), some (.int x), some (.int w)]) (S' := [.int x, .ref 64]) (σ' := lm_T M0 v G) rfl trivial ?_
  refine lm_G_ca (j := 145) (as := [.ref 64, .int x]) (rest := []) rfl (Or.inl rfl) (Nat.le_of_ble_eq_true rfl) (Nat.le_of_ble_eq_true rfl) (Nat.le_of_ble_eq_true rfl) (Nat.le_of_ble_eq_true rfl) rfl ?_
  refine m_isPerson hF h0 ?_
  show lm_G X (d + 2) 202 106 0 0 10 [some (.ref 64), some (.int x), some (.int w)] [.int (b2i (isP (fN F) x))] (lm_T M0 v G) Q
  refine lm_G_br (b := ¬ (b2i (isP (fN F) x)) = 0) (t := 19) (S' := []) rfl (fun hx => ?_) (fun hx => ?_)
  rotate_left
  ·
    replace hx := b2i_0 (Classical.not_not.mp hx)
    refine lm_G_sg 2 (pc' := 15) (L' := [some (.ref 64), some (.int x), some (.int w)]) (S' := [.int 1, .ref 64]) (σ' := lm_T M0 v G) rfl trivial ?_
    refine lm_G_ca (j := 141) (as := [.ref 64, .int 1]) (rest := []) rfl (Or.inl rfl) (Nat.le_of_ble_eq_true rfl) (Nat.le_of_ble_eq_true rfl) (Nat.le_of_ble_eq_true rfl) (Nat.le_of_ble_eq_true rfl) rfl ?_
    refine m_fail ?_
    show lm_G X (d + 2) 202 106 0 0 18 [some (.ref 64), some (.int x), some (.int w)] [.int 0] (lm_T (lm_wr M0 64 4 1) v G) Q
    rw [show aPer F s x w = .inr false from by simp +decide only [aPer, hx, if_true, if_false, Bool.and_true, Bool.true_and, Bool.and_self, Bool.false_and, Bool.and_false, Bool.false_eq_true]] at hQ
    exact lm_G_re rfl trivial (Nat.zero_le _) (Nat.zero_le _) (hQ _ (RM_taken h0 4 (by decide) 1) (FrN_w64 f0 (by decide)) wr_same)
  ·
    replace hx := b2i_1 hx
    obtain ⟨p, hp, rfl⟩ := isP_nI hx (by omega)
    have cp : (nI p).toNatClampNeg = p := nI_clamp (by omega)
    refine lm_G_sg 1 (pc' := 20) (L' := [some (.ref 64), some (.int (nI p)), some (.int w)]) (S' := [.int w]) (σ' := lm_T M0 v G) rfl trivial ?_
    rcases Bool.eq_false_or_eq_true (isP 10 w) with hw | hw
    rotate_left
    ·
      refine lm_G_tsd (pc' := 158) rfl (isP_no hw) rfl ?_
      show lm_G X (d + 2) 202 106 0 0 158 [some (.ref 64), some (.int (nI p)), some (.int w)] [] (lm_T M0 v G) Q
      refine lm_G_sg 2 (pc' := 160) (L' := [some (.ref 64), some (.int (nI p)), some (.int w)]) (S' := [.int 1, .ref 64]) (σ' := lm_T M0 v G) rfl trivial ?_
      refine lm_G_ca (j := 141) (as := [.ref 64, .int 1]) (rest := []) rfl (Or.inl rfl) (Nat.le_of_ble_eq_true rfl) (Nat.le_of_ble_eq_true rfl) (Nat.le_of_ble_eq_true rfl) (Nat.le_of_ble_eq_true rfl) rfl ?_
      refine m_fail ?_
      show lm_G X (d + 2) 202 106 0 0 163 [some (.ref 64), some (.int (nI p)), some (.int w)] [.int 0] (lm_T (lm_wr M0 64 4 1) v G) Q
      rw [show aPer F s (nI p) w = .inr false from by simp +decide only [aPer, hx, hw, if_true, if_false, Bool.and_true, Bool.true_and, Bool.and_self, Bool.false_and, Bool.and_false, Bool.false_eq_true]] at hQ
      exact lm_G_re rfl trivial (Nat.zero_le _) (Nat.zero_le _) (hQ _ (RM_taken h0 4 (by decide) 1) (FrN_w64 f0 (by decide)) wr_same)
    ·
      obtain ⟨kk, hkk, rfl⟩ := isP_nI hw (by omega)
      rcases (by omega : kk = 0 ∨ kk = 1 ∨ kk = 2 ∨ kk = 3 ∨ kk = 4 ∨ kk = 5 ∨ kk = 6 ∨ kk = 7 ∨ kk = 8 ∨ kk = 9) with rfl | rfl | rfl | rfl | rfl | rfl | rfl | rfl | rfl | rfl
      ·
        show lm_G X (d + 2) 202 106 0 0 20 [some (.ref 64), some (.int (nI p)), some (.int 0)] [.int 0] (lm_T M0 v G) Q
        refine lm_G_sg 5 (pc' := 82) (L' := [some (.ref 64), some (.int (nI p)), some (.int 0)]) (S' := [.int (M0 79 (nI p).toNatClampNeg)]) (σ' := lm_T M0 v G) rfl ⟨(vp_in_nI (by omega) (by omega)), trivial, trivial⟩ ?_
        rw [show (nI p).toNatClampNeg = p from nI_clamp (by omega)]
        rw [show M0 79 p = sBr s p from h0.br p (by omega)]
        rw [show aPer F s (nI p) (nI 0) = .inl (sBr s p) from by simp +decide only [aPer, vPer, hx, hw, cp, if_true, if_false, Bool.and_true, Bool.true_and, Bool.and_self, Bool.false_and, Bool.and_false, Bool.false_eq_true]] at hQ
        exact lm_G_re rfl trivial (Nat.zero_le _) (Nat.zero_le _) (hQ _ h0 f0 c0)
      ·
        show lm_G X (d + 2) 202 106 0 0 20 [some (.ref 64), some (.int (nI p)), some (.int 1)] [.int 1] (lm_T M0 v G) Q
        refine lm_G_sg 5 (pc' := 89) (L' := [some (.ref 64), some (.int (nI p)), some (.int 1)]) (S' := [.int (M0 71 (nI p).toNatClampNeg)]) (σ' := lm_T M0 v G) rfl ⟨(vp_in_nI (by omega) (by omega)), trivial, trivial⟩ ?_
        rw [show (nI p).toNatClampNeg = p from nI_clamp (by omega)]
        rw [show M0 71 p = fRe F p from h0.re p (by omega)]
        rw [show aPer F s (nI p) (nI 1) = .inl (fRe F p) from by simp +decide only [aPer, vPer, hx, hw, cp, if_true, if_false, Bool.and_true, Bool.true_and, Bool.and_self, Bool.false_and, Bool.and_false, Bool.false_eq_true]] at hQ
        exact lm_G_re rfl trivial (Nat.zero_le _) (Nat.zero_le _) (hQ _ h0 f0 c0)
      ·
        show lm_G X (d + 2) 202 106 0 0 20 [some (.ref 64), some (.int (nI p)), some (.int 2)] [.int 2] (lm_T M0 v G) Q
        refine lm_G_sg 5 (pc' := 96) (L' := [some (.ref 64), some (.int (nI p)), some (.int 2)]) (S' := [.int (M0 85 (nI p).toNatClampNeg)]) (σ' := lm_T M0 v G) rfl ⟨(vp_in_nI (by omega) (by omega)), trivial, trivial⟩ ?_
        rw [show (nI p).toNatClampNeg = p from nI_clamp (by omega)]
        rw [show M0 85 p = sPl s p from h0.pl p (by omega)]
        rw [show aPer F s (nI p) (nI 2) = .inl (sPl s p) from by simp +decide only [aPer, vPer, hx, hw, cp, if_true, if_false, Bool.and_true, Bool.true_and, Bool.and_self, Bool.false_and, Bool.and_false, Bool.false_eq_true]] at hQ
        exact lm_G_re rfl trivial (Nat.zero_le _) (Nat.zero_le _) (hQ _ h0 f0 c0)
      ·
        show lm_G X (d + 2) 202 106 0 0 20 [some (.ref 64), some (.int (nI p)), some (.int 3)] [.int 3] (lm_T M0 v G) Q
        refine lm_G_sg 5 (pc' := 103) (L' := [some (.ref 64), some (.int (nI p)), some (.int 3)]) (S' := [.int (M0 86 (nI p).toNatClampNeg)]) (σ' := lm_T M0 v G) rfl ⟨(vp_in_nI (by omega) (by omega)), trivial, trivial⟩ ?_
        rw [show (nI p).toNatClampNeg = p from nI_clamp (by omega)]
        rw [show M0 86 p = sCo s p from h0.co p (by omega)]
        rw [show aPer F s (nI p) (nI 3) = .inl (sCo s p) from by simp +decide only [aPer, vPer, hx, hw, cp, if_true, if_false, Bool.and_true, Bool.true_and, Bool.and_self, Bool.false_and, Bool.and_false, Bool.false_eq_true]] at hQ
        exact lm_G_re rfl trivial (Nat.zero_le _) (Nat.zero_le _) (hQ _ h0 f0 c0)
      ·
        show lm_G X (d + 2) 202 106 0 0 20 [some (.ref 64), some (.int (nI p)), some (.int 4)] [.int 4] (lm_T M0 v G) Q
        refine lm_G_sg 5 (pc' := 110) (L' := [some (.ref 64), some (.int (nI p)), some (.int 4)]) (S' := [.int (M0 82 (nI p).toNatClampNeg)]) (σ' := lm_T M0 v G) rfl ⟨(vp_in_nI (by omega) (by omega)), trivial, trivial⟩ ?_
        rw [show (nI p).toNatClampNeg = p from nI_clamp (by omega)]
        rw [show M0 82 p = sHu s p from h0.hu p (by omega)]
        rw [show aPer F s (nI p) (nI 4) = .inl (sHu s p) from by simp +decide only [aPer, vPer, hx, hw, cp, if_true, if_false, Bool.and_true, Bool.true_and, Bool.and_self, Bool.false_and, Bool.and_false, Bool.false_eq_true]] at hQ
        exact lm_G_re rfl trivial (Nat.zero_le _) (Nat.zero_le _) (hQ _ h0 f0 c0)
      ·
        show lm_G X (d + 2) 202 106 0 0 20 [some (.ref 64), some (.int (nI p)), some (.int 5)] [.int 5] (lm_T M0 v G) Q
        refine lm_G_sg 5 (pc' := 117) (L' := [some (.ref 64), some (.int (nI p)), some (.int 5)]) (S' := [.int (M0 83 (nI p).toNatClampNeg)]) (σ' := lm_T M0 v G) rfl ⟨(vp_in_nI (by omega) (by omega)), trivial, trivial⟩ ?_
        rw [show (nI p).toNatClampNeg = p from nI_clamp (by omega)]
        rw [show M0 83 p = sHd s p from h0.hd p (by omega)]
        rw [show aPer F s (nI p) (nI 5) = .inl (sHd s p) from by simp +decide only [aPer, vPer, hx, hw, cp, if_true, if_false, Bool.and_true, Bool.true_and, Bool.and_self, Bool.false_and, Bool.and_false, Bool.false_eq_true]] at hQ
        exact lm_G_re rfl trivial (Nat.zero_le _) (Nat.zero_le _) (hQ _ h0 f0 c0)
      ·
        show lm_G X (d + 2) 202 106 0 0 20 [some (.ref 64), some (.int (nI p)), some (.int 6)] [.int 6] (lm_T M0 v G) Q
        refine lm_G_sg 3 (pc' := 120) (L' := [some (.ref 64), some (.int (nI p)), some (.int 6)]) (S' := [.int (nI p), .ref 64]) (σ' := lm_T M0 v G) rfl trivial ?_
        refine lm_G_ca (j := 183) (as := [.ref 64, .int (nI p)]) (rest := []) rfl (Or.inl rfl) (Nat.le_of_ble_eq_true rfl) (Nat.le_of_ble_eq_true rfl) (Nat.le_of_ble_eq_true rfl) (Nat.le_of_ble_eq_true rfl) rfl ?_
        refine m_ownedBy hF h0 ?_
        show lm_G X (d + 2) 202 106 0 0 123 [some (.ref 64), some (.int (nI p)), some (.int 6)] [.int (ownS F (sOw s) (nI p))] (lm_T M0 v G) Q
        rw [show aPer F s (nI p) (nI 6) = .inl (ownS F (sOw s) (nI p)) from by simp +decide only [aPer, vPer, hx, hw, cp, if_true, if_false, Bool.and_true, Bool.true_and, Bool.and_self, Bool.false_and, Bool.and_false, Bool.false_eq_true]] at hQ
        exact lm_G_re rfl trivial (Nat.zero_le _) (Nat.zero_le _) (hQ _ h0 f0 c0)
      ·
        show lm_G X (d + 2) 202 106 0 0 20 [some (.ref 64), some (.int (nI p)), some (.int 7)] [.int 7] (lm_T M0 v G) Q
        refine lm_G_sg 5 (pc' := 130) (L' := [some (.ref 64), some (.int (nI p)), some (.int 7)]) (S' := [.int (M0 84 (nI p).toNatClampNeg)]) (σ' := lm_T M0 v G) rfl ⟨(vp_in_nI (by omega) (by omega)), trivial, trivial⟩ ?_
        rw [show (nI p).toNatClampNeg = p from nI_clamp (by omega)]
        rw [show M0 84 p = sId s p from h0.id p (by omega)]
        refine lm_G_sg 4 (pc' := 136) (L' := [some (.ref 64), some (.int (nI p)), some (.int 7)]) (S' := [.int (M0 71 (nI p).toNatClampNeg), .int (sId s p)]) (σ' := lm_T M0 v G) rfl ⟨(vp_in_nI (by omega) (by omega)), trivial, trivial⟩ ?_
        rw [show (nI p).toNatClampNeg = p from nI_clamp (by omega)]
        rw [show M0 71 p = fRe F p from h0.re p (by omega)]
        rw [show aPer F s (nI p) (nI 7) = .inl (b2i (decide (fRe F p ≤ sId s p))) from by simp +decide only [aPer, vPer, hx, hw, cp, if_true, if_false, Bool.and_true, Bool.true_and, Bool.and_self, Bool.false_and, Bool.and_false, Bool.false_eq_true]] at hQ
        refine lm_G_br (b := (sId s p) < (fRe F p)) (t := 143) (S' := []) rfl (fun h5 => ?_) (fun h5 => ?_)
        ·
          rw [decide_eq_false (Int32.not_le.mpr h5)] at hQ
          refine lm_G_sg 1 (pc' := 144) (L' := [some (.ref 64), some (.int (nI p)), some (.int 7)]) (S' := [.int 0]) (σ' := lm_T M0 v G) rfl trivial ?_
          exact lm_G_re rfl trivial (Nat.zero_le _) (Nat.zero_le _) (hQ _ h0 f0 c0)
        ·
          rw [decide_eq_true (Int32.not_lt.mp h5)] at hQ
          refine lm_G_sg 2 (pc' := 144) (L' := [some (.ref 64), some (.int (nI p)), some (.int 7)]) (S' := [.int 1]) (σ' := lm_T M0 v G) rfl trivial ?_
          exact lm_G_re rfl trivial (Nat.zero_le _) (Nat.zero_le _) (hQ _ h0 f0 c0)
      ·
        show lm_G X (d + 2) 202 106 0 0 20 [some (.ref 64), some (.int (nI p)), some (.int 8)] [.int 8] (lm_T M0 v G) Q
        refine lm_G_sg 3 (pc' := 147) (L' := [some (.ref 64), some (.int (nI p)), some (.int 8)]) (S' := [.int (nI p), .ref 64]) (σ' := lm_T M0 v G) rfl trivial ?_
        refine lm_G_ca (j := 180) (as := [.ref 64, .int (nI p)]) (rest := []) rfl (Or.inl rfl) (Nat.le_of_ble_eq_true rfl) (Nat.le_of_ble_eq_true rfl) (Nat.le_of_ble_eq_true rfl) (Nat.le_of_ble_eq_true rfl) rfl ?_
        refine m_heardBy hF h0 hp ?_
        show lm_G X (d + 2) 202 106 0 0 150 [some (.ref 64), some (.int (nI p)), some (.int 8)] [.int (heardS F (sPl s) p)] (lm_T M0 v G) Q
        rw [show aPer F s (nI p) (nI 8) = .inl (heardS F (sPl s) p) from by simp +decide only [aPer, vPer, hx, hw, cp, if_true, if_false, Bool.and_true, Bool.true_and, Bool.and_self, Bool.false_and, Bool.and_false, Bool.false_eq_true]] at hQ
        exact lm_G_re rfl trivial (Nat.zero_le _) (Nat.zero_le _) (hQ _ h0 f0 c0)
      ·
        show lm_G X (d + 2) 202 106 0 0 20 [some (.ref 64), some (.int (nI p)), some (.int 9)] [.int 9] (lm_T M0 v G) Q
        refine lm_G_sg 5 (pc' := 157) (L' := [some (.ref 64), some (.int (nI p)), some (.int 9)]) (S' := [.int (M0 69 (nI p).toNatClampNeg)]) (σ' := lm_T M0 v G) rfl ⟨(vp_in_nI (by omega) (by omega)), trivial, trivial⟩ ?_
        rw [show (nI p).toNatClampNeg = p from nI_clamp (by omega)]
        rw [show M0 69 p = fWh F p from h0.wh p (by omega)]
        rw [show aPer F s (nI p) (nI 9) = .inl (fWh F p) from by simp +decide only [aPer, vPer, hx, hw, cp, if_true, if_false, Bool.and_true, Bool.true_and, Bool.and_self, Bool.false_and, Bool.and_false, Bool.false_eq_true]] at hQ
        exact lm_G_re rfl trivial (Nat.zero_le _) (Nat.zero_le _) (hQ _ h0 f0 c0)
set_option maxRecDepth 10000 in
theorem c_tune {X : lm_X} {d v : Nat} {M : Nat → Nat → Int32} {G : Nat → Nat → Int64} {Q : lm_O → lm_S → Prop} {F : Fa} {s : Sc} {x w : Int32} (hF : okF F) (h : RC 28 M F s) (hs : okS F s) (hl : M 28 12 = -1) (hQ : ∀ M1, Fr frQ M M1 → Q (cO (aTun F s x w)) (lm_T M1 v G)) : lm_Q X (d + 1) 91 [.ref 0, .int x, .int w] (lm_T M v G) Q := by
  have hn := hF.n
  have hm := hF.m
  show lm_G X (d + 1) 91 106 0 0 0 [some (.ref 0), some (.int x), some (.int w)] [] (lm_T M v G) Q
  refine lm_G_sg 2 (pc' := 2) (L' := [some (.ref 0), some (.int x), some (.int w)]) (S' := [.int x, .ref 0]) (σ' := lm_T M v G) rfl trivial ?_
  refine lm_G_ca (j := 134) (as := [.ref 0, .int x]) (rest := []) rfl (Or.inl rfl) (Nat.le_of_ble_eq_true rfl) (Nat.le_of_ble_eq_true rfl) (Nat.le_of_ble_eq_true rfl) (Nat.le_of_ble_eq_true rfl) rfl ?_
  refine c_isTune hF h ?_
  show lm_G X (d + 1) 91 106 0 0 5 [some (.ref 0), some (.int x), some (.int w)] [.int (b2i (isP (fM F) x))] (lm_T M v G) Q
  refine lm_G_br (b := (b2i (isP (fM F) x)) = 0) (t := 20) (S' := []) rfl (fun hx => ?_) (fun hx => ?_)
  ·
    replace hx := b2i_0 hx
    refine lm_G_sg 1 (pc' := 21) (L' := [some (.ref 0), some (.int x), some (.int w)]) (S' := [.int 0]) (σ' := lm_T M v G) rfl trivial ?_
    rw [show aTun F s x w = .inr false from by simp +decide only [aTun, hx, if_true, if_false, Bool.and_true, Bool.true_and, Bool.and_self, Bool.false_and, Bool.and_false, Bool.false_eq_true]] at hQ
    refine lm_G_ca (j := 137) (as := [.int 0]) (rest := []) rfl (Or.inl rfl) (Nat.le_of_ble_eq_true rfl) (Nat.le_of_ble_eq_true rfl) (Nat.le_of_ble_eq_true rfl) (Nat.le_of_ble_eq_true rfl) rfl ?_
    exact c_mustExistF ⟨by decide, rfl, hQ M (Fr_rf _ _)⟩
  ·
    replace hx := b2i_1 hx
    refine lm_G_sg 2 (pc' := 10) (L' := [some (.ref 0), some (.int x), some (.int w)]) (S' := [.int 3, .int w]) (σ' := lm_T M v G) rfl trivial ?_
    refine lm_G_ca (j := 135) (as := [.int w, .int 3]) (rest := []) rfl (Or.inl rfl) (Nat.le_of_ble_eq_true rfl) (Nat.le_of_ble_eq_true rfl) (Nat.le_of_ble_eq_true rfl) (Nat.le_of_ble_eq_true rfl) rfl ?_
    refine c_isWhat (n := 3) (by omega) ?_
    show lm_G X (d + 1) 91 106 0 0 13 [some (.ref 0), some (.int x), some (.int w)] [.int (b2i (isP 3 w))] (lm_T M v G) Q
    refine lm_G_br (b := (b2i (isP 3 w)) = 0) (t := 20) (S' := []) rfl (fun hw => ?_) (fun hw => ?_)
    ·
      replace hw := b2i_0 hw
      refine lm_G_sg 1 (pc' := 21) (L' := [some (.ref 0), some (.int x), some (.int w)]) (S' := [.int 0]) (σ' := lm_T M v G) rfl trivial ?_
      rw [show aTun F s x w = .inr false from by simp +decide only [aTun, hw, hx, if_true, if_false, Bool.and_true, Bool.true_and, Bool.and_self, Bool.false_and, Bool.and_false, Bool.false_eq_true]] at hQ
      refine lm_G_ca (j := 137) (as := [.int 0]) (rest := []) rfl (Or.inl rfl) (Nat.le_of_ble_eq_true rfl) (Nat.le_of_ble_eq_true rfl) (Nat.le_of_ble_eq_true rfl) (Nat.le_of_ble_eq_true rfl) rfl ?_
      exact c_mustExistF ⟨by decide, rfl, hQ M (Fr_rf _ _)⟩
    ·
      replace hw := b2i_1 hw
      refine lm_G_sg 2 (pc' := 21) (L' := [some (.ref 0), some (.int x), some (.int w)]) (S' := [.int 1]) (σ' := lm_T M v G) rfl trivial ?_
      refine lm_G_ca (j := 137) (as := [.int 1]) (rest := []) rfl (Or.inl rfl) (Nat.le_of_ble_eq_true rfl) (Nat.le_of_ble_eq_true rfl) (Nat.le_of_ble_eq_true rfl) (Nat.le_of_ble_eq_true rfl) rfl ?_
      refine c_mustExistT ?_
      show lm_G X (d + 1) 91 106 1 6 24 [some (.ref 0), some (.int x), some (.int w)] [] (lm_T M v G) Q
      obtain ⟨t, ht, rfl⟩ := isP_nI hx (by omega)
      have ct : (nI t).toNatClampNeg = t := nI_clamp (by omega)
      refine lm_G_sg 1 (pc' := 25) (L' := [some (.ref 0), some (.int (nI t)), some (.int w)]) (S' := [.int w]) (σ' := lm_T M v G) rfl trivial ?_
      rcases isP_3 hw with rfl | rfl | rfl
      ·
        refine lm_G_sg 6 (pc' := 61) (L' := [some (.ref 0), some (.int (nI t)), some (.int 0)]) (S' := [.int (M 20 (nI t).toNatClampNeg)]) (σ' := lm_T M v G) rfl ⟨(vp_in_nI (by omega) (by omega)), trivial, trivial⟩ ?_
        rw [show (nI t).toNatClampNeg = t from nI_clamp (by omega)]
        rw [show M 20 t = fAi F t from h.ai t (by omega)]
        rw [show aTun F s (nI t) 0 = .inl (fAi F t) from by simp +decide only [aTun, hx, hw, ct, if_true, if_false, Bool.and_true, Bool.true_and, Bool.and_self, Bool.false_and, Bool.and_false, Bool.false_eq_true]] at hQ
        exact lm_G_re rfl trivial (Nat.le_of_ble_eq_true rfl) (Nat.le_of_ble_eq_true rfl) (hQ _ (Fr_rf _ _))
      ·
        refine lm_G_sg 6 (pc' := 71) (L' := [some (.ref 0), some (.int (nI t)), some (.int 1)]) (S' := [.int (M 35 (nI t).toNatClampNeg)]) (σ' := lm_T M v G) rfl ⟨(vp_in_nI (by omega) (by omega)), trivial, trivial⟩ ?_
        rw [show (nI t).toNatClampNeg = t from nI_clamp (by omega)]
        rw [show M 35 t = sOw s t from h.ow t (by omega)]
        rw [show aTun F s (nI t) 1 = .inl (sOw s t) from by simp +decide only [aTun, hx, hw, ct, if_true, if_false, Bool.and_true, Bool.true_and, Bool.and_self, Bool.false_and, Bool.and_false, Bool.false_eq_true]] at hQ
        exact lm_G_re rfl trivial (Nat.le_of_ble_eq_true rfl) (Nat.le_of_ble_eq_true rfl) (hQ _ (Fr_rf _ _))
      ·
        refine lm_G_sg 6 (pc' := 81) (L' := [some (.ref 0), some (.int (nI t)), some (.int 2)]) (S' := [.int (M 36 (nI t).toNatClampNeg)]) (σ' := lm_T M v G) rfl ⟨(vp_in_nI (by omega) (by omega)), trivial, trivial⟩ ?_
        rw [show (nI t).toNatClampNeg = t from nI_clamp (by omega)]
        rw [show M 36 t = humS F (sHu s) (nI t) from h.hs t (by omega)]
        rw [show aTun F s (nI t) 2 = .inl (humS F (sHu s) (nI t)) from by simp +decide only [aTun, hx, hw, ct, if_true, if_false, Bool.and_true, Bool.true_and, Bool.and_self, Bool.false_and, Bool.and_false, Bool.false_eq_true]] at hQ
        exact lm_G_re rfl trivial (Nat.le_of_ble_eq_true rfl) (Nat.le_of_ble_eq_true rfl) (hQ _ (Fr_rf _ _))
set_option maxRecDepth 10000 in
theorem m_tune {X : lm_X} {d v : Nat} {M : Nat → Nat → Int32} {G : Nat → Nat → Int64} {Q : lm_O → lm_S → Prop} {F : Fa} {s : Sc} {x w : Int32} (hF : okF F) (h : RM M F s) (hs : okS F s) (hl : M 64 42 = 0) (hQ : ∀ M1, RM M1 F s → FrN M M1 → M1 64 4 = cd (aTun F s x w) → Q (.inl (some (.int (vl (aTun F s x w))))) (lm_T M1 v G)) : lm_Q X (d + 2) 203 [.ref 64, .int x, .int w] (lm_T M v G) Q := by
  have hn := hF.n
  have hm := hF.m
  show lm_G X (d + 2) 203 106 0 0 0 [some (.ref 64), some (.int x), some (.int w)] [] (lm_T M v G) Q
  refine lm_G_sg 3 (pc' := 5) (L' := [some (.ref 64), some (.int x), some (.int w)]) (S' := []) (σ' := lm_T (lm_wr M 64 4 0) v G) rfl ⟨trivial, trivial, trivial⟩ ?_
  have h0 : RM (lm_wr M 64 4 0) F s := RM_taken h 4 (by decide) 0
  have f0 : FrN M (lm_wr M 64 4 0) := FrN_w64 (FrN_rf _) (by decide)
  have c0 : (lm_wr M 64 4 0) 64 4 = 0 := wr_same
  have l0 : (lm_wr M 64 4 0) 64 42 = 0 := (wr_at (by decide)).trans hl
  revert h0 f0 c0 l0
  generalize lm_wr M 64 4 0 = M0
  intro h0 f0 c0 l0
  refine lm_G_sg 2 (pc' := 7) (L' := [some (.ref 64), some (.int x), some (.int w)]) (S' := [.int x, .ref 64]) (σ' := lm_T M0 v G) rfl trivial ?_
  refine lm_G_ca (j := 146) (as := [.ref 64, .int x]) (rest := []) rfl (Or.inl rfl) (Nat.le_of_ble_eq_true rfl) (Nat.le_of_ble_eq_true rfl) (Nat.le_of_ble_eq_true rfl) (Nat.le_of_ble_eq_true rfl) rfl ?_
  refine m_isTune hF h0 ?_
  show lm_G X (d + 2) 203 106 0 0 10 [some (.ref 64), some (.int x), some (.int w)] [.int (b2i (isP (fM F) x))] (lm_T M0 v G) Q
  refine lm_G_br (b := (b2i (isP (fM F) x)) = 0) (t := 25) (S' := []) rfl (fun hx => ?_) (fun hx => ?_)
  ·
    replace hx := b2i_0 hx
    refine lm_G_sg 2 (pc' := 27) (L' := [some (.ref 64), some (.int x), some (.int w)]) (S' := [.int 1, .ref 64]) (σ' := lm_T M0 v G) rfl trivial ?_
    refine lm_G_ca (j := 141) (as := [.ref 64, .int 1]) (rest := []) rfl (Or.inl rfl) (Nat.le_of_ble_eq_true rfl) (Nat.le_of_ble_eq_true rfl) (Nat.le_of_ble_eq_true rfl) (Nat.le_of_ble_eq_true rfl) rfl ?_
    refine m_fail ?_
    show lm_G X (d + 2) 203 106 0 0 30 [some (.ref 64), some (.int x), some (.int w)] [.int 0] (lm_T (lm_wr M0 64 4 1) v G) Q
    rw [show aTun F s x w = .inr false from by simp +decide only [aTun, hx, if_true, if_false, Bool.and_true, Bool.true_and, Bool.and_self, Bool.false_and, Bool.and_false, Bool.false_eq_true]] at hQ
    exact lm_G_re rfl trivial (Nat.zero_le _) (Nat.zero_le _) (hQ _ (RM_taken h0 4 (by decide) 1) (FrN_w64 f0 (by decide)) wr_same)
  ·
    replace hx := b2i_1 hx
    refine lm_G_sg 4 (pc' := 19) (L' := [some (.ref 64), some (.int x), some (.int w)]) (S' := [.long 2, .long 0, .long w.toInt64]) (σ' := lm_T M0 v G) rfl trivial ?_
    refine lm_G_ca (j := 142) (as := [.long w.toInt64, .long 0, .long 2]) (rest := []) rfl (Or.inl rfl) (Nat.le_of_ble_eq_true rfl) (Nat.le_of_ble_eq_true rfl) (Nat.le_of_ble_eq_true rfl) (Nat.le_of_ble_eq_true rfl) rfl ?_
    refine c_isIn ?_
    show lm_G X (d + 2) 203 106 0 0 22 [some (.ref 64), some (.int x), some (.int w)] [.int (b2i (inL (w.toInt64) 0 2))] (lm_T M0 v G) Q
    rw [show inL (w.toInt64) 0 2 = isP 3 w from inL_2 _]
    refine lm_G_br (b := ¬ (b2i (isP 3 w)) = 0) (t := 31) (S' := []) rfl (fun hw => ?_) (fun hw => ?_)
    rotate_left
    ·
      replace hw := b2i_0 (Classical.not_not.mp hw)
      refine lm_G_sg 2 (pc' := 27) (L' := [some (.ref 64), some (.int x), some (.int w)]) (S' := [.int 1, .ref 64]) (σ' := lm_T M0 v G) rfl trivial ?_
      refine lm_G_ca (j := 141) (as := [.ref 64, .int 1]) (rest := []) rfl (Or.inl rfl) (Nat.le_of_ble_eq_true rfl) (Nat.le_of_ble_eq_true rfl) (Nat.le_of_ble_eq_true rfl) (Nat.le_of_ble_eq_true rfl) rfl ?_
      refine m_fail ?_
      show lm_G X (d + 2) 203 106 0 0 30 [some (.ref 64), some (.int x), some (.int w)] [.int 0] (lm_T (lm_wr M0 64 4 1) v G) Q
      rw [show aTun F s x w = .inr false from by simp +decide only [aTun, hw, hx, if_true, if_false, Bool.and_true, Bool.true_and, Bool.and_self, Bool.false_and, Bool.and_false, Bool.false_eq_true]] at hQ
      exact lm_G_re rfl trivial (Nat.zero_le _) (Nat.zero_le _) (hQ _ (RM_taken h0 4 (by decide) 1) (FrN_w64 f0 (by decide)) wr_same)
    ·
      replace hw := b2i_1 hw
      obtain ⟨t, ht, rfl⟩ := isP_nI hx (by omega)
      have ct : (nI t).toNatClampNeg = t := nI_clamp (by omega)
      rcases isP_3 hw with rfl | rfl | rfl
      ·
        refine lm_G_sg 1 (pc' := 32) (L' := [some (.ref 64), some (.int (nI t)), some (.int 0)]) (S' := [.int 0]) (σ' := lm_T M0 v G) rfl trivial ?_
        rw [show aTun F s (nI t) 0 = .inl (fAi F t) from by simp +decide only [aTun, hx, hw, ct, if_true, if_false, Bool.and_true, Bool.true_and, Bool.and_self, Bool.false_and, Bool.and_false, Bool.false_eq_true]] at hQ
        refine lm_G_br (b := ¬ 0 = 0) (t := 44) (S' := []) rfl (fun hc => absurd rfl hc) (fun hc => ?_)
        refine lm_G_sg 4 (pc' := 41) (L' := [some (.ref 64), some (.int (nI t)), some (.int 0)]) (S' := [.int (M0 74 (nI t).toNatClampNeg)]) (σ' := lm_T M0 v G) rfl ⟨(vp_in_nI (by omega) (by omega)), trivial, trivial⟩ ?_
        rw [show (nI t).toNatClampNeg = t from nI_clamp (by omega)]
        rw [show M0 74 t = fAi F t from h0.ai t (by omega)]
        refine lm_G_sg 1 (pc' := 63) (L' := [some (.ref 64), some (.int (nI t)), some (.int 0)]) (S' := [.int (fAi F t)]) (σ' := lm_T M0 v G) rfl trivial ?_
        exact lm_G_re rfl trivial (Nat.zero_le _) (Nat.zero_le _) (hQ _ h0 f0 c0)
      ·
        refine lm_G_sg 1 (pc' := 32) (L' := [some (.ref 64), some (.int (nI t)), some (.int 1)]) (S' := [.int 1]) (σ' := lm_T M0 v G) rfl trivial ?_
        rw [show aTun F s (nI t) 1 = .inl (sOw s t) from by simp +decide only [aTun, hx, hw, ct, if_true, if_false, Bool.and_true, Bool.true_and, Bool.and_self, Bool.false_and, Bool.and_false, Bool.false_eq_true]] at hQ
        refine lm_G_br (b := ¬ 1 = 0) (t := 44) (S' := []) rfl (fun hc => ?_) (fun hc => absurd (by decide) hc)
        refine lm_G_sg 2 (pc' := 46) (L' := [some (.ref 64), some (.int (nI t)), some (.int 1)]) (S' := [.int 1, .int 1]) (σ' := lm_T M0 v G) rfl trivial ?_
        refine lm_G_br (b := ¬ 1 = 1) (t := 58) (S' := []) rfl (fun hc => absurd rfl hc) (fun hc => ?_)
        refine lm_G_sg 4 (pc' := 55) (L' := [some (.ref 64), some (.int (nI t)), some (.int 1)]) (S' := [.int (M0 81 (nI t).toNatClampNeg)]) (σ' := lm_T M0 v G) rfl ⟨(vp_in_nI (by omega) (by omega)), trivial, trivial⟩ ?_
        rw [show (nI t).toNatClampNeg = t from nI_clamp (by omega)]
        rw [show M0 81 t = sOw s t from h0.ow t (by omega)]
        refine lm_G_sg 1 (pc' := 63) (L' := [some (.ref 64), some (.int (nI t)), some (.int 1)]) (S' := [.int (sOw s t)]) (σ' := lm_T M0 v G) rfl trivial ?_
        exact lm_G_re rfl trivial (Nat.zero_le _) (Nat.zero_le _) (hQ _ h0 f0 c0)
      ·
        refine lm_G_sg 1 (pc' := 32) (L' := [some (.ref 64), some (.int (nI t)), some (.int 2)]) (S' := [.int 2]) (σ' := lm_T M0 v G) rfl trivial ?_
        rw [show aTun F s (nI t) 2 = .inl (humS F (sHu s) (nI t)) from by simp +decide only [aTun, hx, hw, ct, if_true, if_false, Bool.and_true, Bool.true_and, Bool.and_self, Bool.false_and, Bool.and_false, Bool.false_eq_true]] at hQ
        refine lm_G_br (b := ¬ 2 = 0) (t := 44) (S' := []) rfl (fun hc => ?_) (fun hc => absurd (by decide) hc)
        refine lm_G_sg 2 (pc' := 46) (L' := [some (.ref 64), some (.int (nI t)), some (.int 2)]) (S' := [.int 1, .int 2]) (σ' := lm_T M0 v G) rfl trivial ?_
        refine lm_G_br (b := ¬ 2 = 1) (t := 58) (S' := []) rfl (fun hc => ?_) (fun hc => absurd (by decide) hc)
        refine lm_G_sg 2 (pc' := 60) (L' := [some (.ref 64), some (.int (nI t)), some (.int 2)]) (S' := [.int (nI t), .ref 64]) (σ' := lm_T M0 v G) rfl trivial ?_
        refine lm_G_ca (j := 181) (as := [.ref 64, .int (nI t)]) (rest := []) rfl (Or.inl rfl) (Nat.le_of_ble_eq_true rfl) (Nat.le_of_ble_eq_true rfl) (Nat.le_of_ble_eq_true rfl) (Nat.le_of_ble_eq_true rfl) rfl ?_
        refine m_whoHums hF h0 ?_
        show lm_G X (d + 2) 203 106 0 0 63 [some (.ref 64), some (.int (nI t)), some (.int 2)] [.int (humS F (sHu s) (nI t))] (lm_T M0 v G) Q
        exact lm_G_re rfl trivial (Nat.zero_le _) (Nat.zero_le _) (hQ _ h0 f0 c0)
set_option maxRecDepth 10000 in
theorem c_refusals {X : lm_X} {d v : Nat} {M : Nat → Nat → Int32} {G : Nat → Nat → Int64} {Q : lm_O → lm_S → Prop} {j : Nat} (hj : j < 3) (hQ : Q (.inl (some (.int (M 56 j)))) (lm_T M v G)) : lm_Q X d 3 [.ref 52, .int (nI j)] (lm_T M v G) Q := by
  show lm_G X d 3 106 0 0 0 [some (.ref 52), some (.int (nI j))] [] (lm_T M v G) Q
  refine lm_G_sg 1 (pc' := 1) (L' := [some (.ref 52), some (.int (nI j))]) (S' := [.int (nI j)]) (σ' := lm_T M v G) rfl trivial ?_
  refine lm_G_br (b := (nI j) < 0) (t := 18) (S' := []) rfl (fun hc => absurd hc (nI_pos (by omega))) (fun hc => ?_)
  refine lm_G_sg 2 (pc' := 6) (L' := [some (.ref 52), some (.int (nI j))]) (S' := [.int 3, .int (nI j)]) (σ' := lm_T M v G) rfl trivial ?_
  refine lm_G_br (b := 3 ≤ (nI j)) (t := 18) (S' := []) rfl (fun hc => absurd hc (nI_ge (b := 3) hj (by omega))) (fun hc => ?_)
  refine lm_G_sg 4 (pc' := 15) (L' := [some (.ref 52), some (.int (nI j))]) (S' := [.int (M 56 (nI j).toNatClampNeg)]) (σ' := lm_T M v G) rfl ⟨(vp_in_nI (by omega) (by omega)), trivial, trivial⟩ ?_
  rw [show (nI j).toNatClampNeg = j from nI_clamp (by omega)]
  refine lm_G_sg 1 (pc' := 19) (L' := [some (.ref 52), some (.int (nI j))]) (S' := [.int (M 56 j)]) (σ' := lm_T M v G) rfl trivial ?_
  exact lm_G_re rfl trivial (Nat.zero_le _) (Nat.zero_le _) hQ
set_option maxRecDepth 10000 in
theorem c_count {X : lm_X} {d v : Nat} {M : Nat → Nat → Int32} {G : Nat → Nat → Int64} {Q : lm_O → lm_S → Prop} {F : Fa} {s : Sc} {B : Bk} {L : Nat} {w : Int32} (hF : okF F) (h : RC 28 M F s) (hs : okS F s) (hl : M 28 12 = -1) (hb : CB 52 M F B) (hL : M 1 1 = nI L) (hQ : ∀ M1, Fr frQ M M1 → Q (cO (aCnt F s B L w)) (lm_T M1 v G)) : lm_Q X (d + 4) 89 [.ref 0, .int w] (lm_T M v G) Q := by
  have hn := hF.n
  have hm := hF.m
  show lm_G X (d + 4) 89 106 0 0 0 [some (.ref 0), some (.int w)] [] (lm_T M v G) Q
  refine lm_G_sg 2 (pc' := 3) (L' := [some (.ref 0), some (.int w)]) (S' := [.int 15, .int w]) (σ' := lm_T M v G) rfl trivial ?_
  refine lm_G_ca (j := 135) (as := [.int w, .int 15]) (rest := []) rfl (Or.inl rfl) (Nat.le_of_ble_eq_true rfl) (Nat.le_of_ble_eq_true rfl) (Nat.le_of_ble_eq_true rfl) (Nat.le_of_ble_eq_true rfl) rfl ?_
  refine c_isWhat (n := 15) (by omega) ?_
  show lm_G X (d + 4) 89 106 0 0 6 [some (.ref 0), some (.int w)] [.int (b2i (isP 15 w))] (lm_T M v G) Q
  rcases Bool.eq_false_or_eq_true (isP 15 w) with hw | hw
  rotate_left
  ·
    rw [hw]
    show lm_G X (d + 4) 89 106 0 0 6 [some (.ref 0), some (.int w)] [.int 0] (lm_T M v G) Q
    rw [show aCnt F s B L w = .inr false from by simp +decide only [aCnt, hw, if_true, if_false, Bool.and_true, Bool.true_and, Bool.and_self, Bool.false_and, Bool.and_false, Bool.false_eq_true]] at hQ
    refine lm_G_ca (j := 137) (as := [.int 0]) (rest := []) rfl (Or.inl rfl) (Nat.le_of_ble_eq_true rfl) (Nat.le_of_ble_eq_true rfl) (Nat.le_of_ble_eq_true rfl) (Nat.le_of_ble_eq_true rfl) rfl ?_
    exact c_mustExistF ⟨by decide, rfl, hQ M (Fr_rf _ _)⟩
  ·
    rw [hw]
    show lm_G X (d + 4) 89 106 0 0 6 [some (.ref 0), some (.int w)] [.int 1] (lm_T M v G) Q
    refine lm_G_ca (j := 137) (as := [.int 1]) (rest := []) rfl (Or.inl rfl) (Nat.le_of_ble_eq_true rfl) (Nat.le_of_ble_eq_true rfl) (Nat.le_of_ble_eq_true rfl) (Nat.le_of_ble_eq_true rfl) rfl ?_
    refine c_mustExistT ?_
    show lm_G X (d + 4) 89 106 1 6 9 [some (.ref 0), some (.int w)] [] (lm_T M v G) Q
    refine lm_G_sg 1 (pc' := 10) (L' := [some (.ref 0), some (.int w)]) (S' := [.int w]) (σ' := lm_T M v G) rfl trivial ?_
    obtain ⟨kk, hkk, rfl⟩ := isP_nI hw (by omega)
    rcases (by omega : kk = 0 ∨ kk = 1 ∨ kk = 2 ∨ kk = 3 ∨ kk = 4 ∨ kk = 5 ∨ kk = 6 ∨ kk = 7 ∨ kk = 8 ∨ kk = 9 ∨ kk = 10 ∨ kk = 11 ∨ kk = 12 ∨ kk = 13 ∨ kk = 14) with rfl | rfl | rfl | rfl | rfl | rfl | rfl | rfl | rfl | rfl | rfl | rfl | rfl | rfl | rfl
    ·
      show lm_G X (d + 4) 89 106 1 6 10 [some (.ref 0), some (.int 0)] [.int 0] (lm_T M v G) Q
      refine lm_G_sg 4 (pc' := 79) (L' := [some (.ref 0), some (.int 0)]) (S' := [.int (M 14 0)]) (σ' := lm_T M v G) rfl trivial ?_
      rw [show M 14 0 = nI (fN F) from h.n]
      rw [show aCnt F s B L (nI 0) = .inl (nI (fN F)) from by simp +decide only [aCnt, vCnt, hw, if_true, if_false, Bool.and_true, Bool.true_and, Bool.and_self, Bool.false_and, Bool.and_false, Bool.false_eq_true]] at hQ
      exact lm_G_re rfl trivial (Nat.le_of_ble_eq_true rfl) (Nat.le_of_ble_eq_true rfl) (hQ _ (Fr_rf _ _))
    ·
      show lm_G X (d + 4) 89 106 1 6 10 [some (.ref 0), some (.int 1)] [.int 1] (lm_T M v G) Q
      refine lm_G_sg 4 (pc' := 87) (L' := [some (.ref 0), some (.int 1)]) (S' := [.int (M 14 6)]) (σ' := lm_T M v G) rfl trivial ?_
      rw [show M 14 6 = nI (fM F) from h.m]
      rw [show aCnt F s B L (nI 1) = .inl (nI (fM F)) from by simp +decide only [aCnt, vCnt, hw, if_true, if_false, Bool.and_true, Bool.true_and, Bool.and_self, Bool.false_and, Bool.and_false, Bool.false_eq_true]] at hQ
      exact lm_G_re rfl trivial (Nat.le_of_ble_eq_true rfl) (Nat.le_of_ble_eq_true rfl) (hQ _ (Fr_rf _ _))
    ·
      show lm_G X (d + 4) 89 106 1 6 10 [some (.ref 0), some (.int 2)] [.int 2] (lm_T M v G) Q
      refine lm_G_sg 4 (pc' := 95) (L' := [some (.ref 0), some (.int 2)]) (S' := [.int (M 28 2)]) (σ' := lm_T M v G) rfl trivial ?_
      rw [show M 28 2 = sHr s from h.hr]
      rw [show aCnt F s B L (nI 2) = .inl (sHr s) from by simp +decide only [aCnt, vCnt, hw, if_true, if_false, Bool.and_true, Bool.true_and, Bool.and_self, Bool.false_and, Bool.and_false, Bool.false_eq_true]] at hQ
      exact lm_G_re rfl trivial (Nat.le_of_ble_eq_true rfl) (Nat.le_of_ble_eq_true rfl) (hQ _ (Fr_rf _ _))
    ·
      show lm_G X (d + 4) 89 106 1 6 10 [some (.ref 0), some (.int 3)] [.int 3] (lm_T M v G) Q
      refine lm_G_sg 4 (pc' := 103) (L' := [some (.ref 0), some (.int 3)]) (S' := [.int (M 14 9)]) (σ' := lm_T M v G) rfl trivial ?_
      rw [show M 14 9 = fE F from h.e]
      rw [show aCnt F s B L (nI 3) = .inl (fE F) from by simp +decide only [aCnt, vCnt, hw, if_true, if_false, Bool.and_true, Bool.true_and, Bool.and_self, Bool.false_and, Bool.and_false, Bool.false_eq_true]] at hQ
      exact lm_G_re rfl trivial (Nat.le_of_ble_eq_true rfl) (Nat.le_of_ble_eq_true rfl) (hQ _ (Fr_rf _ _))
    ·
      show lm_G X (d + 4) 89 106 1 6 10 [some (.ref 0), some (.int 4)] [.int 4] (lm_T M v G) Q
      refine lm_G_sg 3 (pc' := 108) (L' := [some (.ref 0), some (.int 4)]) (S' := [.ref 28]) (σ' := lm_T M v G) rfl trivial ?_
      rw [show aCnt F s B L (nI 4) = .inl (msk (fun p => decide (sHu s p ≠ -1)) (fN F)) from by simp +decide only [aCnt, vCnt, hw, if_true, if_false, Bool.and_true, Bool.true_and, Bool.and_self, Bool.false_and, Bool.and_false, Bool.false_eq_true]] at hQ
      refine lm_G_ca (j := 59) (as := [.ref 28]) (rest := []) rfl (Or.inl rfl) (Nat.le_of_ble_eq_true rfl) (Nat.le_of_ble_eq_true rfl) (Nat.le_of_ble_eq_true rfl) (Nat.le_of_ble_eq_true rfl) rfl ?_
      refine c_allHummers28 hs hF h ?_
      show lm_G X (d + 4) 89 106 1 6 111 [some (.ref 0), some (.int 4)] [.int (msk (fun p => decide (sHu s p ≠ -1)) (fN F))] (lm_T M v G) Q
      exact lm_G_re rfl trivial (Nat.le_of_ble_eq_true rfl) (Nat.le_of_ble_eq_true rfl) (hQ _ (Fr_rf _ _))
    ·
      show lm_G X (d + 4) 89 106 1 6 10 [some (.ref 0), some (.int 5)] [.int 5] (lm_T M v G) Q
      refine lm_G_sg 4 (pc' := 117) (L' := [some (.ref 0), some (.int 5)]) (S' := [.int (-1), .ref 28]) (σ' := lm_T M v G) rfl trivial ?_
      rw [show aCnt F s B L (nI 5) = .inl (ownS F (sOw s) (-1)) from by simp +decide only [aCnt, vCnt, hw, if_true, if_false, Bool.and_true, Bool.true_and, Bool.and_self, Bool.false_and, Bool.and_false, Bool.false_eq_true]] at hQ
      refine lm_G_ca (j := 60) (as := [.ref 28, .int (-1)]) (rest := []) rfl (Or.inl rfl) (Nat.le_of_ble_eq_true rfl) (Nat.le_of_ble_eq_true rfl) (Nat.le_of_ble_eq_true rfl) (Nat.le_of_ble_eq_true rfl) rfl ?_
      refine c_ownedBy28 hF h ?_
      show lm_G X (d + 4) 89 106 1 6 120 [some (.ref 0), some (.int 5)] [.int (ownS F (sOw s) (-1))] (lm_T M v G) Q
      exact lm_G_re rfl trivial (Nat.le_of_ble_eq_true rfl) (Nat.le_of_ble_eq_true rfl) (hQ _ (Fr_rf _ _))
    ·
      show lm_G X (d + 4) 89 106 1 6 10 [some (.ref 0), some (.int 6)] [.int 6] (lm_T M v G) Q
      refine lm_G_sg 3 (pc' := 125) (L' := [some (.ref 0), some (.int 6)]) (S' := [.ref 48]) (σ' := lm_T M v G) rfl trivial ?_
      rw [show aCnt F s B L (nI 6) = .inl (partS F (sPl s)) from by simp +decide only [aCnt, vCnt, hw, if_true, if_false, Bool.and_true, Bool.true_and, Bool.and_self, Bool.false_and, Bool.and_false, Bool.false_eq_true]] at hQ
      refine lm_G_ca (j := 18) (as := [.ref 48]) (rest := []) rfl (Or.inl rfl) (Nat.le_of_ble_eq_true rfl) (Nat.le_of_ble_eq_true rfl) (Nat.le_of_ble_eq_true rfl) (Nat.le_of_ble_eq_true rfl) rfl ?_
      refine c_parts hF h ?_
      show lm_G X (d + 4) 89 106 1 6 128 [some (.ref 0), some (.int 6)] [.int (partS F (sPl s))] (lm_T M v G) Q
      exact lm_G_re rfl trivial (Nat.le_of_ble_eq_true rfl) (Nat.le_of_ble_eq_true rfl) (hQ _ (Fr_rf _ _))
    ·
      show lm_G X (d + 4) 89 106 1 6 10 [some (.ref 0), some (.int 7)] [.int 7] (lm_T M v G) Q
      refine lm_G_sg 3 (pc' := 133) (L' := [some (.ref 0), some (.int 7)]) (S' := [.ref 48]) (σ' := lm_T M v G) rfl trivial ?_
      rw [show aCnt F s B L (nI 7) = .inl (nI (fewS F (sPl s) (2 ^ fN F))) from by simp +decide only [aCnt, vCnt, hw, if_true, if_false, Bool.and_true, Bool.true_and, Bool.and_self, Bool.false_and, Bool.and_false, Bool.false_eq_true]] at hQ
      refine lm_G_ca (j := 20) (as := [.ref 48]) (rest := []) rfl (Or.inl rfl) (Nat.le_of_ble_eq_true rfl) (Nat.le_of_ble_eq_true rfl) (Nat.le_of_ble_eq_true rfl) (Nat.le_of_ble_eq_true rfl) rfl ?_
      refine c_few hF h ?_
      show lm_G X (d + 4) 89 106 1 6 136 [some (.ref 0), some (.int 7)] [.int (nI (fewS F (sPl s) (2 ^ fN F)))] (lm_T M v G) Q
      exact lm_G_re rfl trivial (Nat.le_of_ble_eq_true rfl) (Nat.le_of_ble_eq_true rfl) (hQ _ (Fr_rf _ _))
    ·
      show lm_G X (d + 4) 89 106 1 6 10 [some (.ref 0), some (.int 8)] [.int 8] (lm_T M v G) Q
      refine lm_G_sg 3 (pc' := 141) (L' := [some (.ref 0), some (.int 8)]) (S' := [.ref 28]) (σ' := lm_T M v G) rfl trivial ?_
      rw [show aCnt F s B L (nI 8) = .inl (sumS (sCo s) (fN F)) from by simp +decide only [aCnt, vCnt, hw, if_true, if_false, Bool.and_true, Bool.true_and, Bool.and_self, Bool.false_and, Bool.and_false, Bool.false_eq_true]] at hQ
      refine lm_G_ca (j := 63) (as := [.ref 28]) (rest := []) rfl (Or.inl rfl) (Nat.le_of_ble_eq_true rfl) (Nat.le_of_ble_eq_true rfl) (Nat.le_of_ble_eq_true rfl) (Nat.le_of_ble_eq_true rfl) rfl ?_
      refine c_allCows28 hF h ?_
      show lm_G X (d + 4) 89 106 1 6 144 [some (.ref 0), some (.int 8)] [.int (sumS (sCo s) (fN F))] (lm_T M v G) Q
      exact lm_G_re rfl trivial (Nat.le_of_ble_eq_true rfl) (Nat.le_of_ble_eq_true rfl) (hQ _ (Fr_rf _ _))
    ·
      show lm_G X (d + 4) 89 106 1 6 10 [some (.ref 0), some (.int 9)] [.int 9] (lm_T M v G) Q
      refine lm_G_sg 4 (pc' := 152) (L' := [some (.ref 0), some (.int 9)]) (S' := [.int (M 52 2)]) (σ' := lm_T M v G) rfl trivial ?_
      rw [show M 52 2 = nI (bkA B) from hb.1]
      rw [show aCnt F s B L (nI 9) = .inl (nI (bkA B)) from by simp +decide only [aCnt, vCnt, hw, if_true, if_false, Bool.and_true, Bool.true_and, Bool.and_self, Bool.false_and, Bool.and_false, Bool.false_eq_true]] at hQ
      exact lm_G_re rfl trivial (Nat.le_of_ble_eq_true rfl) (Nat.le_of_ble_eq_true rfl) (hQ _ (Fr_rf _ _))
    ·
      show lm_G X (d + 4) 89 106 1 6 10 [some (.ref 0), some (.int 10)] [.int 10] (lm_T M v G) Q
      refine lm_G_sg 4 (pc' := 160) (L' := [some (.ref 0), some (.int 10)]) (S' := [.int (M 52 4)]) (σ' := lm_T M v G) rfl trivial ?_
      rw [show M 52 4 = nI (bkG B) from hb.2.1]
      rw [show aCnt F s B L (nI 10) = .inl (nI (bkG B)) from by simp +decide only [aCnt, vCnt, hw, if_true, if_false, Bool.and_true, Bool.true_and, Bool.and_self, Bool.false_and, Bool.and_false, Bool.false_eq_true]] at hQ
      exact lm_G_re rfl trivial (Nat.le_of_ble_eq_true rfl) (Nat.le_of_ble_eq_true rfl) (hQ _ (Fr_rf _ _))
    ·
      show lm_G X (d + 4) 89 106 1 6 10 [some (.ref 0), some (.int 11)] [.int 11] (lm_T M v G) Q
      refine lm_G_sg 4 (pc' := 168) (L' := [some (.ref 0), some (.int 11)]) (S' := [.int (M 1 1)]) (σ' := lm_T M v G) rfl trivial ?_
      rw [show M 1 1 = nI L from hL]
      rw [show aCnt F s B L (nI 11) = .inl (nI L) from by simp +decide only [aCnt, vCnt, hw, if_true, if_false, Bool.and_true, Bool.true_and, Bool.and_self, Bool.false_and, Bool.and_false, Bool.false_eq_true]] at hQ
      exact lm_G_re rfl trivial (Nat.le_of_ble_eq_true rfl) (Nat.le_of_ble_eq_true rfl) (hQ _ (Fr_rf _ _))
    ·
      show lm_G X (d + 4) 89 106 1 6 10 [some (.ref 0), some (.int 12)] [.int 12] (lm_T M v G) Q
      refine lm_G_sg 6 (pc' := 177) (L' := [some (.ref 0), some (.int 12)]) (S' := [.int (12 - 12), .ref 52]) (σ' := lm_T M v G) rfl trivial ?_
      rw [show aCnt F s B L (nI 12) = .inl (bkR B 0) from by simp +decide only [aCnt, vCnt, hw, if_true, if_false, Bool.and_true, Bool.true_and, Bool.and_self, Bool.false_and, Bool.and_false, Bool.false_eq_true]] at hQ
      refine lm_G_ca (j := 3) (as := [.ref 52, .int (12 - 12)]) (rest := []) rfl (Or.inl rfl) (Nat.le_of_ble_eq_true rfl) (Nat.le_of_ble_eq_true rfl) (Nat.le_of_ble_eq_true rfl) (Nat.le_of_ble_eq_true rfl) rfl ?_
      refine c_refusals (j := 0) (by omega) ?_
      show lm_G X (d + 4) 89 106 1 6 180 [some (.ref 0), some (.int 12)] [.int (M 56 0)] (lm_T M v G) Q
      rw [← hb.2.2.2.2 0 (by omega)] at hQ
      exact lm_G_re rfl trivial (Nat.le_of_ble_eq_true rfl) (Nat.le_of_ble_eq_true rfl) (hQ _ (Fr_rf _ _))
    ·
      show lm_G X (d + 4) 89 106 1 6 10 [some (.ref 0), some (.int 13)] [.int 13] (lm_T M v G) Q
      refine lm_G_sg 6 (pc' := 177) (L' := [some (.ref 0), some (.int 13)]) (S' := [.int (13 - 12), .ref 52]) (σ' := lm_T M v G) rfl trivial ?_
      rw [show aCnt F s B L (nI 13) = .inl (bkR B 1) from by simp +decide only [aCnt, vCnt, hw, if_true, if_false, Bool.and_true, Bool.true_and, Bool.and_self, Bool.false_and, Bool.and_false, Bool.false_eq_true]] at hQ
      refine lm_G_ca (j := 3) (as := [.ref 52, .int (13 - 12)]) (rest := []) rfl (Or.inl rfl) (Nat.le_of_ble_eq_true rfl) (Nat.le_of_ble_eq_true rfl) (Nat.le_of_ble_eq_true rfl) (Nat.le_of_ble_eq_true rfl) rfl ?_
      refine c_refusals (j := 1) (by omega) ?_
      show lm_G X (d + 4) 89 106 1 6 180 [some (.ref 0), some (.int 13)] [.int (M 56 1)] (lm_T M v G) Q
      rw [← hb.2.2.2.2 1 (by omega)] at hQ
      exact lm_G_re rfl trivial (Nat.le_of_ble_eq_true rfl) (Nat.le_of_ble_eq_true rfl) (hQ _ (Fr_rf _ _))
    ·
      show lm_G X (d + 4) 89 106 1 6 10 [some (.ref 0), some (.int 14)] [.int 14] (lm_T M v G) Q
      refine lm_G_sg 6 (pc' := 177) (L' := [some (.ref 0), some (.int 14)]) (S' := [.int (14 - 12), .ref 52]) (σ' := lm_T M v G) rfl trivial ?_
      rw [show aCnt F s B L (nI 14) = .inl (bkR B 2) from by simp +decide only [aCnt, vCnt, hw, if_true, if_false, Bool.and_true, Bool.true_and, Bool.and_self, Bool.false_and, Bool.and_false, Bool.false_eq_true]] at hQ
      refine lm_G_ca (j := 3) (as := [.ref 52, .int (14 - 12)]) (rest := []) rfl (Or.inl rfl) (Nat.le_of_ble_eq_true rfl) (Nat.le_of_ble_eq_true rfl) (Nat.le_of_ble_eq_true rfl) (Nat.le_of_ble_eq_true rfl) rfl ?_
      refine c_refusals (j := 2) (by omega) ?_
      show lm_G X (d + 4) 89 106 1 6 180 [some (.ref 0), some (.int 14)] [.int (M 56 2)] (lm_T M v G) Q
      rw [← hb.2.2.2.2 2 (by omega)] at hQ
      exact lm_G_re rfl trivial (Nat.le_of_ble_eq_true rfl) (Nat.le_of_ble_eq_true rfl) (hQ _ (Fr_rf _ _))
set_option maxRecDepth 10000 in
theorem m_count {X : lm_X} {d v : Nat} {M : Nat → Nat → Int32} {G : Nat → Nat → Int64} {Q : lm_O → lm_S → Prop} {F : Fa} {s : Sc} {B : Bk} {L : Nat} {w : Int32} (hF : okF F) (h : RM M F s) (hs : okS F s) (hl : M 64 42 = 0) (hb : MB1 M F B) (hL : M 64 18 = nI L) (hQ : ∀ M1, RM M1 F s → FrN M M1 → M1 64 4 = cd (aCnt F s B L w) → Q (.inl (some (.int (vl (aCnt F s B L w))))) (lm_T M1 v G)) : lm_Q X (d + 5) 201 [.ref 64, .int w] (lm_T M v G) Q := by
  have hn := hF.n
  have hm := hF.m
  show lm_G X (d + 5) 201 106 0 0 0 [some (.ref 64), some (.int w)] [] (lm_T M v G) Q
  refine lm_G_sg 3 (pc' := 5) (L' := [some (.ref 64), some (.int w)]) (S' := []) (σ' := lm_T (lm_wr M 64 4 0) v G) rfl ⟨trivial, trivial, trivial⟩ ?_
  have h0 : RM (lm_wr M 64 4 0) F s := RM_taken h 4 (by decide) 0
  have f0 : FrN M (lm_wr M 64 4 0) := FrN_w64 (FrN_rf _) (by decide)
  have c0 : (lm_wr M 64 4 0) 64 4 = 0 := wr_same
  have l0 : (lm_wr M 64 4 0) 64 42 = 0 := (wr_at (by decide)).trans hl
  revert h0 f0 c0 l0
  generalize lm_wr M 64 4 0 = M0
  intro h0 f0 c0 l0
  have hb0 : MB1 M0 F B := MB_fr hb (f0.2 37 (by decide) (by decide) (by decide) (by decide) (by decide)) (f0.2 38 (by decide) (by decide) (by decide) (by decide) (by decide)) (f0.1 87 rfl) (f0.1 92 rfl) (f0.1 93 rfl) (f0.1 94 rfl) (f0.1 78 rfl)
  have hL0 : M0 64 18 = nI L := (f0.2 18 (by decide) (by decide) (by decide) (by decide) (by decide)).trans hL
  refine lm_G_sg 1 (pc' := 6) (L' := [some (.ref 64), some (.int w)]) (S' := [.int w]) (σ' := lm_T M0 v G) rfl trivial ?_
  rcases Bool.eq_false_or_eq_true (isP 15 w) with hw | hw
  rotate_left
  ·
    refine lm_G_tsd (pc' := 150) rfl (isP_no hw) rfl ?_
    show lm_G X (d + 5) 201 106 0 0 150 [some (.ref 64), some (.int w)] [] (lm_T M0 v G) Q
    refine lm_G_sg 2 (pc' := 152) (L' := [some (.ref 64), some (.int w)]) (S' := [.int 1, .ref 64]) (σ' := lm_T M0 v G) rfl trivial ?_
    refine lm_G_ca (j := 141) (as := [.ref 64, .int 1]) (rest := []) rfl (Or.inl rfl) (Nat.le_of_ble_eq_true rfl) (Nat.le_of_ble_eq_true rfl) (Nat.le_of_ble_eq_true rfl) (Nat.le_of_ble_eq_true rfl) rfl ?_
    refine m_fail ?_
    show lm_G X (d + 5) 201 106 0 0 155 [some (.ref 64), some (.int w)] [.int 0] (lm_T (lm_wr M0 64 4 1) v G) Q
    rw [show aCnt F s B L w = .inr false from by simp +decide only [aCnt, hw, if_true, if_false, Bool.and_true, Bool.true_and, Bool.and_self, Bool.false_and, Bool.and_false, Bool.false_eq_true]] at hQ
    exact lm_G_re rfl trivial (Nat.zero_le _) (Nat.zero_le _) (hQ _ (RM_taken h0 4 (by decide) 1) (FrN_w64 f0 (by decide)) wr_same)
  ·
    obtain ⟨kk, hkk, rfl⟩ := isP_nI hw (by omega)
    rcases (by omega : kk = 0 ∨ kk = 1 ∨ kk = 2 ∨ kk = 3 ∨ kk = 4 ∨ kk = 5 ∨ kk = 6 ∨ kk = 7 ∨ kk = 8 ∨ kk = 9 ∨ kk = 10 ∨ kk = 11 ∨ kk = 12 ∨ kk = 13 ∨ kk = 14) with rfl | rfl | rfl | rfl | rfl | rfl | rfl | rfl | rfl | rfl | rfl | rfl | rfl | rfl | rfl
    ·
      show lm_G X (d + 5) 201 106 0 0 6 [some (.ref 64), some (.int 0)] [.int 0] (lm_T M0 v G) Q
      refine lm_G_sg 5 (pc' := 86) (L' := [some (.ref 64), some (.int 0)]) (S' := [.int (M0 68 0)]) (σ' := lm_T M0 v G) rfl ⟨(lm_inb_ok rfl), trivial, trivial⟩ ?_
      rw [show M0 68 0 = nI (fN F) from h0.n]
      rw [show aCnt F s B L (nI 0) = .inl (nI (fN F)) from by simp +decide only [aCnt, vCnt, hw, if_true, if_false, Bool.and_true, Bool.true_and, Bool.and_self, Bool.false_and, Bool.and_false, Bool.false_eq_true]] at hQ
      exact lm_G_re rfl trivial (Nat.zero_le _) (Nat.zero_le _) (hQ _ h0 f0 c0)
    ·
      show lm_G X (d + 5) 201 106 0 0 6 [some (.ref 64), some (.int 1)] [.int 1] (lm_T M0 v G) Q
      refine lm_G_sg 5 (pc' := 86) (L' := [some (.ref 64), some (.int 1)]) (S' := [.int (M0 68 1)]) (σ' := lm_T M0 v G) rfl ⟨(lm_inb_ok rfl), trivial, trivial⟩ ?_
      rw [show M0 68 1 = nI (fM F) from h0.m]
      rw [show aCnt F s B L (nI 1) = .inl (nI (fM F)) from by simp +decide only [aCnt, vCnt, hw, if_true, if_false, Bool.and_true, Bool.true_and, Bool.and_self, Bool.false_and, Bool.and_false, Bool.false_eq_true]] at hQ
      exact lm_G_re rfl trivial (Nat.zero_le _) (Nat.zero_le _) (hQ _ h0 f0 c0)
    ·
      show lm_G X (d + 5) 201 106 0 0 6 [some (.ref 64), some (.int 2)] [.int 2] (lm_T M0 v G) Q
      refine lm_G_sg 3 (pc' := 91) (L' := [some (.ref 64), some (.int 2)]) (S' := [.int (M0 64 36)]) (σ' := lm_T M0 v G) rfl trivial ?_
      rw [show M0 64 36 = sHr s from h0.hr]
      rw [show aCnt F s B L (nI 2) = .inl (sHr s) from by simp +decide only [aCnt, vCnt, hw, if_true, if_false, Bool.and_true, Bool.true_and, Bool.and_self, Bool.false_and, Bool.and_false, Bool.false_eq_true]] at hQ
      exact lm_G_re rfl trivial (Nat.zero_le _) (Nat.zero_le _) (hQ _ h0 f0 c0)
    ·
      show lm_G X (d + 5) 201 106 0 0 6 [some (.ref 64), some (.int 3)] [.int 3] (lm_T M0 v G) Q
      refine lm_G_sg 5 (pc' := 98) (L' := [some (.ref 64), some (.int 3)]) (S' := [.int (M0 68 2)]) (σ' := lm_T M0 v G) rfl ⟨(lm_inb_ok rfl), trivial, trivial⟩ ?_
      rw [show M0 68 2 = fE F from h0.e]
      rw [show aCnt F s B L (nI 3) = .inl (fE F) from by simp +decide only [aCnt, vCnt, hw, if_true, if_false, Bool.and_true, Bool.true_and, Bool.and_self, Bool.false_and, Bool.and_false, Bool.false_eq_true]] at hQ
      exact lm_G_re rfl trivial (Nat.zero_le _) (Nat.zero_le _) (hQ _ h0 f0 c0)
    ·
      show lm_G X (d + 5) 201 106 0 0 6 [some (.ref 64), some (.int 4)] [.int 4] (lm_T M0 v G) Q
      refine lm_G_sg 2 (pc' := 100) (L' := [some (.ref 64), some (.int 4)]) (S' := [.ref 64]) (σ' := lm_T M0 v G) rfl trivial ?_
      rw [show aCnt F s B L (nI 4) = .inl (msk (fun p => decide (sHu s p ≠ -1)) (fN F)) from by simp +decide only [aCnt, vCnt, hw, if_true, if_false, Bool.and_true, Bool.true_and, Bool.and_self, Bool.false_and, Bool.and_false, Bool.false_eq_true]] at hQ
      refine lm_G_ca (j := 182) (as := [.ref 64]) (rest := []) rfl (Or.inl rfl) (Nat.le_of_ble_eq_true rfl) (Nat.le_of_ble_eq_true rfl) (Nat.le_of_ble_eq_true rfl) (Nat.le_of_ble_eq_true rfl) rfl ?_
      refine m_allWhoHum hF h0 ?_
      show lm_G X (d + 5) 201 106 0 0 103 [some (.ref 64), some (.int 4)] [.int (msk (fun p => decide (sHu s p ≠ -1)) (fN F))] (lm_T M0 v G) Q
      exact lm_G_re rfl trivial (Nat.zero_le _) (Nat.zero_le _) (hQ _ h0 f0 c0)
    ·
      show lm_G X (d + 5) 201 106 0 0 6 [some (.ref 64), some (.int 5)] [.int 5] (lm_T M0 v G) Q
      refine lm_G_sg 3 (pc' := 106) (L' := [some (.ref 64), some (.int 5)]) (S' := [.int (-1), .ref 64]) (σ' := lm_T M0 v G) rfl trivial ?_
      rw [show aCnt F s B L (nI 5) = .inl (ownS F (sOw s) (-1)) from by simp +decide only [aCnt, vCnt, hw, if_true, if_false, Bool.and_true, Bool.true_and, Bool.and_self, Bool.false_and, Bool.and_false, Bool.false_eq_true]] at hQ
      refine lm_G_ca (j := 183) (as := [.ref 64, .int (-1)]) (rest := []) rfl (Or.inl rfl) (Nat.le_of_ble_eq_true rfl) (Nat.le_of_ble_eq_true rfl) (Nat.le_of_ble_eq_true rfl) (Nat.le_of_ble_eq_true rfl) rfl ?_
      refine m_ownedBy hF h0 ?_
      show lm_G X (d + 5) 201 106 0 0 109 [some (.ref 64), some (.int 5)] [.int (ownS F (sOw s) (-1))] (lm_T M0 v G) Q
      exact lm_G_re rfl trivial (Nat.zero_le _) (Nat.zero_le _) (hQ _ h0 f0 c0)
    ·
      show lm_G X (d + 5) 201 106 0 0 6 [some (.ref 64), some (.int 6)] [.int 6] (lm_T M0 v G) Q
      refine lm_G_sg 2 (pc' := 111) (L' := [some (.ref 64), some (.int 6)]) (S' := [.ref 64]) (σ' := lm_T M0 v G) rfl trivial ?_
      rw [show aCnt F s B L (nI 6) = .inl (partS F (sPl s)) from by simp +decide only [aCnt, vCnt, hw, if_true, if_false, Bool.and_true, Bool.true_and, Bool.and_self, Bool.false_and, Bool.and_false, Bool.false_eq_true]] at hQ
      refine lm_G_ca (j := 197) (as := [.ref 64]) (rest := []) rfl (Or.inl rfl) (Nat.le_of_ble_eq_true rfl) (Nat.le_of_ble_eq_true rfl) (Nat.le_of_ble_eq_true rfl) (Nat.le_of_ble_eq_true rfl) rfl ?_
      refine m_parts hF h0 ?_
      show lm_G X (d + 5) 201 106 0 0 114 [some (.ref 64), some (.int 6)] [.int (partS F (sPl s))] (lm_T M0 v G) Q
      exact lm_G_re rfl trivial (Nat.zero_le _) (Nat.zero_le _) (hQ _ h0 f0 c0)
    ·
      show lm_G X (d + 5) 201 106 0 0 6 [some (.ref 64), some (.int 7)] [.int 7] (lm_T M0 v G) Q
      refine lm_G_sg 2 (pc' := 116) (L' := [some (.ref 64), some (.int 7)]) (S' := [.ref 64]) (σ' := lm_T M0 v G) rfl trivial ?_
      rw [show aCnt F s B L (nI 7) = .inl (nI (fewS F (sPl s) (2 ^ fN F))) from by simp +decide only [aCnt, vCnt, hw, if_true, if_false, Bool.and_true, Bool.true_and, Bool.and_self, Bool.false_and, Bool.and_false, Bool.false_eq_true]] at hQ
      refine lm_G_ca (j := 198) (as := [.ref 64]) (rest := []) rfl (Or.inl rfl) (Nat.le_of_ble_eq_true rfl) (Nat.le_of_ble_eq_true rfl) (Nat.le_of_ble_eq_true rfl) (Nat.le_of_ble_eq_true rfl) rfl ?_
      refine m_few hF h0 ?_
      show lm_G X (d + 5) 201 106 0 0 119 [some (.ref 64), some (.int 7)] [.int (nI (fewS F (sPl s) (2 ^ fN F)))] (lm_T M0 v G) Q
      exact lm_G_re rfl trivial (Nat.zero_le _) (Nat.zero_le _) (hQ _ h0 f0 c0)
    ·
      show lm_G X (d + 5) 201 106 0 0 6 [some (.ref 64), some (.int 8)] [.int 8] (lm_T M0 v G) Q
      refine lm_G_sg 2 (pc' := 121) (L' := [some (.ref 64), some (.int 8)]) (S' := [.ref 64]) (σ' := lm_T M0 v G) rfl trivial ?_
      rw [show aCnt F s B L (nI 8) = .inl (sumS (sCo s) (fN F)) from by simp +decide only [aCnt, vCnt, hw, if_true, if_false, Bool.and_true, Bool.true_and, Bool.and_self, Bool.false_and, Bool.and_false, Bool.false_eq_true]] at hQ
      refine lm_G_ca (j := 200) (as := [.ref 64]) (rest := []) rfl (Or.inl rfl) (Nat.le_of_ble_eq_true rfl) (Nat.le_of_ble_eq_true rfl) (Nat.le_of_ble_eq_true rfl) (Nat.le_of_ble_eq_true rfl) rfl ?_
      refine m_allCows hF h0 ?_
      show lm_G X (d + 5) 201 106 0 0 124 [some (.ref 64), some (.int 8)] [.int (sumS (sCo s) (fN F))] (lm_T M0 v G) Q
      exact lm_G_re rfl trivial (Nat.zero_le _) (Nat.zero_le _) (hQ _ h0 f0 c0)
    ·
      show lm_G X (d + 5) 201 106 0 0 6 [some (.ref 64), some (.int 9)] [.int 9] (lm_T M0 v G) Q
      refine lm_G_sg 3 (pc' := 129) (L' := [some (.ref 64), some (.int 9)]) (S' := [.int (M0 64 37)]) (σ' := lm_T M0 v G) rfl trivial ?_
      rw [show M0 64 37 = nI (bkA B) from hb0.1]
      rw [show aCnt F s B L (nI 9) = .inl (nI (bkA B)) from by simp +decide only [aCnt, vCnt, hw, if_true, if_false, Bool.and_true, Bool.true_and, Bool.and_self, Bool.false_and, Bool.and_false, Bool.false_eq_true]] at hQ
      exact lm_G_re rfl trivial (Nat.zero_le _) (Nat.zero_le _) (hQ _ h0 f0 c0)
    ·
      show lm_G X (d + 5) 201 106 0 0 6 [some (.ref 64), some (.int 10)] [.int 10] (lm_T M0 v G) Q
      refine lm_G_sg 3 (pc' := 134) (L' := [some (.ref 64), some (.int 10)]) (S' := [.int (M0 64 38)]) (σ' := lm_T M0 v G) rfl trivial ?_
      rw [show M0 64 38 = nI (bkG B) from hb0.2.1]
      rw [show aCnt F s B L (nI 10) = .inl (nI (bkG B)) from by simp +decide only [aCnt, vCnt, hw, if_true, if_false, Bool.and_true, Bool.true_and, Bool.and_self, Bool.false_and, Bool.and_false, Bool.false_eq_true]] at hQ
      exact lm_G_re rfl trivial (Nat.zero_le _) (Nat.zero_le _) (hQ _ h0 f0 c0)
    ·
      show lm_G X (d + 5) 201 106 0 0 6 [some (.ref 64), some (.int 11)] [.int 11] (lm_T M0 v G) Q
      refine lm_G_sg 3 (pc' := 139) (L' := [some (.ref 64), some (.int 11)]) (S' := [.int (M0 64 18)]) (σ' := lm_T M0 v G) rfl trivial ?_
      rw [show M0 64 18 = nI L from hL0]
      rw [show aCnt F s B L (nI 11) = .inl (nI L) from by simp +decide only [aCnt, vCnt, hw, if_true, if_false, Bool.and_true, Bool.true_and, Bool.and_self, Bool.false_and, Bool.and_false, Bool.false_eq_true]] at hQ
      exact lm_G_re rfl trivial (Nat.zero_le _) (Nat.zero_le _) (hQ _ h0 f0 c0)
    ·
      show lm_G X (d + 5) 201 106 0 0 6 [some (.ref 64), some (.int 12)] [.int 12] (lm_T M0 v G) Q
      rw [show aCnt F s B L (nI 12) = .inl (bkR B 0) from by simp +decide only [aCnt, vCnt, hw, if_true, if_false, Bool.and_true, Bool.true_and, Bool.and_self, Bool.false_and, Bool.and_false, Bool.false_eq_true]] at hQ
      refine lm_G_sg 6 (pc' := 148) (L' := [some (.ref 64), some (.int 12)]) (S' := [.int (12 - 12), .ref 78]) (σ' := lm_T M0 v G) rfl trivial ?_
      rw [show (12 : Int32) - 12 = 0 from by decide]
      refine lm_G_sg 1 (pc' := 149) (L' := [some (.ref 64), some (.int 12)]) (S' := [.int (M0 78 0)]) (σ' := lm_T M0 v G) rfl ⟨(lm_inb_ok rfl), trivial, trivial⟩ ?_
      rw [← hb0.2.2.2.2 0 (by omega)] at hQ
      exact lm_G_re rfl trivial (Nat.zero_le _) (Nat.zero_le _) (hQ _ h0 f0 c0)
    ·
      show lm_G X (d + 5) 201 106 0 0 6 [some (.ref 64), some (.int 13)] [.int 13] (lm_T M0 v G) Q
      rw [show aCnt F s B L (nI 13) = .inl (bkR B 1) from by simp +decide only [aCnt, vCnt, hw, if_true, if_false, Bool.and_true, Bool.true_and, Bool.and_self, Bool.false_and, Bool.and_false, Bool.false_eq_true]] at hQ
      refine lm_G_sg 6 (pc' := 148) (L' := [some (.ref 64), some (.int 13)]) (S' := [.int (13 - 12), .ref 78]) (σ' := lm_T M0 v G) rfl trivial ?_
      rw [show (13 : Int32) - 12 = 1 from by decide]
      refine lm_G_sg 1 (pc' := 149) (L' := [some (.ref 64), some (.int 13)]) (S' := [.int (M0 78 1)]) (σ' := lm_T M0 v G) rfl ⟨(lm_inb_ok rfl), trivial, trivial⟩ ?_
      rw [← hb0.2.2.2.2 1 (by omega)] at hQ
      exact lm_G_re rfl trivial (Nat.zero_le _) (Nat.zero_le _) (hQ _ h0 f0 c0)
    ·
      show lm_G X (d + 5) 201 106 0 0 6 [some (.ref 64), some (.int 14)] [.int 14] (lm_T M0 v G) Q
      rw [show aCnt F s B L (nI 14) = .inl (bkR B 2) from by simp +decide only [aCnt, vCnt, hw, if_true, if_false, Bool.and_true, Bool.true_and, Bool.and_self, Bool.false_and, Bool.and_false, Bool.false_eq_true]] at hQ
      refine lm_G_sg 6 (pc' := 148) (L' := [some (.ref 64), some (.int 14)]) (S' := [.int (14 - 12), .ref 78]) (σ' := lm_T M0 v G) rfl trivial ?_
      rw [show (14 : Int32) - 12 = 2 from by decide]
      refine lm_G_sg 1 (pc' := 149) (L' := [some (.ref 64), some (.int 14)]) (S' := [.int (M0 78 2)]) (σ' := lm_T M0 v G) rfl ⟨(lm_inb_ok rfl), trivial, trivial⟩ ?_
      rw [← hb0.2.2.2.2 2 (by omega)] at hQ
      exact lm_G_re rfl trivial (Nat.zero_le _) (Nat.zero_le _) (hQ _ h0 f0 c0)
