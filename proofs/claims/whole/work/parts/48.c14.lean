/-! ===== what one could do ===== -/
def ownN (F : Fa) (lf : Nat → Bool) (S : Sc) (x : Int32) (n : Nat) : Int32 := cnt (ownS F (sOw (hrsS F lf S n)) x)
def fBre (F : Fa) (s : Sc) (p t n k : Nat) : Bool := decide (sOw (hrsS F nl (brS s p (nI (k + 1))) n) t = nI p)
def aBre (F : Fa) (s : Sc) (x y z : Int32) : An := if isP (fN F) x && isP (fM F) y then (if inR z 1 60 then .inl (fi1 (fBre F s x.toNatClampNeg y.toNatClampNeg z.toNatClampNeg) 20) else .inr true) else .inr false
def fSta (F : Fa) (s : Sc) (p n k : Nat) : Int32 := ownN F nl (plS s p (nI k)) (nI p) n
def aSta (F : Fa) (s : Sc) (x z w : Int32) : An := if isP (fN F) x && isP 2 w then (if inR z 1 60 then .inl (if w = 0 then (mxS al (fSta F s x.toNatClampNeg z.toNatClampNeg) nI (-1) 31).1 else (mxS al (fSta F s x.toNatClampNeg z.toNatClampNeg) nI (-1) 31).2) else .inr true) else .inr false
def husS (F : Fa) (s : Sc) (q : Nat) : Sc := allS F (bitW (bit1 (nI q))) s (fM F)
def gHus (s : Sc) (q : Nat) : Bool := decide (sHu s q ≠ -1)
def fHus (F : Fa) (s : Sc) (p n q : Nat) : Int32 := ownN F nl (husS F s q) (nI p) n
def aHus (F : Fa) (s : Sc) (x z : Int32) : An := if isP (fN F) x then (if inR z 1 60 then .inl (mxS (gHus s) (fHus F s x.toNatClampNeg z.toNatClampNeg) nI (ownN F nl s x z.toNatClampNeg) (fN F)).1 else .inr true) else .inr false
def gWit (p q : Nat) : Bool := decide (q ≠ p)
def fWit (F : Fa) (s : Sc) (p n q : Nat) : Int32 := ownN F (fun k => decide (k = q)) (husS F s q) (nI p) n
def aWit (F : Fa) (s : Sc) (x z : Int32) : An := if isP (fN F) x then (if inR z 1 60 then .inl (mxS (gWit x.toNatClampNeg) (fWit F s x.toNatClampNeg z.toNatClampNeg) nI (ownN F nl s x z.toNatClampNeg) (fN F)).1 else .inr true) else .inr false
set_option maxRecDepth 10000 in
theorem c_toBreathe {X : lm_X} {d v : Nat} {M : Nat → Nat → Int32} {G : Nat → Nat → Int64} {Q : lm_O → lm_S → Prop} {F : Fa} {s : Sc} {x y z : Int32} (hF : okF F) (h : RC 28 M F s) (hs : okS F s) (hl : M 28 12 = -1) (hQ : ∀ M1, Fr frQ M M1 → Q (cO (aBre F s x y z)) (lm_T M1 v G)) : lm_Q X (d + 7) 108 [.ref 0, .int x, .int y, .int z] (lm_T M v G) Q := by
  have hn := hF.n
  have hm := hF.m
  show lm_G X (d + 7) 108 106 0 0 0 [some (.ref 0), some (.int x), some (.int y), some (.int z), none] [] (lm_T M v G) Q
  refine lm_G_sg 2 (pc' := 2) (L' := [some (.ref 0), some (.int x), some (.int y), some (.int z), none]) (S' := [.int x, .ref 0]) (σ' := lm_T M v G) rfl trivial ?_
  refine lm_G_ca (j := 133) (as := [.ref 0, .int x]) (rest := []) rfl (Or.inl rfl) (Nat.le_of_ble_eq_true rfl) (Nat.le_of_ble_eq_true rfl) (Nat.le_of_ble_eq_true rfl) (Nat.le_of_ble_eq_true rfl) rfl ?_
  refine c_isPerson hF h ?_
  show lm_G X (d + 7) 108 106 0 0 5 [some (.ref 0), some (.int x), some (.int y), some (.int z), none] [.int (b2i (isP (fN F) x))] (lm_T M v G) Q
  refine lm_G_br (b := (b2i (isP (fN F) x)) = 0) (t := 20) (S' := []) rfl (fun hx => ?_) (fun hx => ?_)
  ·
    replace hx := b2i_0 hx
    refine lm_G_sg 1 (pc' := 21) (L' := [some (.ref 0), some (.int x), some (.int y), some (.int z), none]) (S' := [.int 0]) (σ' := lm_T M v G) rfl trivial ?_
    rw [show aBre F s x y z = .inr false from by simp +decide only [aBre, hx, if_true, if_false, Bool.and_true, Bool.true_and, Bool.and_self, Bool.false_and, Bool.and_false, Bool.false_eq_true]] at hQ
    refine lm_G_ca (j := 137) (as := [.int 0]) (rest := []) rfl (Or.inl rfl) (Nat.le_of_ble_eq_true rfl) (Nat.le_of_ble_eq_true rfl) (Nat.le_of_ble_eq_true rfl) (Nat.le_of_ble_eq_true rfl) rfl ?_
    exact c_mustExistF ⟨by decide, rfl, hQ M (Fr_rf _ _)⟩
  ·
    replace hx := b2i_1 hx
    refine lm_G_sg 2 (pc' := 10) (L' := [some (.ref 0), some (.int x), some (.int y), some (.int z), none]) (S' := [.int y, .ref 0]) (σ' := lm_T M v G) rfl trivial ?_
    refine lm_G_ca (j := 134) (as := [.ref 0, .int y]) (rest := []) rfl (Or.inl rfl) (Nat.le_of_ble_eq_true rfl) (Nat.le_of_ble_eq_true rfl) (Nat.le_of_ble_eq_true rfl) (Nat.le_of_ble_eq_true rfl) rfl ?_
    refine c_isTune hF h ?_
    show lm_G X (d + 7) 108 106 0 0 13 [some (.ref 0), some (.int x), some (.int y), some (.int z), none] [.int (b2i (isP (fM F) y))] (lm_T M v G) Q
    refine lm_G_br (b := (b2i (isP (fM F) y)) = 0) (t := 20) (S' := []) rfl (fun hy => ?_) (fun hy => ?_)
    ·
      replace hy := b2i_0 hy
      refine lm_G_sg 1 (pc' := 21) (L' := [some (.ref 0), some (.int x), some (.int y), some (.int z), none]) (S' := [.int 0]) (σ' := lm_T M v G) rfl trivial ?_
      rw [show aBre F s x y z = .inr false from by simp +decide only [aBre, hy, hx, if_true, if_false, Bool.and_true, Bool.true_and, Bool.and_self, Bool.false_and, Bool.and_false, Bool.false_eq_true]] at hQ
      refine lm_G_ca (j := 137) (as := [.int 0]) (rest := []) rfl (Or.inl rfl) (Nat.le_of_ble_eq_true rfl) (Nat.le_of_ble_eq_true rfl) (Nat.le_of_ble_eq_true rfl) (Nat.le_of_ble_eq_true rfl) rfl ?_
      exact c_mustExistF ⟨by decide, rfl, hQ M (Fr_rf _ _)⟩
    ·
      replace hy := b2i_1 hy
      refine lm_G_sg 2 (pc' := 21) (L' := [some (.ref 0), some (.int x), some (.int y), some (.int z), none]) (S' := [.int 1]) (σ' := lm_T M v G) rfl trivial ?_
      refine lm_G_ca (j := 137) (as := [.int 1]) (rest := []) rfl (Or.inl rfl) (Nat.le_of_ble_eq_true rfl) (Nat.le_of_ble_eq_true rfl) (Nat.le_of_ble_eq_true rfl) (Nat.le_of_ble_eq_true rfl) rfl ?_
      refine c_mustExistT ?_
      show lm_G X (d + 7) 108 106 1 6 24 [some (.ref 0), some (.int x), some (.int y), some (.int z), none] [] (lm_T M v G) Q
      refine lm_G_sg 3 (pc' := 28) (L' := [some (.ref 0), some (.int x), some (.int y), some (.int z), none]) (S' := [.int 60, .int 1, .int z]) (σ' := lm_T M v G) rfl trivial ?_
      refine lm_G_ca (j := 136) (as := [.int z, .int 1, .int 60]) (rest := []) rfl (Or.inl rfl) (Nat.le_of_ble_eq_true rfl) (Nat.le_of_ble_eq_true rfl) (Nat.le_of_ble_eq_true rfl) (Nat.le_of_ble_eq_true rfl) rfl ?_
      refine c_isWithin ?_
      show lm_G X (d + 7) 108 106 1 6 31 [some (.ref 0), some (.int x), some (.int y), some (.int z), none] [.int (b2i (inR z 1 60))] (lm_T M v G) Q
      rcases Bool.eq_false_or_eq_true (inR z 1 60) with hz | hz
      rotate_left
      ·
        rw [hz]
        show lm_G X (d + 7) 108 106 1 6 31 [some (.ref 0), some (.int x), some (.int y), some (.int z), none] [.int 0] (lm_T M v G) Q
        rw [show aBre F s x y z = .inr true from by simp +decide only [aBre, hz, hx, hy, if_true, if_false, Bool.and_true, Bool.true_and, Bool.and_self, Bool.false_and, Bool.and_false, Bool.false_eq_true]] at hQ
        refine lm_G_ca (j := 138) (as := [.int 0]) (rest := []) rfl (Or.inl rfl) (Nat.le_of_ble_eq_true rfl) (Nat.le_of_ble_eq_true rfl) (Nat.le_of_ble_eq_true rfl) (Nat.le_of_ble_eq_true rfl) rfl ?_
        exact c_mustFitF ⟨by decide, rfl, hQ M (Fr_rf _ _)⟩
      ·
        rw [hz]
        show lm_G X (d + 7) 108 106 1 6 31 [some (.ref 0), some (.int x), some (.int y), some (.int z), none] [.int 1] (lm_T M v G) Q
        refine lm_G_ca (j := 138) (as := [.int 1]) (rest := []) rfl (Or.inl rfl) (Nat.le_of_ble_eq_true rfl) (Nat.le_of_ble_eq_true rfl) (Nat.le_of_ble_eq_true rfl) (Nat.le_of_ble_eq_true rfl) rfl ?_
        refine c_mustFitT ?_
        show lm_G X (d + 7) 108 106 2 12 34 [some (.ref 0), some (.int x), some (.int y), some (.int z), none] [] (lm_T M v G) Q
        obtain ⟨p, hp, rfl⟩ := isP_nI hx (by omega)
        have cp : (nI p).toNatClampNeg = p := nI_clamp (by omega)
        obtain ⟨t, ht, rfl⟩ := isP_nI hy (by omega)
        have ct : (nI t).toNatClampNeg = t := nI_clamp (by omega)
        obtain ⟨n, gn, hn, rfl⟩ := inR_nI1 (n := 60) (by decide) hz
        have cn : (nI n).toNatClampNeg = n := nI_clamp (by omega)
        rw [show aBre F s (nI p) (nI t) (nI n) = .inl (fi1 (fBre F s p t n) 20) from by simp +decide only [aBre, hx, hy, hz, cp, ct, cn, if_true, if_false, Bool.and_true, Bool.true_and, Bool.and_self, Bool.false_and, Bool.and_false, Bool.false_eq_true]] at hQ
        refine lm_G_sg 2 (pc' := 37) (L' := [some (.ref 0), some (.int (nI p)), some (.int (nI t)), some (.int (nI n)), some (.int 1)]) (S' := []) (σ' := lm_T M v G) rfl trivial ?_
        refine lm_ind (α := (Nat → Fn)) (St := fun (j : Nat) zz => (fun (M1 : Nat → Fn) => lm_G X (d + 7) 108 106 2 12 37 [some (.ref 0), some (.int (nI p)), some (.int (nI t)), some (.int (nI n)), some (.int (nI (j + 1)))] [] (lm_T M1 v G) Q) zz) (Inv := fun (j : Nat) zz => (fun (M1 : Nat → Fn) => fstS (fBre F s p t n) j = none ∧ Fr frQ M M1) zz) (20) (fun j zz hj hI ih => ?_) (fun zz hI => ?_) (0) M (by omega) ?_
        ·
          revert ih hI
          revert zz
          intro M1 hI ih
          replace hI : fstS (fBre F s p t n) j = none ∧ Fr frQ M M1 := hI
          replace ih : ∀ (M1 : Nat → Fn) (_ : fstS (fBre F s p t n) (j + 1) = none ∧ Fr frQ M M1), lm_G X (d + 7) 108 106 2 12 37 [some (.ref 0), some (.int (nI p)), some (.int (nI t)), some (.int (nI n)), some (.int (nI ((j + 1) + 1)))] [] (lm_T M1 v G) Q := fun M1 q => ih M1 q
          show lm_G X (d + 7) 108 106 2 12 37 [some (.ref 0), some (.int (nI p)), some (.int (nI t)), some (.int (nI n)), some (.int (nI (j + 1)))] [] (lm_T M1 v G) Q
          obtain ⟨i1, f1⟩ := hI
          refine lm_G_sg 2 (pc' := 41) (L' := [some (.ref 0), some (.int (nI p)), some (.int (nI t)), some (.int (nI n)), some (.int (nI (j + 1)))]) (S' := [.int 20, .int (nI (j + 1))]) (σ' := lm_T M1 v G) rfl trivial ?_
          refine lm_G_br (b := 20 < (nI (j + 1))) (t := 89) (S' := []) rfl (fun hc => absurd hc (nI_nlt (a := 20) (by omega) (by omega))) (fun hc => ?_)
          refine lm_G_sg 1 (pc' := 45) (L' := [some (.ref 0), some (.int (nI p)), some (.int (nI t)), some (.int (nI n)), some (.int (nI (j + 1)))]) (S' := [.ref 0]) (σ' := lm_T M1 v G) rfl trivial ?_
          refine lm_G_ca (j := 132) (as := [.ref 0]) (rest := []) rfl (Or.inl rfl) (Nat.le_of_ble_eq_true rfl) (Nat.le_of_ble_eq_true rfl) (Nat.le_of_ble_eq_true rfl) (Nat.le_of_ble_eq_true rfl) rfl ?_
          refine u_start hF h f1 hl (fun M2 t2 e2 => ?_)
          show lm_G X (d + 7) 108 106 2 12 48 [some (.ref 0), some (.int (nI p)), some (.int (nI t)), some (.int (nI n)), some (.int (nI (j + 1)))] [] (lm_T M2 v G) Q
          refine lm_G_sg 6 (pc' := 59) (L' := [some (.ref 0), some (.int (nI p)), some (.int (nI t)), some (.int (nI n)), some (.int (nI (j + 1)))]) (S' := []) (σ' := lm_T (lm_wr M2 39 ((nI p).toNatClampNeg) (nI (j + 1))) v G) rfl ⟨(vp_in_nI (by omega) (by omega)), trivial, trivial⟩ ?_
          rw [show (nI p).toNatClampNeg = p from nI_clamp (by omega)]
          have t3 : TC M F (lm_wr M2 39 p (nI (j + 1))) (brS s p (nI (j + 1))) := TC_br t2 p (nI (j + 1))
          revert t3
          generalize lm_wr M2 39 p (nI (j + 1)) = M3
          intro t3
          refine lm_G_sg 3 (pc' := 64) (L' := [some (.ref 0), some (.int (nI p)), some (.int (nI t)), some (.int (nI n)), some (.int (nI (j + 1)))]) (S' := [.int (nI n), .ref 38]) (σ' := lm_T M3 v G) rfl trivial ?_
          refine lm_G_ca (j := 73) (as := [.ref 38, .int (nI n)]) (rest := []) rfl (Or.inl rfl) (Nat.le_of_ble_eq_true rfl) (Nat.le_of_ble_eq_true rfl) (Nat.le_of_ble_eq_true rfl) (Nat.le_of_ble_eq_true rfl) rfl ?_
          refine u_passHours hF t3 (ok_br hs _ _) (by omega) (fun M4 t4 e4 => ?_)
          show lm_G X (d + 7) 108 106 2 12 67 [some (.ref 0), some (.int (nI p)), some (.int (nI t)), some (.int (nI n)), some (.int (nI (j + 1)))] [] (lm_T M4 v G) Q
          refine lm_G_sg 5 (pc' := 76) (L' := [some (.ref 0), some (.int (nI p)), some (.int (nI t)), some (.int (nI n)), some (.int (nI (j + 1)))]) (S' := [.int (M4 45 (nI t).toNatClampNeg)]) (σ' := lm_T M4 v G) rfl ⟨(vp_in_nI (by omega) (by omega)), trivial, trivial⟩ ?_
          rw [show (nI t).toNatClampNeg = t from nI_clamp (by omega)]
          rw [show M4 45 t = sOw (hrsS F nl (brS s p (nI (j + 1))) n) t from t4.1.ow t (by omega)]
          refine lm_G_sg 1 (pc' := 77) (L' := [some (.ref 0), some (.int (nI p)), some (.int (nI t)), some (.int (nI n)), some (.int (nI (j + 1)))]) (S' := [.int (nI p), .int (sOw (hrsS F nl (brS s p (nI (j + 1))) n) t)]) (σ' := lm_T M4 v G) rfl trivial ?_
          refine lm_G_br (b := ¬ (sOw (hrsS F nl (brS s p (nI (j + 1))) n) t) = (nI p)) (t := 83) (S' := []) rfl (fun h5 => ?_) (fun h5 => ?_)
          rotate_left
          ·
            refine lm_G_sg 1 (pc' := 82) (L' := [some (.ref 0), some (.int (nI p)), some (.int (nI t)), some (.int (nI n)), some (.int (nI (j + 1)))]) (S' := [.int (nI (j + 1))]) (σ' := lm_T M4 v G) rfl trivial ?_
            rw [f1_some (n := 20) (f := (fBre F s p t n)) ((fst_nx i1).trans (if_pos (decide_eq_true (Classical.not_not.mp h5)))) (by omega)] at hQ
            exact lm_G_re rfl trivial (Nat.le_of_ble_eq_true rfl) (Nat.le_of_ble_eq_true rfl) (hQ _ t4.2.1)
          ·
            refine lm_G_sg 1 (pc' := 86) (L' := [some (.ref 0), some (.int (nI p)), some (.int (nI t)), some (.int (nI n)), some (.int ((nI (j + 1)) + 1))]) (S' := []) (σ' := lm_T M4 v G) rfl trivial ?_
            rw [nI_1]
            refine lm_G_sg 1 (pc' := 37) (L' := [some (.ref 0), some (.int (nI p)), some (.int (nI t)), some (.int (nI n)), some (.int (nI ((j + 1) + 1)))]) (S' := []) (σ' := lm_T M4 v G) rfl trivial ?_
            exact ih _ (⟨by rw [fst_nx i1, show (fBre F s p t n) j = false from decide_eq_false h5]; rfl, t4.2.1⟩)
        ·
          revert hI
          revert zz
          intro M1 hI
          replace hI : fstS (fBre F s p t n) 20 = none ∧ Fr frQ M M1 := hI
          show lm_G X (d + 7) 108 106 2 12 37 [some (.ref 0), some (.int (nI p)), some (.int (nI t)), some (.int (nI n)), some (.int (nI (20 + 1)))] [] (lm_T M1 v G) Q
          obtain ⟨i1, f1⟩ := hI
          refine lm_G_sg 2 (pc' := 41) (L' := [some (.ref 0), some (.int (nI p)), some (.int (nI t)), some (.int (nI n)), some (.int (nI (20 + 1)))]) (S' := [.int 20, .int (nI (20 + 1))]) (σ' := lm_T M1 v G) rfl trivial ?_
          refine lm_G_br (b := 20 < (nI (20 + 1))) (t := 89) (S' := []) rfl (fun hc => ?_) (fun hc => absurd (nI_lt (a := 20) (by omega) (by omega)) hc)
          refine lm_G_sg 1 (pc' := 90) (L' := [some (.ref 0), some (.int (nI p)), some (.int (nI t)), some (.int (nI n)), some (.int (nI (20 + 1)))]) (S' := [.int (-1)]) (σ' := lm_T M1 v G) rfl trivial ?_
          rw [f1_none i1] at hQ
          exact lm_G_re rfl trivial (Nat.le_of_ble_eq_true rfl) (Nat.le_of_ble_eq_true rfl) (hQ _ f1)
        ·
          try dsimp only
          exact ⟨rfl, Fr_rf _ _⟩
set_option maxRecDepth 10000 in
theorem m_toBreathe {X : lm_X} {d v : Nat} {M : Nat → Nat → Int32} {G : Nat → Nat → Int64} {Q : lm_O → lm_S → Prop} {F : Fa} {s : Sc} {x y z : Int32} (hF : okF F) (h : RM M F s) (hs : okS F s) (hl : M 64 42 = 0) (hQ : ∀ M1, RM M1 F s → FrN M M1 → M1 64 4 = cd (aBre F s x y z) → Q (.inl (some (.int (vl (aBre F s x y z))))) (lm_T M1 v G)) : lm_Q X (d + 6) 222 [.ref 64, .int x, .int y, .int z] (lm_T M v G) Q := by
  have hn := hF.n
  have hm := hF.m
  show lm_G X (d + 6) 222 106 0 0 0 [some (.ref 64), some (.int x), some (.int y), some (.int z), none, none, none] [] (lm_T M v G) Q
  refine lm_G_sg 3 (pc' := 5) (L' := [some (.ref 64), some (.int x), some (.int y), some (.int z), none, none, none]) (S' := []) (σ' := lm_T (lm_wr M 64 4 0) v G) rfl ⟨trivial, trivial, trivial⟩ ?_
  have h0 : RM (lm_wr M 64 4 0) F s := RM_taken h 4 (by decide) 0
  have f0 : FrN M (lm_wr M 64 4 0) := FrN_w64 (FrN_rf _) (by decide)
  have c0 : (lm_wr M 64 4 0) 64 4 = 0 := wr_same
  have l0 : (lm_wr M 64 4 0) 64 42 = 0 := (wr_at (by decide)).trans hl
  revert h0 f0 c0 l0
  generalize lm_wr M 64 4 0 = M0
  intro h0 f0 c0 l0
  refine lm_G_sg 2 (pc' := 7) (L' := [some (.ref 64), some (.int x), some (.int y), some (.int z), none, none, none]) (S' := [.int x, .ref 64]) (σ' := lm_T M0 v G) rfl trivial ?_
  refine lm_G_ca (j := 145) (as := [.ref 64, .int x]) (rest := []) rfl (Or.inl rfl) (Nat.le_of_ble_eq_true rfl) (Nat.le_of_ble_eq_true rfl) (Nat.le_of_ble_eq_true rfl) (Nat.le_of_ble_eq_true rfl) rfl ?_
  refine m_isPerson hF h0 ?_
  show lm_G X (d + 6) 222 106 0 0 10 [some (.ref 64), some (.int x), some (.int y), some (.int z), none, none, none] [.int (b2i (isP (fN F) x))] (lm_T M0 v G) Q
  refine lm_G_br (b := (b2i (isP (fN F) x)) = 0) (t := 21) (S' := []) rfl (fun hx => ?_) (fun hx => ?_)
  ·
    replace hx := b2i_0 hx
    refine lm_G_sg 2 (pc' := 23) (L' := [some (.ref 64), some (.int x), some (.int y), some (.int z), none, none, none]) (S' := [.int 1, .ref 64]) (σ' := lm_T M0 v G) rfl trivial ?_
    refine lm_G_ca (j := 141) (as := [.ref 64, .int 1]) (rest := []) rfl (Or.inl rfl) (Nat.le_of_ble_eq_true rfl) (Nat.le_of_ble_eq_true rfl) (Nat.le_of_ble_eq_true rfl) (Nat.le_of_ble_eq_true rfl) rfl ?_
    refine m_fail ?_
    show lm_G X (d + 6) 222 106 0 0 26 [some (.ref 64), some (.int x), some (.int y), some (.int z), none, none, none] [.int 0] (lm_T (lm_wr M0 64 4 1) v G) Q
    rw [show aBre F s x y z = .inr false from by simp +decide only [aBre, hx, if_true, if_false, Bool.and_true, Bool.true_and, Bool.and_self, Bool.false_and, Bool.and_false, Bool.false_eq_true]] at hQ
    exact lm_G_re rfl trivial (Nat.zero_le _) (Nat.zero_le _) (hQ _ (RM_taken h0 4 (by decide) 1) (FrN_w64 f0 (by decide)) wr_same)
  ·
    replace hx := b2i_1 hx
    refine lm_G_sg 2 (pc' := 15) (L' := [some (.ref 64), some (.int x), some (.int y), some (.int z), none, none, none]) (S' := [.int y, .ref 64]) (σ' := lm_T M0 v G) rfl trivial ?_
    refine lm_G_ca (j := 146) (as := [.ref 64, .int y]) (rest := []) rfl (Or.inl rfl) (Nat.le_of_ble_eq_true rfl) (Nat.le_of_ble_eq_true rfl) (Nat.le_of_ble_eq_true rfl) (Nat.le_of_ble_eq_true rfl) rfl ?_
    refine m_isTune hF h0 ?_
    show lm_G X (d + 6) 222 106 0 0 18 [some (.ref 64), some (.int x), some (.int y), some (.int z), none, none, none] [.int (b2i (isP (fM F) y))] (lm_T M0 v G) Q
    refine lm_G_br (b := ¬ (b2i (isP (fM F) y)) = 0) (t := 27) (S' := []) rfl (fun hy => ?_) (fun hy => ?_)
    rotate_left
    ·
      replace hy := b2i_0 (Classical.not_not.mp hy)
      refine lm_G_sg 2 (pc' := 23) (L' := [some (.ref 64), some (.int x), some (.int y), some (.int z), none, none, none]) (S' := [.int 1, .ref 64]) (σ' := lm_T M0 v G) rfl trivial ?_
      refine lm_G_ca (j := 141) (as := [.ref 64, .int 1]) (rest := []) rfl (Or.inl rfl) (Nat.le_of_ble_eq_true rfl) (Nat.le_of_ble_eq_true rfl) (Nat.le_of_ble_eq_true rfl) (Nat.le_of_ble_eq_true rfl) rfl ?_
      refine m_fail ?_
      show lm_G X (d + 6) 222 106 0 0 26 [some (.ref 64), some (.int x), some (.int y), some (.int z), none, none, none] [.int 0] (lm_T (lm_wr M0 64 4 1) v G) Q
      rw [show aBre F s x y z = .inr false from by simp +decide only [aBre, hy, hx, if_true, if_false, Bool.and_true, Bool.true_and, Bool.and_self, Bool.false_and, Bool.and_false, Bool.false_eq_true]] at hQ
      exact lm_G_re rfl trivial (Nat.zero_le _) (Nat.zero_le _) (hQ _ (RM_taken h0 4 (by decide) 1) (FrN_w64 f0 (by decide)) wr_same)
    ·
      replace hy := b2i_1 hy
      refine lm_G_sg 4 (pc' := 33) (L' := [some (.ref 64), some (.int x), some (.int y), some (.int z), none, none, none]) (S' := [.long 60, .long 1, .long z.toInt64]) (σ' := lm_T M0 v G) rfl trivial ?_
      refine lm_G_ca (j := 142) (as := [.long z.toInt64, .long 1, .long 60]) (rest := []) rfl (Or.inl rfl) (Nat.le_of_ble_eq_true rfl) (Nat.le_of_ble_eq_true rfl) (Nat.le_of_ble_eq_true rfl) (Nat.le_of_ble_eq_true rfl) rfl ?_
      refine c_isIn ?_
      show lm_G X (d + 6) 222 106 0 0 36 [some (.ref 64), some (.int x), some (.int y), some (.int z), none, none, none] [.int (b2i (inL (z.toInt64) 1 60))] (lm_T M0 v G) Q
      rw [show inL (z.toInt64) 1 60 = inR z 1 60 from (inL_R z 1 60)]
      refine lm_G_br (b := ¬ (b2i (inR z 1 60)) = 0) (t := 45) (S' := []) rfl (fun hz => ?_) (fun hz => ?_)
      rotate_left
      ·
        replace hz := b2i_0 (Classical.not_not.mp hz)
        refine lm_G_sg 2 (pc' := 41) (L' := [some (.ref 64), some (.int x), some (.int y), some (.int z), none, none, none]) (S' := [.int 2, .ref 64]) (σ' := lm_T M0 v G) rfl trivial ?_
        refine lm_G_ca (j := 141) (as := [.ref 64, .int 2]) (rest := []) rfl (Or.inl rfl) (Nat.le_of_ble_eq_true rfl) (Nat.le_of_ble_eq_true rfl) (Nat.le_of_ble_eq_true rfl) (Nat.le_of_ble_eq_true rfl) rfl ?_
        refine m_fail ?_
        show lm_G X (d + 6) 222 106 0 0 44 [some (.ref 64), some (.int x), some (.int y), some (.int z), none, none, none] [.int 0] (lm_T (lm_wr M0 64 4 2) v G) Q
        rw [show aBre F s x y z = .inr true from by simp +decide only [aBre, hz, hx, hy, if_true, if_false, Bool.and_true, Bool.true_and, Bool.and_self, Bool.false_and, Bool.and_false, Bool.false_eq_true]] at hQ
        exact lm_G_re rfl trivial (Nat.zero_le _) (Nat.zero_le _) (hQ _ (RM_taken h0 4 (by decide) 2) (FrN_w64 f0 (by decide)) wr_same)
      ·
        replace hz := b2i_1 hz
        obtain ⟨p, hp, rfl⟩ := isP_nI hx (by omega)
        have cp : (nI p).toNatClampNeg = p := nI_clamp (by omega)
        obtain ⟨t, ht, rfl⟩ := isP_nI hy (by omega)
        have ct : (nI t).toNatClampNeg = t := nI_clamp (by omega)
        obtain ⟨n, gn, hn, rfl⟩ := inR_nI1 (n := 60) (by decide) hz
        have cn : (nI n).toNatClampNeg = n := nI_clamp (by omega)
        rw [show aBre F s (nI p) (nI t) (nI n) = .inl (fi1 (fBre F s p t n) 20) from by simp +decide only [aBre, hx, hy, hz, cp, ct, cn, if_true, if_false, Bool.and_true, Bool.true_and, Bool.and_self, Bool.false_and, Bool.and_false, Bool.false_eq_true]] at hQ
        refine lm_G_sg 4 (pc' := 51) (L' := [some (.ref 64), some (.int (nI p)), some (.int (nI t)), some (.int (nI n)), none, none, none]) (S' := [.int (M0 79 (nI p).toNatClampNeg)]) (σ' := lm_T M0 v G) rfl ⟨(vp_in_nI (by omega) (by omega)), trivial, trivial⟩ ?_
        rw [show (nI p).toNatClampNeg = p from nI_clamp (by omega)]
        rw [show M0 79 p = sBr s p from h0.br p (by omega)]
        refine lm_G_sg 7 (pc' := 62) (L' := [some (.ref 64), some (.int (nI p)), some (.int (nI t)), some (.int (nI n)), some (.int (sBr s p)), some (.int (-1)), none]) (S' := [.int 0, .ref 90, .ref 64]) (σ' := lm_T M0 v G) rfl trivial ?_
        refine lm_G_ca (j := 177) (as := [.ref 64, .ref 90, .int 0]) (rest := []) rfl (Or.inl rfl) (Nat.le_of_ble_eq_true rfl) (Nat.le_of_ble_eq_true rfl) (Nat.le_of_ble_eq_true rfl) (Nat.le_of_ble_eq_true rfl) rfl ?_
        refine t_pack hF h0 f0 c0 l0 (fun M1 t1 => ?_)
        show lm_G X (d + 6) 222 106 0 0 65 [some (.ref 64), some (.int (nI p)), some (.int (nI t)), some (.int (nI n)), some (.int (sBr s p)), some (.int (-1)), none] [] (lm_T M1 v G) Q
        refine lm_G_sg 2 (pc' := 68) (L' := [some (.ref 64), some (.int (nI p)), some (.int (nI t)), some (.int (nI n)), some (.int (sBr s p)), some (.int (-1)), some (.int 1)]) (S' := []) (σ' := lm_T M1 v G) rfl trivial ?_
        have fin : ∀ (M2 : Nat → Fn) (z : Int32) (y : Int32) (t2 : TM M F s M2 (brS s p y)) (ez : z = fi1 (fBre F s p t n) 20), lm_G X (d + 6) 222 106 0 0 123 [some (.ref 64), some (.int (nI p)), some (.int (nI t)), some (.int (nI n)), some (.int (sBr s p)), some (.int z), none] [] (lm_T M2 v G) Q := by
          intro M2 z y t2 ez
          rw [← ez] at hQ
          refine lm_G_sg 5 (pc' := 131) (L' := [some (.ref 64), some (.int (nI p)), some (.int (nI t)), some (.int (nI n)), some (.int (sBr s p)), some (.int z), none]) (S' := []) (σ' := lm_T (lm_wr M2 79 ((nI p).toNatClampNeg) (sBr s p)) v G) rfl ⟨(vp_in_nI (by omega) (by omega)), trivial, trivial⟩ ?_
          rw [show (nI p).toNatClampNeg = p from nI_clamp (by omega)]
          refine lm_G_sg 1 (pc' := 133) (L' := [some (.ref 64), some (.int (nI p)), some (.int (nI t)), some (.int (nI n)), some (.int (sBr s p)), some (.int z), none]) (S' := [.int z]) (σ' := lm_T (lm_wr M2 79 p (sBr s p)) v G) rfl trivial ?_
          exact lm_G_re rfl trivial (Nat.zero_le _) (Nat.zero_le _) (hQ _ (RM_brk hp t2.1) (FrN_wr t2.2.1 rfl (by decide)) t2.2.2.2.1)
        refine lm_ind (α := (Nat → Fn) × Int32 × Int32) (St := fun (j : Nat) zz => (fun (M2 : Nat → Fn) (z : Int32) (y : Int32) => lm_G X (d + 6) 222 106 0 0 68 [some (.ref 64), some (.int (nI p)), some (.int (nI t)), some (.int (nI n)), some (.int (sBr s p)), some (.int z), some (.int (nI (j + 1)))] [] (lm_T M2 v G) Q) zz.1 zz.2.1 zz.2.2) (Inv := fun (j : Nat) zz => (fun (M2 : Nat → Fn) (z : Int32) (y : Int32) => (z = -1 ∧ fstS (fBre F s p t n) j = none ∨ ¬ z = -1 ∧ z = fi1 (fBre F s p t n) 20) ∧ TM M F s M2 (brS s p y)) zz.1 zz.2.1 zz.2.2) (20) (fun j zz hj hI ih => ?_) (fun zz hI => ?_) (0) (M1, -1, sBr s p) (by omega) ?_
        ·
          obtain ⟨M2, z, y⟩ := zz
          replace hI : (z = -1 ∧ fstS (fBre F s p t n) j = none ∨ ¬ z = -1 ∧ z = fi1 (fBre F s p t n) 20) ∧ TM M F s M2 (brS s p y) := hI
          replace ih : ∀ (M2 : Nat → Fn) (z : Int32) (y : Int32) (_ : (z = -1 ∧ fstS (fBre F s p t n) (j + 1) = none ∨ ¬ z = -1 ∧ z = fi1 (fBre F s p t n) 20) ∧ TM M F s M2 (brS s p y)), lm_G X (d + 6) 222 106 0 0 68 [some (.ref 64), some (.int (nI p)), some (.int (nI t)), some (.int (nI n)), some (.int (sBr s p)), some (.int z), some (.int (nI ((j + 1) + 1)))] [] (lm_T M2 v G) Q := fun M2 z y q => ih (M2, z, y) q
          show lm_G X (d + 6) 222 106 0 0 68 [some (.ref 64), some (.int (nI p)), some (.int (nI t)), some (.int (nI n)), some (.int (sBr s p)), some (.int z), some (.int (nI (j + 1)))] [] (lm_T M2 v G) Q
          obtain ⟨i1, t2⟩ := hI
          refine lm_G_sg 2 (pc' := 72) (L' := [some (.ref 64), some (.int (nI p)), some (.int (nI t)), some (.int (nI n)), some (.int (sBr s p)), some (.int z), some (.int (nI (j + 1)))]) (S' := [.int 20, .int (nI (j + 1))]) (σ' := lm_T M2 v G) rfl trivial ?_
          refine lm_G_br (b := 20 < (nI (j + 1))) (t := 123) (S' := []) rfl (fun hc => absurd hc (nI_nlt (a := 20) (by omega) (by omega))) (fun hc => ?_)
          refine lm_G_sg 2 (pc' := 78) (L' := [some (.ref 64), some (.int (nI p)), some (.int (nI t)), some (.int (nI n)), some (.int (sBr s p)), some (.int z), some (.int (nI (j + 1)))]) (S' := [.int (-1), .int z]) (σ' := lm_T M2 v G) rfl trivial ?_
          refine lm_G_br (b := ¬ z = (-1)) (t := 123) (S' := []) rfl (fun h5 => ?_) (fun h5 => ?_)
          ·
            refine lm_G_jk (L := [some (.ref 64), some (.int (nI p)), some (.int (nI t)), some (.int (nI n)), some (.int (sBr s p)), some (.int z), none]) ⟨rfl, rfl, rfl, rfl, rfl, rfl, trivial⟩ ?_
            exact fin _ _ _ t2 ((i1.resolve_left (fun w => h5 w.1)).2)
          ·
            have ei := (i1.resolve_right (fun w => w.1 (Classical.not_not.mp h5))).2
            refine lm_G_sg 5 (pc' := 89) (L' := [some (.ref 64), some (.int (nI p)), some (.int (nI t)), some (.int (nI n)), some (.int (sBr s p)), some (.int z), some (.int (nI (j + 1)))]) (S' := []) (σ' := lm_T (lm_wr M2 79 ((nI p).toNatClampNeg) (nI (j + 1))) v G) rfl ⟨(vp_in_nI (by omega) (by omega)), trivial, trivial⟩ ?_
            rw [show (nI p).toNatClampNeg = p from nI_clamp (by omega)]
            have t3 : TM M F s (lm_wr M2 79 p (nI (j + 1))) (brS s p (nI (j + 1))) := TM_brb t2 p (nI (j + 1))
            revert t3
            generalize lm_wr M2 79 p (nI (j + 1)) = M3
            intro t3
            refine lm_G_sg 2 (pc' := 91) (L' := [some (.ref 64), some (.int (nI p)), some (.int (nI t)), some (.int (nI n)), some (.int (sBr s p)), some (.int z), some (.int (nI (j + 1)))]) (S' := [.int (nI n), .ref 64]) (σ' := lm_T M3 v G) rfl trivial ?_
            refine lm_G_ca (j := 194) (as := [.ref 64, .int (nI n)]) (rest := []) rfl (Or.inl rfl) (Nat.le_of_ble_eq_true rfl) (Nat.le_of_ble_eq_true rfl) (Nat.le_of_ble_eq_true rfl) (Nat.le_of_ble_eq_true rfl) rfl ?_
            refine t_goOn hF t3 (ok_br hs _ _) (by omega) (fun M4 t4 e4 => ?_)
            show lm_G X (d + 6) 222 106 0 0 94 [some (.ref 64), some (.int (nI p)), some (.int (nI t)), some (.int (nI n)), some (.int (sBr s p)), some (.int z), some (.int (nI (j + 1)))] [] (lm_T M4 v G) Q
            refine lm_G_sg 4 (pc' := 100) (L' := [some (.ref 64), some (.int (nI p)), some (.int (nI t)), some (.int (nI n)), some (.int (sBr s p)), some (.int z), some (.int (nI (j + 1)))]) (S' := [.int (M4 81 (nI t).toNatClampNeg)]) (σ' := lm_T M4 v G) rfl ⟨(vp_in_nI (by omega) (by omega)), trivial, trivial⟩ ?_
            rw [show (nI t).toNatClampNeg = t from nI_clamp (by omega)]
            rw [show M4 81 t = sOw (hrsS F nl (brS s p (nI (j + 1))) n) t from t4.1.ow t (by omega)]
            refine lm_G_sg 1 (pc' := 101) (L' := [some (.ref 64), some (.int (nI p)), some (.int (nI t)), some (.int (nI n)), some (.int (sBr s p)), some (.int z), some (.int (nI (j + 1)))]) (S' := [.int (nI p), .int (sOw (hrsS F nl (brS s p (nI (j + 1))) n) t)]) (σ' := lm_T M4 v G) rfl trivial ?_
            refine lm_G_br (b := ¬ (sOw (hrsS F nl (brS s p (nI (j + 1))) n) t) = (nI p)) (t := 108) (S' := []) rfl (fun h6 => ?_) (fun h6 => ?_)
            ·
              refine lm_G_sg 4 (pc' := 114) (L' := [some (.ref 64), some (.int (nI p)), some (.int (nI t)), some (.int (nI n)), some (.int (sBr s p)), some (.int z), some (.int (nI (j + 1)))]) (S' := [.int 0, .ref 90, .ref 64]) (σ' := lm_T M4 v G) rfl trivial ?_
              refine lm_G_ca (j := 178) (as := [.ref 64, .ref 90, .int 0]) (rest := []) rfl (Or.inl rfl) (Nat.le_of_ble_eq_true rfl) (Nat.le_of_ble_eq_true rfl) (Nat.le_of_ble_eq_true rfl) (Nat.le_of_ble_eq_true rfl) rfl ?_
              refine t_unpackB (p := p) (x := nI (j + 1)) hF t4 (br_hrs n) (fun M5 t5 => ?_)
              show lm_G X (d + 6) 222 106 0 0 117 [some (.ref 64), some (.int (nI p)), some (.int (nI t)), some (.int (nI n)), some (.int (sBr s p)), some (.int z), some (.int (nI (j + 1)))] [] (lm_T M5 v G) Q
              refine lm_G_sg 1 (pc' := 120) (L' := [some (.ref 64), some (.int (nI p)), some (.int (nI t)), some (.int (nI n)), some (.int (sBr s p)), some (.int z), some (.int ((nI (j + 1)) + 1))]) (S' := []) (σ' := lm_T M5 v G) rfl trivial ?_
              rw [nI_1]
              refine lm_G_sg 1 (pc' := 68) (L' := [some (.ref 64), some (.int (nI p)), some (.int (nI t)), some (.int (nI n)), some (.int (sBr s p)), some (.int z), some (.int (nI ((j + 1) + 1)))]) (S' := []) (σ' := lm_T M5 v G) rfl trivial ?_
              exact ih _ _ _ (⟨Or.inl ⟨Classical.not_not.mp h5, by rw [fst_nx ei, show (fBre F s p t n) j = false from decide_eq_false h6]; rfl⟩, t5⟩)
            ·
              refine lm_G_sg 6 (pc' := 114) (L' := [some (.ref 64), some (.int (nI p)), some (.int (nI t)), some (.int (nI n)), some (.int (sBr s p)), some (.int (nI (j + 1))), some (.int (nI (j + 1)))]) (S' := [.int 0, .ref 90, .ref 64]) (σ' := lm_T M4 v G) rfl trivial ?_
              refine lm_G_ca (j := 178) (as := [.ref 64, .ref 90, .int 0]) (rest := []) rfl (Or.inl rfl) (Nat.le_of_ble_eq_true rfl) (Nat.le_of_ble_eq_true rfl) (Nat.le_of_ble_eq_true rfl) (Nat.le_of_ble_eq_true rfl) rfl ?_
              refine t_unpackB (p := p) (x := nI (j + 1)) hF t4 (br_hrs n) (fun M5 t5 => ?_)
              show lm_G X (d + 6) 222 106 0 0 117 [some (.ref 64), some (.int (nI p)), some (.int (nI t)), some (.int (nI n)), some (.int (sBr s p)), some (.int (nI (j + 1))), some (.int (nI (j + 1)))] [] (lm_T M5 v G) Q
              refine lm_G_sg 1 (pc' := 120) (L' := [some (.ref 64), some (.int (nI p)), some (.int (nI t)), some (.int (nI n)), some (.int (sBr s p)), some (.int (nI (j + 1))), some (.int ((nI (j + 1)) + 1))]) (S' := []) (σ' := lm_T M5 v G) rfl trivial ?_
              rw [nI_1]
              refine lm_G_sg 1 (pc' := 68) (L' := [some (.ref 64), some (.int (nI p)), some (.int (nI t)), some (.int (nI n)), some (.int (sBr s p)), some (.int (nI (j + 1))), some (.int (nI ((j + 1) + 1)))]) (S' := []) (σ' := lm_T M5 v G) rfl trivial ?_
              exact ih _ _ _ (⟨Or.inr ⟨nI_m1 (by omega), (f1_some (n := 20) (f := (fBre F s p t n)) ((fst_nx ei).trans (if_pos (decide_eq_true (Classical.not_not.mp h6)))) (by omega)).symm⟩, t5⟩)
        ·
          obtain ⟨M2, z, y⟩ := zz
          replace hI : (z = -1 ∧ fstS (fBre F s p t n) 20 = none ∨ ¬ z = -1 ∧ z = fi1 (fBre F s p t n) 20) ∧ TM M F s M2 (brS s p y) := hI
          show lm_G X (d + 6) 222 106 0 0 68 [some (.ref 64), some (.int (nI p)), some (.int (nI t)), some (.int (nI n)), some (.int (sBr s p)), some (.int z), some (.int (nI (20 + 1)))] [] (lm_T M2 v G) Q
          obtain ⟨i1, t2⟩ := hI
          refine lm_G_sg 2 (pc' := 72) (L' := [some (.ref 64), some (.int (nI p)), some (.int (nI t)), some (.int (nI n)), some (.int (sBr s p)), some (.int z), some (.int (nI (20 + 1)))]) (S' := [.int 20, .int (nI (20 + 1))]) (σ' := lm_T M2 v G) rfl trivial ?_
          refine lm_G_br (b := 20 < (nI (20 + 1))) (t := 123) (S' := []) rfl (fun hc => ?_) (fun hc => absurd (nI_lt (a := 20) (by omega) (by omega)) hc)
          refine lm_G_jk (L := [some (.ref 64), some (.int (nI p)), some (.int (nI t)), some (.int (nI n)), some (.int (sBr s p)), some (.int z), none]) ⟨rfl, rfl, rfl, rfl, rfl, rfl, trivial⟩ ?_
          exact fin _ _ _ t2 (by rcases i1 with ⟨q, w⟩ | ⟨_, w⟩; exact q.trans (f1_none w).symm; exact w)
        ·
          try dsimp only
          exact ⟨Or.inl ⟨rfl, rfl⟩, by rw [br_self]; exact t1⟩
set_option maxRecDepth 10000 in
theorem m_ownsIn {X : lm_X} {d v : Nat} {M : Nat → Nat → Int32} {G : Nat → Nat → Int64} {Q : lm_O → lm_S → Prop} {F : Fa} {s S : Sc} {lf : Nat → Bool} {x : Int32} {n : Nat} (hF : okF F) (h : RM M F S) (hs : okS F S) (eb : sBr S = sBr s) (hv : SavM (M 90) 0 F s) (hl : ∀ p, p < fN F → bitW (M 64 42) p = lf p) (hn2 : n < 2 ^ 31) (hQ : ∀ M1, RM M1 F s → FrS M M1 → Q (.inl (some (.int (ownN F lf S x n)))) (lm_T M1 v G)) : lm_Q X (d + 6) 221 [.ref 64, .int x, .int (nI n)] (lm_T M v G) Q := by
  have hn := hF.n
  have hm := hF.m
  show lm_G X (d + 6) 221 106 0 0 0 [some (.ref 64), some (.int x), some (.int (nI n)), none] [] (lm_T M v G) Q
  refine lm_G_sg 2 (pc' := 2) (L' := [some (.ref 64), some (.int x), some (.int (nI n)), none]) (S' := [.int (nI n), .ref 64]) (σ' := lm_T M v G) rfl trivial ?_
  refine lm_G_ca (j := 194) (as := [.ref 64, .int (nI n)]) (rest := []) rfl (Or.inl rfl) (Nat.le_of_ble_eq_true rfl) (Nat.le_of_ble_eq_true rfl) (Nat.le_of_ble_eq_true rfl) (Nat.le_of_ble_eq_true rfl) rfl ?_
  refine m_goOn (lf := lf) hF h hs hl hn2 (fun M1 h1 k1 e1 => ?_)
  show lm_G X (d + 6) 221 106 0 0 5 [some (.ref 64), some (.int x), some (.int (nI n)), none] [] (lm_T M1 v G) Q
  refine lm_G_sg 2 (pc' := 7) (L' := [some (.ref 64), some (.int x), some (.int (nI n)), none]) (S' := [.int x, .ref 64]) (σ' := lm_T M1 v G) rfl trivial ?_
  refine lm_G_ca (j := 183) (as := [.ref 64, .int x]) (rest := []) rfl (Or.inl rfl) (Nat.le_of_ble_eq_true rfl) (Nat.le_of_ble_eq_true rfl) (Nat.le_of_ble_eq_true rfl) (Nat.le_of_ble_eq_true rfl) rfl ?_
  refine m_ownedBy hF h1 ?_
  show lm_G X (d + 6) 221 106 0 0 10 [some (.ref 64), some (.int x), some (.int (nI n)), none] [.int (ownS F (sOw (hrsS F lf S n)) x)] (lm_T M1 v G) Q
  refine lm_G_ca (j := 144) (as := [.int (ownS F (sOw (hrsS F lf S n)) x)]) (rest := []) rfl (Or.inl rfl) (Nat.le_of_ble_eq_true rfl) (Nat.le_of_ble_eq_true rfl) (Nat.le_of_ble_eq_true rfl) (Nat.le_of_ble_eq_true rfl) rfl ?_
  refine m_bits (own_lt hF _ _) ?_
  show lm_G X (d + 6) 221 106 0 0 13 [some (.ref 64), some (.int x), some (.int (nI n)), none] [.int (ownN F lf S x n)] (lm_T M1 v G) Q
  refine lm_G_sg 5 (pc' := 20) (L' := [some (.ref 64), some (.int x), some (.int (nI n)), some (.int (ownN F lf S x n))]) (S' := [.int 0, .ref 90, .ref 64]) (σ' := lm_T M1 v G) rfl trivial ?_
  refine lm_G_ca (j := 178) (as := [.ref 64, .ref 90, .int 0]) (rest := []) rfl (Or.inl rfl) (Nat.le_of_ble_eq_true rfl) (Nat.le_of_ble_eq_true rfl) (Nat.le_of_ble_eq_true rfl) (Nat.le_of_ble_eq_true rfl) rfl ?_
  refine m_unpack90 (s := s) (a := 0) hF h1.1 (by rw [← eb, ← br_hrs (F := F) (lf := lf) n]; exact h1.br) (by rw [k1.1 90 rfl]; exact hv) (by omega) (fun M2 h2 k2 => ?_)
  show lm_G X (d + 6) 221 106 0 0 23 [some (.ref 64), some (.int x), some (.int (nI n)), some (.int (ownN F lf S x n))] [] (lm_T M2 v G) Q
  refine lm_G_sg 1 (pc' := 24) (L' := [some (.ref 64), some (.int x), some (.int (nI n)), some (.int (ownN F lf S x n))]) (S' := [.int (ownN F lf S x n)]) (σ' := lm_T M2 v G) rfl trivial ?_
  exact lm_G_re rfl trivial (Nat.zero_le _) (Nat.zero_le _) (hQ _ h2 (FrS_tr (FrS_M k1) (FrS_U k2)))
theorem t_ownsIn {X : lm_X} {d v : Nat} {M M0 : Nat → Fn} {G : Nat → Nat → Int64} {Q : lm_O → lm_S → Prop} {F : Fa} {s S : Sc} {x : Int32} {n : Nat} (hF : okF F) (t : TM M0 F s M S) (hs : okS F S) (eb : sBr S = sBr s) (hn2 : n < 2 ^ 31) (hQ : ∀ M1, TM M0 F s M1 s → Q (.inl (some (.int (ownN F nl S x n)))) (lm_T M1 v G)) : lm_Q X (d + 6) 221 [.ref 64, .int x, .int (nI n)] (lm_T M v G) Q :=
  m_ownsIn (lf := nl) hF t.1 hs eb t.2.2.1 (fun _ hp => nl_M hF.n hp t.2.2.2.2) hn2 (fun M1 h1 k1 => hQ M1 (TM_S t k1 h1))
set_option maxRecDepth 10000 in
theorem c_toStand {X : lm_X} {d v : Nat} {M : Nat → Nat → Int32} {G : Nat → Nat → Int64} {Q : lm_O → lm_S → Prop} {F : Fa} {s : Sc} {x z w : Int32} (hF : okF F) (h : RC 28 M F s) (hs : okS F s) (hl : M 28 12 = -1) (hQ : ∀ M1, Fr frQ M M1 → Q (cO (aSta F s x z w)) (lm_T M1 v G)) : lm_Q X (d + 7) 109 [.ref 0, .int x, .int z, .int w] (lm_T M v G) Q := by
  have hn := hF.n
  have hm := hF.m
  show lm_G X (d + 7) 109 106 0 0 0 [some (.ref 0), some (.int x), some (.int z), some (.int w), none, none, none, none] [] (lm_T M v G) Q
  refine lm_G_sg 2 (pc' := 2) (L' := [some (.ref 0), some (.int x), some (.int z), some (.int w), none, none, none, none]) (S' := [.int x, .ref 0]) (σ' := lm_T M v G) rfl trivial ?_
  refine lm_G_ca (j := 133) (as := [.ref 0, .int x]) (rest := []) rfl (Or.inl rfl) (Nat.le_of_ble_eq_true rfl) (Nat.le_of_ble_eq_true rfl) (Nat.le_of_ble_eq_true rfl) (Nat.le_of_ble_eq_true rfl) rfl ?_
  refine c_isPerson hF h ?_
  show lm_G X (d + 7) 109 106 0 0 5 [some (.ref 0), some (.int x), some (.int z), some (.int w), none, none, none, none] [.int (b2i (isP (fN F) x))] (lm_T M v G) Q
  refine lm_G_br (b := (b2i (isP (fN F) x)) = 0) (t := 20) (S' := []) rfl (fun hx => ?_) (fun hx => ?_)
  ·
    replace hx := b2i_0 hx
    refine lm_G_sg 1 (pc' := 21) (L' := [some (.ref 0), some (.int x), some (.int z), some (.int w), none, none, none, none]) (S' := [.int 0]) (σ' := lm_T M v G) rfl trivial ?_
    rw [show aSta F s x z w = .inr false from by simp +decide only [aSta, hx, if_true, if_false, Bool.and_true, Bool.true_and, Bool.and_self, Bool.false_and, Bool.and_false, Bool.false_eq_true]] at hQ
    refine lm_G_ca (j := 137) (as := [.int 0]) (rest := []) rfl (Or.inl rfl) (Nat.le_of_ble_eq_true rfl) (Nat.le_of_ble_eq_true rfl) (Nat.le_of_ble_eq_true rfl) (Nat.le_of_ble_eq_true rfl) rfl ?_
    exact c_mustExistF ⟨by decide, rfl, hQ M (Fr_rf _ _)⟩
  ·
    replace hx := b2i_1 hx
    refine lm_G_sg 2 (pc' := 10) (L' := [some (.ref 0), some (.int x), some (.int z), some (.int w), none, none, none, none]) (S' := [.int 2, .int w]) (σ' := lm_T M v G) rfl trivial ?_
    refine lm_G_ca (j := 135) (as := [.int w, .int 2]) (rest := []) rfl (Or.inl rfl) (Nat.le_of_ble_eq_true rfl) (Nat.le_of_ble_eq_true rfl) (Nat.le_of_ble_eq_true rfl) (Nat.le_of_ble_eq_true rfl) rfl ?_
    refine c_isWhat (n := 2) (by omega) ?_
    show lm_G X (d + 7) 109 106 0 0 13 [some (.ref 0), some (.int x), some (.int z), some (.int w), none, none, none, none] [.int (b2i (isP 2 w))] (lm_T M v G) Q
    refine lm_G_br (b := (b2i (isP 2 w)) = 0) (t := 20) (S' := []) rfl (fun hw => ?_) (fun hw => ?_)
    ·
      replace hw := b2i_0 hw
      refine lm_G_sg 1 (pc' := 21) (L' := [some (.ref 0), some (.int x), some (.int z), some (.int w), none, none, none, none]) (S' := [.int 0]) (σ' := lm_T M v G) rfl trivial ?_
      rw [show aSta F s x z w = .inr false from by simp +decide only [aSta, hw, hx, if_true, if_false, Bool.and_true, Bool.true_and, Bool.and_self, Bool.false_and, Bool.and_false, Bool.false_eq_true]] at hQ
      refine lm_G_ca (j := 137) (as := [.int 0]) (rest := []) rfl (Or.inl rfl) (Nat.le_of_ble_eq_true rfl) (Nat.le_of_ble_eq_true rfl) (Nat.le_of_ble_eq_true rfl) (Nat.le_of_ble_eq_true rfl) rfl ?_
      exact c_mustExistF ⟨by decide, rfl, hQ M (Fr_rf _ _)⟩
    ·
      replace hw := b2i_1 hw
      refine lm_G_sg 2 (pc' := 21) (L' := [some (.ref 0), some (.int x), some (.int z), some (.int w), none, none, none, none]) (S' := [.int 1]) (σ' := lm_T M v G) rfl trivial ?_
      refine lm_G_ca (j := 137) (as := [.int 1]) (rest := []) rfl (Or.inl rfl) (Nat.le_of_ble_eq_true rfl) (Nat.le_of_ble_eq_true rfl) (Nat.le_of_ble_eq_true rfl) (Nat.le_of_ble_eq_true rfl) rfl ?_
      refine c_mustExistT ?_
      show lm_G X (d + 7) 109 106 1 6 24 [some (.ref 0), some (.int x), some (.int z), some (.int w), none, none, none, none] [] (lm_T M v G) Q
      refine lm_G_sg 3 (pc' := 28) (L' := [some (.ref 0), some (.int x), some (.int z), some (.int w), none, none, none, none]) (S' := [.int 60, .int 1, .int z]) (σ' := lm_T M v G) rfl trivial ?_
      refine lm_G_ca (j := 136) (as := [.int z, .int 1, .int 60]) (rest := []) rfl (Or.inl rfl) (Nat.le_of_ble_eq_true rfl) (Nat.le_of_ble_eq_true rfl) (Nat.le_of_ble_eq_true rfl) (Nat.le_of_ble_eq_true rfl) rfl ?_
      refine c_isWithin ?_
      show lm_G X (d + 7) 109 106 1 6 31 [some (.ref 0), some (.int x), some (.int z), some (.int w), none, none, none, none] [.int (b2i (inR z 1 60))] (lm_T M v G) Q
      rcases Bool.eq_false_or_eq_true (inR z 1 60) with hz | hz
      rotate_left
      ·
        rw [hz]
        show lm_G X (d + 7) 109 106 1 6 31 [some (.ref 0), some (.int x), some (.int z), some (.int w), none, none, none, none] [.int 0] (lm_T M v G) Q
        rw [show aSta F s x z w = .inr true from by simp +decide only [aSta, hz, hx, hw, if_true, if_false, Bool.and_true, Bool.true_and, Bool.and_self, Bool.false_and, Bool.and_false, Bool.false_eq_true]] at hQ
        refine lm_G_ca (j := 138) (as := [.int 0]) (rest := []) rfl (Or.inl rfl) (Nat.le_of_ble_eq_true rfl) (Nat.le_of_ble_eq_true rfl) (Nat.le_of_ble_eq_true rfl) (Nat.le_of_ble_eq_true rfl) rfl ?_
        exact c_mustFitF ⟨by decide, rfl, hQ M (Fr_rf _ _)⟩
      ·
        rw [hz]
        show lm_G X (d + 7) 109 106 1 6 31 [some (.ref 0), some (.int x), some (.int z), some (.int w), none, none, none, none] [.int 1] (lm_T M v G) Q
        refine lm_G_ca (j := 138) (as := [.int 1]) (rest := []) rfl (Or.inl rfl) (Nat.le_of_ble_eq_true rfl) (Nat.le_of_ble_eq_true rfl) (Nat.le_of_ble_eq_true rfl) (Nat.le_of_ble_eq_true rfl) rfl ?_
        refine c_mustFitT ?_
        show lm_G X (d + 7) 109 106 2 12 34 [some (.ref 0), some (.int x), some (.int z), some (.int w), none, none, none, none] [] (lm_T M v G) Q
        obtain ⟨p, hp, rfl⟩ := isP_nI hx (by omega)
        have cp : (nI p).toNatClampNeg = p := nI_clamp (by omega)
        obtain ⟨n, gn, hn, rfl⟩ := inR_nI1 (n := 60) (by decide) hz
        have cn : (nI n).toNatClampNeg = n := nI_clamp (by omega)
        refine lm_G_sg 6 (pc' := 43) (L' := [some (.ref 0), some (.int (nI p)), some (.int (nI n)), some (.int w), some (.int (-1)), some (.int (-1)), some (.int 0), none]) (S' := []) (σ' := lm_T M v G) rfl trivial ?_
        refine lm_ind (α := (Nat → Fn)) (St := fun (j : Nat) zz => (fun (M1 : Nat → Fn) => lm_G X (d + 7) 109 106 2 12 43 [some (.ref 0), some (.int (nI p)), some (.int (nI n)), some (.int w), some (.int ((mxS al (fSta F s p n) nI (-1) j).1)), some (.int ((mxS al (fSta F s p n) nI (-1) j).2)), some (.int (nI j)), none] [] (lm_T M1 v G) Q) zz) (Inv := fun (j : Nat) zz => (fun (M1 : Nat → Fn) => Fr frQ M M1) zz) (31) (fun j zz hj hI ih => ?_) (fun zz hI => ?_) (0) M (by omega) ?_
        ·
          revert ih hI
          revert zz
          intro M1 hI ih
          replace hI : Fr frQ M M1 := hI
          replace ih : ∀ (M1 : Nat → Fn) (_ : Fr frQ M M1), lm_G X (d + 7) 109 106 2 12 43 [some (.ref 0), some (.int (nI p)), some (.int (nI n)), some (.int w), some (.int ((mxS al (fSta F s p n) nI (-1) (j + 1)).1)), some (.int ((mxS al (fSta F s p n) nI (-1) (j + 1)).2)), some (.int (nI (j + 1))), none] [] (lm_T M1 v G) Q := fun M1 q => ih M1 q
          show lm_G X (d + 7) 109 106 2 12 43 [some (.ref 0), some (.int (nI p)), some (.int (nI n)), some (.int w), some (.int ((mxS al (fSta F s p n) nI (-1) j).1)), some (.int ((mxS al (fSta F s p n) nI (-1) j).2)), some (.int (nI j)), none] [] (lm_T M1 v G) Q
          refine lm_G_sg 2 (pc' := 47) (L' := [some (.ref 0), some (.int (nI p)), some (.int (nI n)), some (.int w), some (.int ((mxS al (fSta F s p n) nI (-1) j).1)), some (.int ((mxS al (fSta F s p n) nI (-1) j).2)), some (.int (nI j)), none]) (S' := [.int 30, .int (nI j)]) (σ' := lm_T M1 v G) rfl trivial ?_
          refine lm_G_br (b := 30 < (nI j)) (t := 96) (S' := []) rfl (fun hc => absurd hc (nI_nlt (a := 30) (by omega) (by omega))) (fun hc => ?_)
          refine lm_G_sg 1 (pc' := 51) (L' := [some (.ref 0), some (.int (nI p)), some (.int (nI n)), some (.int w), some (.int ((mxS al (fSta F s p n) nI (-1) j).1)), some (.int ((mxS al (fSta F s p n) nI (-1) j).2)), some (.int (nI j)), none]) (S' := [.ref 0]) (σ' := lm_T M1 v G) rfl trivial ?_
          refine lm_G_ca (j := 132) (as := [.ref 0]) (rest := []) rfl (Or.inl rfl) (Nat.le_of_ble_eq_true rfl) (Nat.le_of_ble_eq_true rfl) (Nat.le_of_ble_eq_true rfl) (Nat.le_of_ble_eq_true rfl) rfl ?_
          refine u_start hF h hI hl (fun M2 t2 e2 => ?_)
          show lm_G X (d + 7) 109 106 2 12 54 [some (.ref 0), some (.int (nI p)), some (.int (nI n)), some (.int w), some (.int ((mxS al (fSta F s p n) nI (-1) j).1)), some (.int ((mxS al (fSta F s p n) nI (-1) j).2)), some (.int (nI j)), none] [] (lm_T M2 v G) Q
          refine lm_G_sg 4 (pc' := 61) (L' := [some (.ref 0), some (.int (nI p)), some (.int (nI n)), some (.int w), some (.int ((mxS al (fSta F s p n) nI (-1) j).1)), some (.int ((mxS al (fSta F s p n) nI (-1) j).2)), some (.int (nI j)), none]) (S' := [.int (nI j), .int (nI p), .ref 38]) (σ' := lm_T M2 v G) rfl trivial ?_
          refine lm_G_ca (j := 64) (as := [.ref 38, .int (nI p), .int (nI j)]) (rest := []) rfl (Or.inl rfl) (Nat.le_of_ble_eq_true rfl) (Nat.le_of_ble_eq_true rfl) (Nat.le_of_ble_eq_true rfl) (Nat.le_of_ble_eq_true rfl) rfl ?_
          refine u_putAt hF t2 hp (fun M3 t3 e3 => ?_)
          show lm_G X (d + 7) 109 106 2 12 64 [some (.ref 0), some (.int (nI p)), some (.int (nI n)), some (.int w), some (.int ((mxS al (fSta F s p n) nI (-1) j).1)), some (.int ((mxS al (fSta F s p n) nI (-1) j).2)), some (.int (nI j)), none] [] (lm_T M3 v G) Q
          refine lm_G_sg 4 (pc' := 70) (L' := [some (.ref 0), some (.int (nI p)), some (.int (nI n)), some (.int w), some (.int ((mxS al (fSta F s p n) nI (-1) j).1)), some (.int ((mxS al (fSta F s p n) nI (-1) j).2)), some (.int (nI j)), none]) (S' := [.int (nI n), .int (nI p), .ref 38]) (σ' := lm_T M3 v G) rfl trivial ?_
          refine lm_G_ca (j := 62) (as := [.ref 38, .int (nI p), .int (nI n)]) (rest := []) rfl (Or.inl rfl) (Nat.le_of_ble_eq_true rfl) (Nat.le_of_ble_eq_true rfl) (Nat.le_of_ble_eq_true rfl) (Nat.le_of_ble_eq_true rfl) rfl ?_
          refine u_behind hF t3 (ok_pl hs p (by omega)) (by omega) (fun M4 t4 => ?_)
          show lm_G X (d + 7) 109 106 2 12 73 [some (.ref 0), some (.int (nI p)), some (.int (nI n)), some (.int w), some (.int ((mxS al (fSta F s p n) nI (-1) j).1)), some (.int ((mxS al (fSta F s p n) nI (-1) j).2)), some (.int (nI j)), none] [.int (fSta F s p n j)] (lm_T M4 v G) Q
          refine lm_G_sg 3 (pc' := 79) (L' := [some (.ref 0), some (.int (nI p)), some (.int (nI n)), some (.int w), some (.int ((mxS al (fSta F s p n) nI (-1) j).1)), some (.int ((mxS al (fSta F s p n) nI (-1) j).2)), some (.int (nI j)), some (.int (fSta F s p n j))]) (S' := [.int ((mxS al (fSta F s p n) nI (-1) j).2), .int (fSta F s p n j)]) (σ' := lm_T M4 v G) rfl trivial ?_
          refine lm_G_br (b := (fSta F s p n j) ≤ ((mxS al (fSta F s p n) nI (-1) j).2)) (t := 90) (S' := []) rfl (fun h5 => ?_) (fun h5 => ?_)
          ·
            refine lm_G_sg 1 (pc' := 93) (L' := [some (.ref 0), some (.int (nI p)), some (.int (nI n)), some (.int w), some (.int ((mxS al (fSta F s p n) nI (-1) j).1)), some (.int ((mxS al (fSta F s p n) nI (-1) j).2)), some (.int ((nI j) + 1)), some (.int (fSta F s p n j))]) (S' := []) (σ' := lm_T M4 v G) rfl trivial ?_
            rw [nI_1]
            refine lm_G_sg 1 (pc' := 43) (L' := [some (.ref 0), some (.int (nI p)), some (.int (nI n)), some (.int w), some (.int ((mxS al (fSta F s p n) nI (-1) j).1)), some (.int ((mxS al (fSta F s p n) nI (-1) j).2)), some (.int (nI (j + 1))), some (.int (fSta F s p n j))]) (S' := []) (σ' := lm_T M4 v G) rfl trivial ?_
            rw [mx_n (f := fSta F s p n) (Int32.not_lt.mpr h5)] at ih
            refine lm_G_jk (L := [some (.ref 0), some (.int (nI p)), some (.int (nI n)), some (.int w), some (.int ((mxS al (fSta F s p n) nI (-1) j).1)), some (.int ((mxS al (fSta F s p n) nI (-1) j).2)), some (.int (nI (j + 1))), none]) ⟨rfl, rfl, rfl, rfl, rfl, rfl, rfl, trivial⟩ ?_
            exact ih _ t4.2.1
          ·
            refine lm_G_sg 5 (pc' := 93) (L' := [some (.ref 0), some (.int (nI p)), some (.int (nI n)), some (.int w), some (.int (nI j)), some (.int (fSta F s p n j)), some (.int ((nI j) + 1)), some (.int (fSta F s p n j))]) (S' := []) (σ' := lm_T M4 v G) rfl trivial ?_
            rw [nI_1]
            refine lm_G_sg 1 (pc' := 43) (L' := [some (.ref 0), some (.int (nI p)), some (.int (nI n)), some (.int w), some (.int (nI j)), some (.int (fSta F s p n j)), some (.int (nI (j + 1))), some (.int (fSta F s p n j))]) (S' := []) (σ' := lm_T M4 v G) rfl trivial ?_
            rw [mx_y (g := al) (f := fSta F s p n) rfl (Int32.not_le.mp h5)] at ih
            refine lm_G_jk (L := [some (.ref 0), some (.int (nI p)), some (.int (nI n)), some (.int w), some (.int (nI j)), some (.int (fSta F s p n j)), some (.int (nI (j + 1))), none]) ⟨rfl, rfl, rfl, rfl, rfl, rfl, rfl, trivial⟩ ?_
            exact ih _ t4.2.1
        ·
          revert hI
          revert zz
          intro M1 hI
          replace hI : Fr frQ M M1 := hI
          show lm_G X (d + 7) 109 106 2 12 43 [some (.ref 0), some (.int (nI p)), some (.int (nI n)), some (.int w), some (.int ((mxS al (fSta F s p n) nI (-1) 31).1)), some (.int ((mxS al (fSta F s p n) nI (-1) 31).2)), some (.int (nI 31)), none] [] (lm_T M1 v G) Q
          refine lm_G_sg 2 (pc' := 47) (L' := [some (.ref 0), some (.int (nI p)), some (.int (nI n)), some (.int w), some (.int ((mxS al (fSta F s p n) nI (-1) 31).1)), some (.int ((mxS al (fSta F s p n) nI (-1) 31).2)), some (.int (nI 31)), none]) (S' := [.int 30, .int (nI 31)]) (σ' := lm_T M1 v G) rfl trivial ?_
          refine lm_G_br (b := 30 < (nI 31)) (t := 96) (S' := []) rfl (fun hc => ?_) (fun hc => absurd (nI_lt (a := 30) (by omega) (by omega)) hc)
          refine lm_G_sg 1 (pc' := 97) (L' := [some (.ref 0), some (.int (nI p)), some (.int (nI n)), some (.int w), some (.int ((mxS al (fSta F s p n) nI (-1) 31).1)), some (.int ((mxS al (fSta F s p n) nI (-1) 31).2)), some (.int (nI 31)), none]) (S' := [.int w]) (σ' := lm_T M1 v G) rfl trivial ?_
          rcases isP_2 hw with rfl | rfl
          ·
            refine lm_G_br (b := ¬ 0 = 0) (t := 105) (S' := []) rfl (fun hc => absurd rfl hc) (fun hc => ?_)
            refine lm_G_sg 2 (pc' := 107) (L' := [some (.ref 0), some (.int (nI p)), some (.int (nI n)), some (.int 0), some (.int ((mxS al (fSta F s p n) nI (-1) 31).1)), some (.int ((mxS al (fSta F s p n) nI (-1) 31).2)), some (.int (nI 31)), none]) (S' := [.int ((mxS al (fSta F s p n) nI (-1) 31).1)]) (σ' := lm_T M1 v G) rfl trivial ?_
            rw [show aSta F s (nI p) (nI n) 0 = .inl (mxS al (fSta F s p n) nI (-1) 31).1 from by simp +decide only [aSta, hx, hw, hz, cp, cn, if_true, if_false, Bool.and_true, Bool.true_and, Bool.and_self, Bool.false_and, Bool.and_false, Bool.false_eq_true]] at hQ
            exact lm_G_re rfl trivial (Nat.le_of_ble_eq_true rfl) (Nat.le_of_ble_eq_true rfl) (hQ _ hI)
          ·
            refine lm_G_br (b := ¬ 1 = 0) (t := 105) (S' := []) rfl (fun hc => ?_) (fun hc => absurd (by decide) hc)
            refine lm_G_sg 1 (pc' := 107) (L' := [some (.ref 0), some (.int (nI p)), some (.int (nI n)), some (.int 1), some (.int ((mxS al (fSta F s p n) nI (-1) 31).1)), some (.int ((mxS al (fSta F s p n) nI (-1) 31).2)), some (.int (nI 31)), none]) (S' := [.int ((mxS al (fSta F s p n) nI (-1) 31).2)]) (σ' := lm_T M1 v G) rfl trivial ?_
            rw [show aSta F s (nI p) (nI n) 1 = .inl (mxS al (fSta F s p n) nI (-1) 31).2 from by simp +decide only [aSta, hx, hw, hz, cp, cn, if_true, if_false, Bool.and_true, Bool.true_and, Bool.and_self, Bool.false_and, Bool.and_false, Bool.false_eq_true]] at hQ
            exact lm_G_re rfl trivial (Nat.le_of_ble_eq_true rfl) (Nat.le_of_ble_eq_true rfl) (hQ _ hI)
        ·
          try dsimp only
          exact Fr_rf _ _
set_option maxRecDepth 10000 in
theorem m_toStand {X : lm_X} {d v : Nat} {M : Nat → Nat → Int32} {G : Nat → Nat → Int64} {Q : lm_O → lm_S → Prop} {F : Fa} {s : Sc} {x z w : Int32} (hF : okF F) (h : RM M F s) (hs : okS F s) (hl : M 64 42 = 0) (hQ : ∀ M1, RM M1 F s → FrN M M1 → M1 64 4 = cd (aSta F s x z w) → Q (.inl (some (.int (vl (aSta F s x z w))))) (lm_T M1 v G)) : lm_Q X (d + 7) 223 [.ref 64, .int x, .int z, .int w] (lm_T M v G) Q := by
  have hn := hF.n
  have hm := hF.m
  show lm_G X (d + 7) 223 106 0 0 0 [some (.ref 64), some (.int x), some (.int z), some (.int w), none, none, none, none] [] (lm_T M v G) Q
  refine lm_G_sg 3 (pc' := 5) (L' := [some (.ref 64), some (.int x), some (.int z), some (.int w), none, none, none, none]) (S' := []) (σ' := lm_T (lm_wr M 64 4 0) v G) rfl ⟨trivial, trivial, trivial⟩ ?_
  have h0 : RM (lm_wr M 64 4 0) F s := RM_taken h 4 (by decide) 0
  have f0 : FrN M (lm_wr M 64 4 0) := FrN_w64 (FrN_rf _) (by decide)
  have c0 : (lm_wr M 64 4 0) 64 4 = 0 := wr_same
  have l0 : (lm_wr M 64 4 0) 64 42 = 0 := (wr_at (by decide)).trans hl
  revert h0 f0 c0 l0
  generalize lm_wr M 64 4 0 = M0
  intro h0 f0 c0 l0
  refine lm_G_sg 2 (pc' := 7) (L' := [some (.ref 64), some (.int x), some (.int z), some (.int w), none, none, none, none]) (S' := [.int x, .ref 64]) (σ' := lm_T M0 v G) rfl trivial ?_
  refine lm_G_ca (j := 145) (as := [.ref 64, .int x]) (rest := []) rfl (Or.inl rfl) (Nat.le_of_ble_eq_true rfl) (Nat.le_of_ble_eq_true rfl) (Nat.le_of_ble_eq_true rfl) (Nat.le_of_ble_eq_true rfl) rfl ?_
  refine m_isPerson hF h0 ?_
  show lm_G X (d + 7) 223 106 0 0 10 [some (.ref 64), some (.int x), some (.int z), some (.int w), none, none, none, none] [.int (b2i (isP (fN F) x))] (lm_T M0 v G) Q
  refine lm_G_br (b := (b2i (isP (fN F) x)) = 0) (t := 23) (S' := []) rfl (fun hx => ?_) (fun hx => ?_)
  ·
    replace hx := b2i_0 hx
    refine lm_G_sg 2 (pc' := 25) (L' := [some (.ref 64), some (.int x), some (.int z), some (.int w), none, none, none, none]) (S' := [.int 1, .ref 64]) (σ' := lm_T M0 v G) rfl trivial ?_
    refine lm_G_ca (j := 141) (as := [.ref 64, .int 1]) (rest := []) rfl (Or.inl rfl) (Nat.le_of_ble_eq_true rfl) (Nat.le_of_ble_eq_true rfl) (Nat.le_of_ble_eq_true rfl) (Nat.le_of_ble_eq_true rfl) rfl ?_
    refine m_fail ?_
    show lm_G X (d + 7) 223 106 0 0 28 [some (.ref 64), some (.int x), some (.int z), some (.int w), none, none, none, none] [.int 0] (lm_T (lm_wr M0 64 4 1) v G) Q
    rw [show aSta F s x z w = .inr false from by simp +decide only [aSta, hx, if_true, if_false, Bool.and_true, Bool.true_and, Bool.and_self, Bool.false_and, Bool.and_false, Bool.false_eq_true]] at hQ
    exact lm_G_re rfl trivial (Nat.zero_le _) (Nat.zero_le _) (hQ _ (RM_taken h0 4 (by decide) 1) (FrN_w64 f0 (by decide)) wr_same)
  ·
    replace hx := b2i_1 hx
    refine lm_G_sg 4 (pc' := 17) (L' := [some (.ref 64), some (.int x), some (.int z), some (.int w), none, none, none, none]) (S' := [.long 1, .long 0, .long w.toInt64]) (σ' := lm_T M0 v G) rfl trivial ?_
    refine lm_G_ca (j := 142) (as := [.long w.toInt64, .long 0, .long 1]) (rest := []) rfl (Or.inl rfl) (Nat.le_of_ble_eq_true rfl) (Nat.le_of_ble_eq_true rfl) (Nat.le_of_ble_eq_true rfl) (Nat.le_of_ble_eq_true rfl) rfl ?_
    refine c_isIn ?_
    show lm_G X (d + 7) 223 106 0 0 20 [some (.ref 64), some (.int x), some (.int z), some (.int w), none, none, none, none] [.int (b2i (inL (w.toInt64) 0 1))] (lm_T M0 v G) Q
    rw [show inL (w.toInt64) 0 1 = isP 2 w from inL_1 _]
    refine lm_G_br (b := ¬ (b2i (isP 2 w)) = 0) (t := 29) (S' := []) rfl (fun hw => ?_) (fun hw => ?_)
    rotate_left
    ·
      replace hw := b2i_0 (Classical.not_not.mp hw)
      refine lm_G_sg 2 (pc' := 25) (L' := [some (.ref 64), some (.int x), some (.int z), some (.int w), none, none, none, none]) (S' := [.int 1, .ref 64]) (σ' := lm_T M0 v G) rfl trivial ?_
      refine lm_G_ca (j := 141) (as := [.ref 64, .int 1]) (rest := []) rfl (Or.inl rfl) (Nat.le_of_ble_eq_true rfl) (Nat.le_of_ble_eq_true rfl) (Nat.le_of_ble_eq_true rfl) (Nat.le_of_ble_eq_true rfl) rfl ?_
      refine m_fail ?_
      show lm_G X (d + 7) 223 106 0 0 28 [some (.ref 64), some (.int x), some (.int z), some (.int w), none, none, none, none] [.int 0] (lm_T (lm_wr M0 64 4 1) v G) Q
      rw [show aSta F s x z w = .inr false from by simp +decide only [aSta, hw, hx, if_true, if_false, Bool.and_true, Bool.true_and, Bool.and_self, Bool.false_and, Bool.and_false, Bool.false_eq_true]] at hQ
      exact lm_G_re rfl trivial (Nat.zero_le _) (Nat.zero_le _) (hQ _ (RM_taken h0 4 (by decide) 1) (FrN_w64 f0 (by decide)) wr_same)
    ·
      replace hw := b2i_1 hw
      refine lm_G_sg 4 (pc' := 35) (L' := [some (.ref 64), some (.int x), some (.int z), some (.int w), none, none, none, none]) (S' := [.long 60, .long 1, .long z.toInt64]) (σ' := lm_T M0 v G) rfl trivial ?_
      refine lm_G_ca (j := 142) (as := [.long z.toInt64, .long 1, .long 60]) (rest := []) rfl (Or.inl rfl) (Nat.le_of_ble_eq_true rfl) (Nat.le_of_ble_eq_true rfl) (Nat.le_of_ble_eq_true rfl) (Nat.le_of_ble_eq_true rfl) rfl ?_
      refine c_isIn ?_
      show lm_G X (d + 7) 223 106 0 0 38 [some (.ref 64), some (.int x), some (.int z), some (.int w), none, none, none, none] [.int (b2i (inL (z.toInt64) 1 60))] (lm_T M0 v G) Q
      rw [show inL (z.toInt64) 1 60 = inR z 1 60 from (inL_R z 1 60)]
      refine lm_G_br (b := ¬ (b2i (inR z 1 60)) = 0) (t := 47) (S' := []) rfl (fun hz => ?_) (fun hz => ?_)
      rotate_left
      ·
        replace hz := b2i_0 (Classical.not_not.mp hz)
        refine lm_G_sg 2 (pc' := 43) (L' := [some (.ref 64), some (.int x), some (.int z), some (.int w), none, none, none, none]) (S' := [.int 2, .ref 64]) (σ' := lm_T M0 v G) rfl trivial ?_
        refine lm_G_ca (j := 141) (as := [.ref 64, .int 2]) (rest := []) rfl (Or.inl rfl) (Nat.le_of_ble_eq_true rfl) (Nat.le_of_ble_eq_true rfl) (Nat.le_of_ble_eq_true rfl) (Nat.le_of_ble_eq_true rfl) rfl ?_
        refine m_fail ?_
        show lm_G X (d + 7) 223 106 0 0 46 [some (.ref 64), some (.int x), some (.int z), some (.int w), none, none, none, none] [.int 0] (lm_T (lm_wr M0 64 4 2) v G) Q
        rw [show aSta F s x z w = .inr true from by simp +decide only [aSta, hz, hx, hw, if_true, if_false, Bool.and_true, Bool.true_and, Bool.and_self, Bool.false_and, Bool.and_false, Bool.false_eq_true]] at hQ
        exact lm_G_re rfl trivial (Nat.zero_le _) (Nat.zero_le _) (hQ _ (RM_taken h0 4 (by decide) 2) (FrN_w64 f0 (by decide)) wr_same)
      ·
        replace hz := b2i_1 hz
        obtain ⟨p, hp, rfl⟩ := isP_nI hx (by omega)
        have cp : (nI p).toNatClampNeg = p := nI_clamp (by omega)
        obtain ⟨n, gn, hn, rfl⟩ := inR_nI1 (n := 60) (by decide) hz
        have cn : (nI n).toNatClampNeg = n := nI_clamp (by omega)
        refine lm_G_sg 4 (pc' := 53) (L' := [some (.ref 64), some (.int (nI p)), some (.int (nI n)), some (.int w), none, none, none, none]) (S' := [.int 0, .ref 90, .ref 64]) (σ' := lm_T M0 v G) rfl trivial ?_
        refine lm_G_ca (j := 177) (as := [.ref 64, .ref 90, .int 0]) (rest := []) rfl (Or.inl rfl) (Nat.le_of_ble_eq_true rfl) (Nat.le_of_ble_eq_true rfl) (Nat.le_of_ble_eq_true rfl) (Nat.le_of_ble_eq_true rfl) rfl ?_
        refine t_pack hF h0 f0 c0 l0 (fun M1 t1 => ?_)
        show lm_G X (d + 7) 223 106 0 0 56 [some (.ref 64), some (.int (nI p)), some (.int (nI n)), some (.int w), none, none, none, none] [] (lm_T M1 v G) Q
        refine lm_G_sg 6 (pc' := 65) (L' := [some (.ref 64), some (.int (nI p)), some (.int (nI n)), some (.int w), some (.int (-1)), some (.int (-1)), some (.int 0), none]) (S' := []) (σ' := lm_T M1 v G) rfl trivial ?_
        refine lm_ind (α := (Nat → Fn)) (St := fun (j : Nat) zz => (fun (M2 : Nat → Fn) => lm_G X (d + 7) 223 106 0 0 65 [some (.ref 64), some (.int (nI p)), some (.int (nI n)), some (.int w), some (.int ((mxS al (fSta F s p n) nI (-1) j).1)), some (.int ((mxS al (fSta F s p n) nI (-1) j).2)), some (.int (nI j)), none] [] (lm_T M2 v G) Q) zz) (Inv := fun (j : Nat) zz => (fun (M2 : Nat → Fn) => TM M F s M2 s) zz) (31) (fun j zz hj hI ih => ?_) (fun zz hI => ?_) (0) M1 (by omega) ?_
        ·
          revert ih hI
          revert zz
          intro M2 hI ih
          replace hI : TM M F s M2 s := hI
          replace ih : ∀ (M2 : Nat → Fn) (_ : TM M F s M2 s), lm_G X (d + 7) 223 106 0 0 65 [some (.ref 64), some (.int (nI p)), some (.int (nI n)), some (.int w), some (.int ((mxS al (fSta F s p n) nI (-1) (j + 1)).1)), some (.int ((mxS al (fSta F s p n) nI (-1) (j + 1)).2)), some (.int (nI (j + 1))), none] [] (lm_T M2 v G) Q := fun M2 q => ih M2 q
          show lm_G X (d + 7) 223 106 0 0 65 [some (.ref 64), some (.int (nI p)), some (.int (nI n)), some (.int w), some (.int ((mxS al (fSta F s p n) nI (-1) j).1)), some (.int ((mxS al (fSta F s p n) nI (-1) j).2)), some (.int (nI j)), none] [] (lm_T M2 v G) Q
          refine lm_G_sg 2 (pc' := 69) (L' := [some (.ref 64), some (.int (nI p)), some (.int (nI n)), some (.int w), some (.int ((mxS al (fSta F s p n) nI (-1) j).1)), some (.int ((mxS al (fSta F s p n) nI (-1) j).2)), some (.int (nI j)), none]) (S' := [.int 30, .int (nI j)]) (σ' := lm_T M2 v G) rfl trivial ?_
          refine lm_G_br (b := 30 < (nI j)) (t := 112) (S' := []) rfl (fun hc => absurd hc (nI_nlt (a := 30) (by omega) (by omega))) (fun hc => ?_)
          refine lm_G_sg 5 (pc' := 80) (L' := [some (.ref 64), some (.int (nI p)), some (.int (nI n)), some (.int w), some (.int ((mxS al (fSta F s p n) nI (-1) j).1)), some (.int ((mxS al (fSta F s p n) nI (-1) j).2)), some (.int (nI j)), none]) (S' := []) (σ' := lm_T (lm_wr M2 85 ((nI p).toNatClampNeg) (nI j)) v G) rfl ⟨(vp_in_nI (by omega) (by omega)), trivial, trivial⟩ ?_
          rw [show (nI p).toNatClampNeg = p from nI_clamp (by omega)]
          have t3 : TM M F s (lm_wr M2 85 p (nI j)) (plS s p (nI j)) := TM_pl hI p (nI j)
          revert t3
          generalize lm_wr M2 85 p (nI j) = M3
          intro t3
          refine lm_G_sg 3 (pc' := 83) (L' := [some (.ref 64), some (.int (nI p)), some (.int (nI n)), some (.int w), some (.int ((mxS al (fSta F s p n) nI (-1) j).1)), some (.int ((mxS al (fSta F s p n) nI (-1) j).2)), some (.int (nI j)), none]) (S' := [.int (nI n), .int (nI p), .ref 64]) (σ' := lm_T M3 v G) rfl trivial ?_
          refine lm_G_ca (j := 221) (as := [.ref 64, .int (nI p), .int (nI n)]) (rest := []) rfl (Or.inl rfl) (Nat.le_of_ble_eq_true rfl) (Nat.le_of_ble_eq_true rfl) (Nat.le_of_ble_eq_true rfl) (Nat.le_of_ble_eq_true rfl) rfl ?_
          refine t_ownsIn hF t3 (ok_pl hs p (by omega)) rfl (by omega) (fun M4 t4 => ?_)
          show lm_G X (d + 7) 223 106 0 0 86 [some (.ref 64), some (.int (nI p)), some (.int (nI n)), some (.int w), some (.int ((mxS al (fSta F s p n) nI (-1) j).1)), some (.int ((mxS al (fSta F s p n) nI (-1) j).2)), some (.int (nI j)), none] [.int (fSta F s p n j)] (lm_T M4 v G) Q
          refine lm_G_sg 3 (pc' := 92) (L' := [some (.ref 64), some (.int (nI p)), some (.int (nI n)), some (.int w), some (.int ((mxS al (fSta F s p n) nI (-1) j).1)), some (.int ((mxS al (fSta F s p n) nI (-1) j).2)), some (.int (nI j)), some (.int (fSta F s p n j))]) (S' := [.int ((mxS al (fSta F s p n) nI (-1) j).2), .int (fSta F s p n j)]) (σ' := lm_T M4 v G) rfl trivial ?_
          refine lm_G_br (b := ((mxS al (fSta F s p n) nI (-1) j).2) < (fSta F s p n j)) (t := 98) (S' := []) rfl (fun h5 => ?_) (fun h5 => ?_)
          ·
            refine lm_G_sg 5 (pc' := 109) (L' := [some (.ref 64), some (.int (nI p)), some (.int (nI n)), some (.int w), some (.int (nI j)), some (.int (fSta F s p n j)), some (.int ((nI j) + 1)), some (.int (fSta F s p n j))]) (S' := []) (σ' := lm_T M4 v G) rfl trivial ?_
            rw [nI_1]
            refine lm_G_sg 1 (pc' := 65) (L' := [some (.ref 64), some (.int (nI p)), some (.int (nI n)), some (.int w), some (.int (nI j)), some (.int (fSta F s p n j)), some (.int (nI (j + 1))), some (.int (fSta F s p n j))]) (S' := []) (σ' := lm_T M4 v G) rfl trivial ?_
            rw [mx_y (g := al) (f := fSta F s p n) rfl h5] at ih
            refine lm_G_jk (L := [some (.ref 64), some (.int (nI p)), some (.int (nI n)), some (.int w), some (.int (nI j)), some (.int (fSta F s p n j)), some (.int (nI (j + 1))), none]) ⟨rfl, rfl, rfl, rfl, rfl, rfl, rfl, trivial⟩ ?_
            exact ih _ t4
          ·
            refine lm_G_sg 2 (pc' := 109) (L' := [some (.ref 64), some (.int (nI p)), some (.int (nI n)), some (.int w), some (.int ((mxS al (fSta F s p n) nI (-1) j).1)), some (.int ((mxS al (fSta F s p n) nI (-1) j).2)), some (.int ((nI j) + 1)), some (.int (fSta F s p n j))]) (S' := []) (σ' := lm_T M4 v G) rfl trivial ?_
            rw [nI_1]
            refine lm_G_sg 1 (pc' := 65) (L' := [some (.ref 64), some (.int (nI p)), some (.int (nI n)), some (.int w), some (.int ((mxS al (fSta F s p n) nI (-1) j).1)), some (.int ((mxS al (fSta F s p n) nI (-1) j).2)), some (.int (nI (j + 1))), some (.int (fSta F s p n j))]) (S' := []) (σ' := lm_T M4 v G) rfl trivial ?_
            rw [mx_n (f := fSta F s p n) h5] at ih
            refine lm_G_jk (L := [some (.ref 64), some (.int (nI p)), some (.int (nI n)), some (.int w), some (.int ((mxS al (fSta F s p n) nI (-1) j).1)), some (.int ((mxS al (fSta F s p n) nI (-1) j).2)), some (.int (nI (j + 1))), none]) ⟨rfl, rfl, rfl, rfl, rfl, rfl, rfl, trivial⟩ ?_
            exact ih _ t4
        ·
          revert hI
          revert zz
          intro M2 hI
          replace hI : TM M F s M2 s := hI
          show lm_G X (d + 7) 223 106 0 0 65 [some (.ref 64), some (.int (nI p)), some (.int (nI n)), some (.int w), some (.int ((mxS al (fSta F s p n) nI (-1) 31).1)), some (.int ((mxS al (fSta F s p n) nI (-1) 31).2)), some (.int (nI 31)), none] [] (lm_T M2 v G) Q
          refine lm_G_sg 2 (pc' := 69) (L' := [some (.ref 64), some (.int (nI p)), some (.int (nI n)), some (.int w), some (.int ((mxS al (fSta F s p n) nI (-1) 31).1)), some (.int ((mxS al (fSta F s p n) nI (-1) 31).2)), some (.int (nI 31)), none]) (S' := [.int 30, .int (nI 31)]) (σ' := lm_T M2 v G) rfl trivial ?_
          refine lm_G_br (b := 30 < (nI 31)) (t := 112) (S' := []) rfl (fun hc => ?_) (fun hc => absurd (nI_lt (a := 30) (by omega) (by omega)) hc)
          refine lm_G_sg 1 (pc' := 113) (L' := [some (.ref 64), some (.int (nI p)), some (.int (nI n)), some (.int w), some (.int ((mxS al (fSta F s p n) nI (-1) 31).1)), some (.int ((mxS al (fSta F s p n) nI (-1) 31).2)), some (.int (nI 31)), none]) (S' := [.int w]) (σ' := lm_T M2 v G) rfl trivial ?_
          rcases isP_2 hw with rfl | rfl
          ·
            refine lm_G_br (b := ¬ 0 = 0) (t := 121) (S' := []) rfl (fun hc => absurd rfl hc) (fun hc => ?_)
            refine lm_G_sg 2 (pc' := 123) (L' := [some (.ref 64), some (.int (nI p)), some (.int (nI n)), some (.int 0), some (.int ((mxS al (fSta F s p n) nI (-1) 31).1)), some (.int ((mxS al (fSta F s p n) nI (-1) 31).2)), some (.int (nI 31)), none]) (S' := [.int ((mxS al (fSta F s p n) nI (-1) 31).1)]) (σ' := lm_T M2 v G) rfl trivial ?_
            rw [show aSta F s (nI p) (nI n) 0 = .inl (mxS al (fSta F s p n) nI (-1) 31).1 from by simp +decide only [aSta, hx, hw, hz, cp, cn, if_true, if_false, Bool.and_true, Bool.true_and, Bool.and_self, Bool.false_and, Bool.and_false, Bool.false_eq_true]] at hQ
            exact lm_G_re rfl trivial (Nat.zero_le _) (Nat.zero_le _) (hQ _ hI.1 hI.2.1 hI.2.2.2.1)
          ·
            refine lm_G_br (b := ¬ 1 = 0) (t := 121) (S' := []) rfl (fun hc => ?_) (fun hc => absurd (by decide) hc)
            refine lm_G_sg 1 (pc' := 123) (L' := [some (.ref 64), some (.int (nI p)), some (.int (nI n)), some (.int 1), some (.int ((mxS al (fSta F s p n) nI (-1) 31).1)), some (.int ((mxS al (fSta F s p n) nI (-1) 31).2)), some (.int (nI 31)), none]) (S' := [.int ((mxS al (fSta F s p n) nI (-1) 31).2)]) (σ' := lm_T M2 v G) rfl trivial ?_
            rw [show aSta F s (nI p) (nI n) 1 = .inl (mxS al (fSta F s p n) nI (-1) 31).2 from by simp +decide only [aSta, hx, hw, hz, cp, cn, if_true, if_false, Bool.and_true, Bool.true_and, Bool.and_self, Bool.false_and, Bool.and_false, Bool.false_eq_true]] at hQ
            exact lm_G_re rfl trivial (Nat.zero_le _) (Nat.zero_le _) (hQ _ hI.1 hI.2.1 hI.2.2.2.1)
        ·
          try dsimp only
          exact t1
set_option maxRecDepth 10000 in
theorem c_bestH {X : lm_X} {d v : Nat} {M : Nat → Nat → Int32} {G : Nat → Nat → Int64} {Q : lm_O → lm_S → Prop} {F : Fa} {s : Sc} {p n : Nat} {x : Int32} {g : Nat → Bool} (hF : okF F) (h : RC 28 M F s) (hs : okS F s) (hl : M 28 12 = -1) (hx : ∀ q, q < fN F → bitW x q = g q) (h60 : n < 2 ^ 31) (hQ : ∀ M1, Fr frQ M M1 → Q (.inl (some (.int (mxS g (fHus F s p n) nI (ownN F nl s (nI p) n) (fN F)).1))) (lm_T M1 v G)) : lm_Q X (d + 7) 76 [.ref 0, .int x, .int 0, .int (nI p), .int (nI n)] (lm_T M v G) Q := by
  have hn := hF.n
  have hm := hF.m
  show lm_G X (d + 7) 76 106 0 0 0 [some (.ref 0), some (.int x), some (.int 0), some (.int (nI p)), some (.int (nI n)), none, none, none, none] [] (lm_T M v G) Q
  refine lm_G_sg 1 (pc' := 1) (L' := [some (.ref 0), some (.int x), some (.int 0), some (.int (nI p)), some (.int (nI n)), none, none, none, none]) (S' := [.ref 0]) (σ' := lm_T M v G) rfl trivial ?_
  refine lm_G_ca (j := 132) (as := [.ref 0]) (rest := []) rfl (Or.inl rfl) (Nat.le_of_ble_eq_true rfl) (Nat.le_of_ble_eq_true rfl) (Nat.le_of_ble_eq_true rfl) (Nat.le_of_ble_eq_true rfl) rfl ?_
  refine u_start hF h (Fr_rf _ _) hl (fun M1 t1 e1 => ?_)
  show lm_G X (d + 7) 76 106 0 0 4 [some (.ref 0), some (.int x), some (.int 0), some (.int (nI p)), some (.int (nI n)), none, none, none, none] [] (lm_T M1 v G) Q
  refine lm_G_sg 4 (pc' := 11) (L' := [some (.ref 0), some (.int x), some (.int 0), some (.int (nI p)), some (.int (nI n)), none, none, none, none]) (S' := [.int (nI n), .int (nI p), .ref 38]) (σ' := lm_T M1 v G) rfl trivial ?_
  refine lm_G_ca (j := 62) (as := [.ref 38, .int (nI p), .int (nI n)]) (rest := []) rfl (Or.inl rfl) (Nat.le_of_ble_eq_true rfl) (Nat.le_of_ble_eq_true rfl) (Nat.le_of_ble_eq_true rfl) (Nat.le_of_ble_eq_true rfl) rfl ?_
  refine u_behind hF t1 hs h60 (fun M2 t2 => ?_)
  show lm_G X (d + 7) 76 106 0 0 14 [some (.ref 0), some (.int x), some (.int 0), some (.int (nI p)), some (.int (nI n)), none, none, none, none] [.int (ownN F nl s (nI p) n)] (lm_T M2 v G) Q
  refine lm_G_sg 5 (pc' := 22) (L' := [some (.ref 0), some (.int x), some (.int 0), some (.int (nI p)), some (.int (nI n)), some (.int (ownN F nl s (nI p) n)), some (.int (-1)), some (.int 0), none]) (S' := []) (σ' := lm_T M2 v G) rfl trivial ?_
  refine lm_ind (α := (Nat → Fn)) (St := fun (j : Nat) zz => (fun (M3 : Nat → Fn) => lm_G X (d + 7) 76 106 0 0 22 [some (.ref 0), some (.int x), some (.int 0), some (.int (nI p)), some (.int (nI n)), some (.int ((mxS g (fHus F s p n) nI (ownN F nl s (nI p) n) j).2)), some (.int ((mxS g (fHus F s p n) nI (ownN F nl s (nI p) n) j).1)), some (.int (nI j)), none] [] (lm_T M3 v G) Q) zz) (Inv := fun (j : Nat) zz => (fun (M3 : Nat → Fn) => Fr frQ M M3) zz) (fN F) (fun j zz hj hI ih => ?_) (fun zz hI => ?_) (0) M2 (by omega) ?_
  ·
    revert ih hI
    revert zz
    intro M3 hI ih
    replace hI : Fr frQ M M3 := hI
    replace ih : ∀ (M3 : Nat → Fn) (_ : Fr frQ M M3), lm_G X (d + 7) 76 106 0 0 22 [some (.ref 0), some (.int x), some (.int 0), some (.int (nI p)), some (.int (nI n)), some (.int ((mxS g (fHus F s p n) nI (ownN F nl s (nI p) n) (j + 1)).2)), some (.int ((mxS g (fHus F s p n) nI (ownN F nl s (nI p) n) (j + 1)).1)), some (.int (nI (j + 1))), none] [] (lm_T M3 v G) Q := fun M3 q => ih M3 q
    show lm_G X (d + 7) 76 106 0 0 22 [some (.ref 0), some (.int x), some (.int 0), some (.int (nI p)), some (.int (nI n)), some (.int ((mxS g (fHus F s p n) nI (ownN F nl s (nI p) n) j).2)), some (.int ((mxS g (fHus F s p n) nI (ownN F nl s (nI p) n) j).1)), some (.int (nI j)), none] [] (lm_T M3 v G) Q
    have h3 := RC_Q h hI
    refine lm_G_sg 4 (pc' := 31) (L' := [some (.ref 0), some (.int x), some (.int 0), some (.int (nI p)), some (.int (nI n)), some (.int ((mxS g (fHus F s p n) nI (ownN F nl s (nI p) n) j).2)), some (.int ((mxS g (fHus F s p n) nI (ownN F nl s (nI p) n) j).1)), some (.int (nI j)), none]) (S' := [.int (M3 14 0), .int (nI j)]) (σ' := lm_T M3 v G) rfl trivial ?_
    rw [show M3 14 0 = nI (fN F) from h3.n]
    refine lm_G_br (b := (nI (fN F)) ≤ (nI j)) (t := 107) (S' := []) rfl (fun hc => absurd hc (nI_ge hj (by omega))) (fun hc => ?_)
    refine lm_G_sg 6 (pc' := 41) (L' := [some (.ref 0), some (.int x), some (.int 0), some (.int (nI p)), some (.int (nI n)), some (.int ((mxS g (fHus F s p n) nI (ownN F nl s (nI p) n) j).2)), some (.int ((mxS g (fHus F s p n) nI (ownN F nl s (nI p) n) j).1)), some (.int (nI j)), none]) (S' := [.int 1, .int ((x >>> ((nI j) &&& 31)) &&& 1)]) (σ' := lm_T M3 v G) rfl trivial ?_
    refine lm_G_br (b := ¬ ((x >>> ((nI j) &&& 31)) &&& 1) = 1) (t := 101) (S' := []) rfl (fun h5 => ?_) (fun h5 => ?_)
    ·
      refine lm_G_sg 1 (pc' := 104) (L' := [some (.ref 0), some (.int x), some (.int 0), some (.int (nI p)), some (.int (nI n)), some (.int ((mxS g (fHus F s p n) nI (ownN F nl s (nI p) n) j).2)), some (.int ((mxS g (fHus F s p n) nI (ownN F nl s (nI p) n) j).1)), some (.int ((nI j) + 1)), none]) (S' := []) (σ' := lm_T M3 v G) rfl trivial ?_
      rw [nI_1]
      refine lm_G_sg 1 (pc' := 22) (L' := [some (.ref 0), some (.int x), some (.int 0), some (.int (nI p)), some (.int (nI n)), some (.int ((mxS g (fHus F s p n) nI (ownN F nl s (nI p) n) j).2)), some (.int ((mxS g (fHus F s p n) nI (ownN F nl s (nI p) n) j).1)), some (.int (nI (j + 1))), none]) (S' := []) (σ' := lm_T M3 v G) rfl trivial ?_
      rw [mx_g (g := g) (f := (fHus F s p n)) ((hx j hj).symm.trans (decide_eq_false h5))] at ih
      exact ih _ hI
    ·
      have eg : g j = true := (hx j hj).symm.trans (decide_eq_true (Classical.not_not.mp h5))
      refine lm_G_sg 1 (pc' := 45) (L' := [some (.ref 0), some (.int x), some (.int 0), some (.int (nI p)), some (.int (nI n)), some (.int ((mxS g (fHus F s p n) nI (ownN F nl s (nI p) n) j).2)), some (.int ((mxS g (fHus F s p n) nI (ownN F nl s (nI p) n) j).1)), some (.int (nI j)), none]) (S' := [.ref 0]) (σ' := lm_T M3 v G) rfl trivial ?_
      refine lm_G_ca (j := 132) (as := [.ref 0]) (rest := []) rfl (Or.inl rfl) (Nat.le_of_ble_eq_true rfl) (Nat.le_of_ble_eq_true rfl) (Nat.le_of_ble_eq_true rfl) (Nat.le_of_ble_eq_true rfl) rfl ?_
      refine u_start hF h hI hl (fun M4 t4 e4 => ?_)
      show lm_G X (d + 7) 76 106 0 0 48 [some (.ref 0), some (.int x), some (.int 0), some (.int (nI p)), some (.int (nI n)), some (.int ((mxS g (fHus F s p n) nI (ownN F nl s (nI p) n) j).2)), some (.int ((mxS g (fHus F s p n) nI (ownN F nl s (nI p) n) j).1)), some (.int (nI j)), none] [] (lm_T M4 v G) Q
      refine lm_G_sg 3 (pc' := 54) (L' := [some (.ref 0), some (.int x), some (.int 0), some (.int (nI p)), some (.int (nI n)), some (.int ((mxS g (fHus F s p n) nI (ownN F nl s (nI p) n) j).2)), some (.int ((mxS g (fHus F s p n) nI (ownN F nl s (nI p) n) j).1)), some (.int (nI j)), none]) (S' := [.int (nI j), .ref 38]) (σ' := lm_T M4 v G) rfl trivial ?_
      refine lm_G_ca (j := 68) (as := [.ref 38, .int (nI j)]) (rest := []) rfl (Or.inl rfl) (Nat.le_of_ble_eq_true rfl) (Nat.le_of_ble_eq_true rfl) (Nat.le_of_ble_eq_true rfl) (Nat.le_of_ble_eq_true rfl) rfl ?_
      refine u_quiet hF t4 hs hj (fun M5 t5 e5 => ?_)
      show lm_G X (d + 7) 76 106 0 0 57 [some (.ref 0), some (.int x), some (.int 0), some (.int (nI p)), some (.int (nI n)), some (.int ((mxS g (fHus F s p n) nI (ownN F nl s (nI p) n) j).2)), some (.int ((mxS g (fHus F s p n) nI (ownN F nl s (nI p) n) j).1)), some (.int (nI j)), none] [] (lm_T M5 v G) Q
      refine lm_G_sg 3 (pc' := 62) (L' := [some (.ref 0), some (.int x), some (.int 0), some (.int (nI p)), some (.int (nI n)), some (.int ((mxS g (fHus F s p n) nI (ownN F nl s (nI p) n) j).2)), some (.int ((mxS g (fHus F s p n) nI (ownN F nl s (nI p) n) j).1)), some (.int (nI j)), none]) (S' := [.int 0, .ref 38]) (σ' := lm_T M5 v G) rfl trivial ?_
      refine lm_G_br (b := 0 = 0) (t := 70) (S' := [.ref 38]) rfl (fun hc => ?_) (fun hc => absurd rfl hc)
      refine lm_G_sg 2 (pc' := 74) (L' := [some (.ref 0), some (.int x), some (.int 0), some (.int (nI p)), some (.int (nI n)), some (.int ((mxS g (fHus F s p n) nI (ownN F nl s (nI p) n) j).2)), some (.int ((mxS g (fHus F s p n) nI (ownN F nl s (nI p) n) j).1)), some (.int (nI j)), none]) (S' := []) (σ' := lm_T (lm_wr M5 38 12 (-1)) v G) rfl ⟨trivial, trivial, trivial⟩ ?_
      have t6 : TC M F (lm_wr M5 38 12 (-1)) (husS F s j) := ⟨RC_left t5.1, Fr_wr t5.2.1 rfl, wr_same⟩
      revert t6
      generalize lm_wr M5 38 12 (-1) = M6
      intro t6
      refine lm_G_sg 4 (pc' := 81) (L' := [some (.ref 0), some (.int x), some (.int 0), some (.int (nI p)), some (.int (nI n)), some (.int ((mxS g (fHus F s p n) nI (ownN F nl s (nI p) n) j).2)), some (.int ((mxS g (fHus F s p n) nI (ownN F nl s (nI p) n) j).1)), some (.int (nI j)), none]) (S' := [.int (nI n), .int (nI p), .ref 38]) (σ' := lm_T M6 v G) rfl trivial ?_
      refine lm_G_ca (j := 62) (as := [.ref 38, .int (nI p), .int (nI n)]) (rest := []) rfl (Or.inl rfl) (Nat.le_of_ble_eq_true rfl) (Nat.le_of_ble_eq_true rfl) (Nat.le_of_ble_eq_true rfl) (Nat.le_of_ble_eq_true rfl) rfl ?_
      refine u_behind hF t6 (ok_all hs _) h60 (fun M7 t7 => ?_)
      show lm_G X (d + 7) 76 106 0 0 84 [some (.ref 0), some (.int x), some (.int 0), some (.int (nI p)), some (.int (nI n)), some (.int ((mxS g (fHus F s p n) nI (ownN F nl s (nI p) n) j).2)), some (.int ((mxS g (fHus F s p n) nI (ownN F nl s (nI p) n) j).1)), some (.int (nI j)), none] [.int (fHus F s p n j)] (lm_T M7 v G) Q
      have f7 := t7.2.1
      refine lm_G_sg 3 (pc' := 90) (L' := [some (.ref 0), some (.int x), some (.int 0), some (.int (nI p)), some (.int (nI n)), some (.int ((mxS g (fHus F s p n) nI (ownN F nl s (nI p) n) j).2)), some (.int ((mxS g (fHus F s p n) nI (ownN F nl s (nI p) n) j).1)), some (.int (nI j)), some (.int (fHus F s p n j))]) (S' := [.int ((mxS g (fHus F s p n) nI (ownN F nl s (nI p) n) j).2), .int (fHus F s p n j)]) (σ' := lm_T M7 v G) rfl trivial ?_
      refine lm_G_br (b := (fHus F s p n j) ≤ ((mxS g (fHus F s p n) nI (ownN F nl s (nI p) n) j).2)) (t := 101) (S' := []) rfl (fun h7 => ?_) (fun h7 => ?_)
      ·
        refine lm_G_sg 1 (pc' := 104) (L' := [some (.ref 0), some (.int x), some (.int 0), some (.int (nI p)), some (.int (nI n)), some (.int ((mxS g (fHus F s p n) nI (ownN F nl s (nI p) n) j).2)), some (.int ((mxS g (fHus F s p n) nI (ownN F nl s (nI p) n) j).1)), some (.int ((nI j) + 1)), some (.int (fHus F s p n j))]) (S' := []) (σ' := lm_T M7 v G) rfl trivial ?_
        rw [nI_1]
        refine lm_G_sg 1 (pc' := 22) (L' := [some (.ref 0), some (.int x), some (.int 0), some (.int (nI p)), some (.int (nI n)), some (.int ((mxS g (fHus F s p n) nI (ownN F nl s (nI p) n) j).2)), some (.int ((mxS g (fHus F s p n) nI (ownN F nl s (nI p) n) j).1)), some (.int (nI (j + 1))), some (.int (fHus F s p n j))]) (S' := []) (σ' := lm_T M7 v G) rfl trivial ?_
        rw [mx_n (f := (fHus F s p n)) (Int32.not_lt.mpr h7)] at ih
        refine lm_G_jk (L := [some (.ref 0), some (.int x), some (.int 0), some (.int (nI p)), some (.int (nI n)), some (.int ((mxS g (fHus F s p n) nI (ownN F nl s (nI p) n) j).2)), some (.int ((mxS g (fHus F s p n) nI (ownN F nl s (nI p) n) j).1)), some (.int (nI (j + 1))), none]) ⟨rfl, rfl, rfl, rfl, rfl, rfl, rfl, rfl, trivial⟩ ?_
        exact ih _ f7
      ·
        refine lm_G_sg 5 (pc' := 104) (L' := [some (.ref 0), some (.int x), some (.int 0), some (.int (nI p)), some (.int (nI n)), some (.int (fHus F s p n j)), some (.int (nI j)), some (.int ((nI j) + 1)), some (.int (fHus F s p n j))]) (S' := []) (σ' := lm_T M7 v G) rfl trivial ?_
        rw [nI_1]
        refine lm_G_sg 1 (pc' := 22) (L' := [some (.ref 0), some (.int x), some (.int 0), some (.int (nI p)), some (.int (nI n)), some (.int (fHus F s p n j)), some (.int (nI j)), some (.int (nI (j + 1))), some (.int (fHus F s p n j))]) (S' := []) (σ' := lm_T M7 v G) rfl trivial ?_
        rw [mx_y (f := (fHus F s p n)) eg (Int32.not_le.mp h7)] at ih
        refine lm_G_jk (L := [some (.ref 0), some (.int x), some (.int 0), some (.int (nI p)), some (.int (nI n)), some (.int (fHus F s p n j)), some (.int (nI j)), some (.int (nI (j + 1))), none]) ⟨rfl, rfl, rfl, rfl, rfl, rfl, rfl, rfl, trivial⟩ ?_
        exact ih _ f7
  ·
    revert hI
    revert zz
    intro M3 hI
    replace hI : Fr frQ M M3 := hI
    show lm_G X (d + 7) 76 106 0 0 22 [some (.ref 0), some (.int x), some (.int 0), some (.int (nI p)), some (.int (nI n)), some (.int ((mxS g (fHus F s p n) nI (ownN F nl s (nI p) n) (fN F)).2)), some (.int ((mxS g (fHus F s p n) nI (ownN F nl s (nI p) n) (fN F)).1)), some (.int (nI (fN F))), none] [] (lm_T M3 v G) Q
    have h3 := RC_Q h hI
    refine lm_G_sg 4 (pc' := 31) (L' := [some (.ref 0), some (.int x), some (.int 0), some (.int (nI p)), some (.int (nI n)), some (.int ((mxS g (fHus F s p n) nI (ownN F nl s (nI p) n) (fN F)).2)), some (.int ((mxS g (fHus F s p n) nI (ownN F nl s (nI p) n) (fN F)).1)), some (.int (nI (fN F))), none]) (S' := [.int (M3 14 0), .int (nI (fN F))]) (σ' := lm_T M3 v G) rfl trivial ?_
    rw [show M3 14 0 = nI (fN F) from h3.n]
    refine lm_G_br (b := (nI (fN F)) ≤ (nI (fN F))) (t := 107) (S' := []) rfl (fun hc => ?_) (fun hc => absurd (nI_le (Nat.le_refl _) (by omega)) hc)
    refine lm_G_sg 1 (pc' := 109) (L' := [some (.ref 0), some (.int x), some (.int 0), some (.int (nI p)), some (.int (nI n)), some (.int ((mxS g (fHus F s p n) nI (ownN F nl s (nI p) n) (fN F)).2)), some (.int ((mxS g (fHus F s p n) nI (ownN F nl s (nI p) n) (fN F)).1)), some (.int (nI (fN F))), none]) (S' := [.int ((mxS g (fHus F s p n) nI (ownN F nl s (nI p) n) (fN F)).1)]) (σ' := lm_T M3 v G) rfl trivial ?_
    exact lm_G_re rfl trivial (Nat.zero_le _) (Nat.zero_le _) (hQ _ hI)
  ·
    try dsimp only
    exact t2.2.1
set_option maxRecDepth 10000 in
theorem c_bestW {X : lm_X} {d v : Nat} {M : Nat → Nat → Int32} {G : Nat → Nat → Int64} {Q : lm_O → lm_S → Prop} {F : Fa} {s : Sc} {p n : Nat} {x : Int32} {g : Nat → Bool} (hF : okF F) (h : RC 28 M F s) (hs : okS F s) (hl : M 28 12 = -1) (hx : ∀ q, q < fN F → bitW x q = g q) (h60 : n < 2 ^ 31) (hQ : ∀ M1, Fr frQ M M1 → Q (.inl (some (.int (mxS g (fWit F s p n) nI (ownN F nl s (nI p) n) (fN F)).1))) (lm_T M1 v G)) : lm_Q X (d + 7) 76 [.ref 0, .int x, .int 1, .int (nI p), .int (nI n)] (lm_T M v G) Q := by
  have hn := hF.n
  have hm := hF.m
  show lm_G X (d + 7) 76 106 0 0 0 [some (.ref 0), some (.int x), some (.int 1), some (.int (nI p)), some (.int (nI n)), none, none, none, none] [] (lm_T M v G) Q
  refine lm_G_sg 1 (pc' := 1) (L' := [some (.ref 0), some (.int x), some (.int 1), some (.int (nI p)), some (.int (nI n)), none, none, none, none]) (S' := [.ref 0]) (σ' := lm_T M v G) rfl trivial ?_
  refine lm_G_ca (j := 132) (as := [.ref 0]) (rest := []) rfl (Or.inl rfl) (Nat.le_of_ble_eq_true rfl) (Nat.le_of_ble_eq_true rfl) (Nat.le_of_ble_eq_true rfl) (Nat.le_of_ble_eq_true rfl) rfl ?_
  refine u_start hF h (Fr_rf _ _) hl (fun M1 t1 e1 => ?_)
  show lm_G X (d + 7) 76 106 0 0 4 [some (.ref 0), some (.int x), some (.int 1), some (.int (nI p)), some (.int (nI n)), none, none, none, none] [] (lm_T M1 v G) Q
  refine lm_G_sg 4 (pc' := 11) (L' := [some (.ref 0), some (.int x), some (.int 1), some (.int (nI p)), some (.int (nI n)), none, none, none, none]) (S' := [.int (nI n), .int (nI p), .ref 38]) (σ' := lm_T M1 v G) rfl trivial ?_
  refine lm_G_ca (j := 62) (as := [.ref 38, .int (nI p), .int (nI n)]) (rest := []) rfl (Or.inl rfl) (Nat.le_of_ble_eq_true rfl) (Nat.le_of_ble_eq_true rfl) (Nat.le_of_ble_eq_true rfl) (Nat.le_of_ble_eq_true rfl) rfl ?_
  refine u_behind hF t1 hs h60 (fun M2 t2 => ?_)
  show lm_G X (d + 7) 76 106 0 0 14 [some (.ref 0), some (.int x), some (.int 1), some (.int (nI p)), some (.int (nI n)), none, none, none, none] [.int (ownN F nl s (nI p) n)] (lm_T M2 v G) Q
  refine lm_G_sg 5 (pc' := 22) (L' := [some (.ref 0), some (.int x), some (.int 1), some (.int (nI p)), some (.int (nI n)), some (.int (ownN F nl s (nI p) n)), some (.int (-1)), some (.int 0), none]) (S' := []) (σ' := lm_T M2 v G) rfl trivial ?_
  refine lm_ind (α := (Nat → Fn)) (St := fun (j : Nat) zz => (fun (M3 : Nat → Fn) => lm_G X (d + 7) 76 106 0 0 22 [some (.ref 0), some (.int x), some (.int 1), some (.int (nI p)), some (.int (nI n)), some (.int ((mxS g (fWit F s p n) nI (ownN F nl s (nI p) n) j).2)), some (.int ((mxS g (fWit F s p n) nI (ownN F nl s (nI p) n) j).1)), some (.int (nI j)), none] [] (lm_T M3 v G) Q) zz) (Inv := fun (j : Nat) zz => (fun (M3 : Nat → Fn) => Fr frQ M M3) zz) (fN F) (fun j zz hj hI ih => ?_) (fun zz hI => ?_) (0) M2 (by omega) ?_
  ·
    revert ih hI
    revert zz
    intro M3 hI ih
    replace hI : Fr frQ M M3 := hI
    replace ih : ∀ (M3 : Nat → Fn) (_ : Fr frQ M M3), lm_G X (d + 7) 76 106 0 0 22 [some (.ref 0), some (.int x), some (.int 1), some (.int (nI p)), some (.int (nI n)), some (.int ((mxS g (fWit F s p n) nI (ownN F nl s (nI p) n) (j + 1)).2)), some (.int ((mxS g (fWit F s p n) nI (ownN F nl s (nI p) n) (j + 1)).1)), some (.int (nI (j + 1))), none] [] (lm_T M3 v G) Q := fun M3 q => ih M3 q
    show lm_G X (d + 7) 76 106 0 0 22 [some (.ref 0), some (.int x), some (.int 1), some (.int (nI p)), some (.int (nI n)), some (.int ((mxS g (fWit F s p n) nI (ownN F nl s (nI p) n) j).2)), some (.int ((mxS g (fWit F s p n) nI (ownN F nl s (nI p) n) j).1)), some (.int (nI j)), none] [] (lm_T M3 v G) Q
    have h3 := RC_Q h hI
    refine lm_G_sg 4 (pc' := 31) (L' := [some (.ref 0), some (.int x), some (.int 1), some (.int (nI p)), some (.int (nI n)), some (.int ((mxS g (fWit F s p n) nI (ownN F nl s (nI p) n) j).2)), some (.int ((mxS g (fWit F s p n) nI (ownN F nl s (nI p) n) j).1)), some (.int (nI j)), none]) (S' := [.int (M3 14 0), .int (nI j)]) (σ' := lm_T M3 v G) rfl trivial ?_
    rw [show M3 14 0 = nI (fN F) from h3.n]
    refine lm_G_br (b := (nI (fN F)) ≤ (nI j)) (t := 107) (S' := []) rfl (fun hc => absurd hc (nI_ge hj (by omega))) (fun hc => ?_)
    refine lm_G_sg 6 (pc' := 41) (L' := [some (.ref 0), some (.int x), some (.int 1), some (.int (nI p)), some (.int (nI n)), some (.int ((mxS g (fWit F s p n) nI (ownN F nl s (nI p) n) j).2)), some (.int ((mxS g (fWit F s p n) nI (ownN F nl s (nI p) n) j).1)), some (.int (nI j)), none]) (S' := [.int 1, .int ((x >>> ((nI j) &&& 31)) &&& 1)]) (σ' := lm_T M3 v G) rfl trivial ?_
    refine lm_G_br (b := ¬ ((x >>> ((nI j) &&& 31)) &&& 1) = 1) (t := 101) (S' := []) rfl (fun h5 => ?_) (fun h5 => ?_)
    ·
      refine lm_G_sg 1 (pc' := 104) (L' := [some (.ref 0), some (.int x), some (.int 1), some (.int (nI p)), some (.int (nI n)), some (.int ((mxS g (fWit F s p n) nI (ownN F nl s (nI p) n) j).2)), some (.int ((mxS g (fWit F s p n) nI (ownN F nl s (nI p) n) j).1)), some (.int ((nI j) + 1)), none]) (S' := []) (σ' := lm_T M3 v G) rfl trivial ?_
      rw [nI_1]
      refine lm_G_sg 1 (pc' := 22) (L' := [some (.ref 0), some (.int x), some (.int 1), some (.int (nI p)), some (.int (nI n)), some (.int ((mxS g (fWit F s p n) nI (ownN F nl s (nI p) n) j).2)), some (.int ((mxS g (fWit F s p n) nI (ownN F nl s (nI p) n) j).1)), some (.int (nI (j + 1))), none]) (S' := []) (σ' := lm_T M3 v G) rfl trivial ?_
      rw [mx_g (g := g) (f := (fWit F s p n)) ((hx j hj).symm.trans (decide_eq_false h5))] at ih
      exact ih _ hI
    ·
      have eg : g j = true := (hx j hj).symm.trans (decide_eq_true (Classical.not_not.mp h5))
      refine lm_G_sg 1 (pc' := 45) (L' := [some (.ref 0), some (.int x), some (.int 1), some (.int (nI p)), some (.int (nI n)), some (.int ((mxS g (fWit F s p n) nI (ownN F nl s (nI p) n) j).2)), some (.int ((mxS g (fWit F s p n) nI (ownN F nl s (nI p) n) j).1)), some (.int (nI j)), none]) (S' := [.ref 0]) (σ' := lm_T M3 v G) rfl trivial ?_
      refine lm_G_ca (j := 132) (as := [.ref 0]) (rest := []) rfl (Or.inl rfl) (Nat.le_of_ble_eq_true rfl) (Nat.le_of_ble_eq_true rfl) (Nat.le_of_ble_eq_true rfl) (Nat.le_of_ble_eq_true rfl) rfl ?_
      refine u_start hF h hI hl (fun M4 t4 e4 => ?_)
      show lm_G X (d + 7) 76 106 0 0 48 [some (.ref 0), some (.int x), some (.int 1), some (.int (nI p)), some (.int (nI n)), some (.int ((mxS g (fWit F s p n) nI (ownN F nl s (nI p) n) j).2)), some (.int ((mxS g (fWit F s p n) nI (ownN F nl s (nI p) n) j).1)), some (.int (nI j)), none] [] (lm_T M4 v G) Q
      refine lm_G_sg 3 (pc' := 54) (L' := [some (.ref 0), some (.int x), some (.int 1), some (.int (nI p)), some (.int (nI n)), some (.int ((mxS g (fWit F s p n) nI (ownN F nl s (nI p) n) j).2)), some (.int ((mxS g (fWit F s p n) nI (ownN F nl s (nI p) n) j).1)), some (.int (nI j)), none]) (S' := [.int (nI j), .ref 38]) (σ' := lm_T M4 v G) rfl trivial ?_
      refine lm_G_ca (j := 68) (as := [.ref 38, .int (nI j)]) (rest := []) rfl (Or.inl rfl) (Nat.le_of_ble_eq_true rfl) (Nat.le_of_ble_eq_true rfl) (Nat.le_of_ble_eq_true rfl) (Nat.le_of_ble_eq_true rfl) rfl ?_
      refine u_quiet hF t4 hs hj (fun M5 t5 e5 => ?_)
      show lm_G X (d + 7) 76 106 0 0 57 [some (.ref 0), some (.int x), some (.int 1), some (.int (nI p)), some (.int (nI n)), some (.int ((mxS g (fWit F s p n) nI (ownN F nl s (nI p) n) j).2)), some (.int ((mxS g (fWit F s p n) nI (ownN F nl s (nI p) n) j).1)), some (.int (nI j)), none] [] (lm_T M5 v G) Q
      refine lm_G_sg 3 (pc' := 62) (L' := [some (.ref 0), some (.int x), some (.int 1), some (.int (nI p)), some (.int (nI n)), some (.int ((mxS g (fWit F s p n) nI (ownN F nl s (nI p) n) j).2)), some (.int ((mxS g (fWit F s p n) nI (ownN F nl s (nI p) n) j).1)), some (.int (nI j)), none]) (S' := [.int 1, .ref 38]) (σ' := lm_T M5 v G) rfl trivial ?_
      refine lm_G_br (b := 1 = 0) (t := 70) (S' := [.ref 38]) rfl (fun hc => absurd hc (by decide)) (fun hc => ?_)
      refine lm_G_sg 3 (pc' := 74) (L' := [some (.ref 0), some (.int x), some (.int 1), some (.int (nI p)), some (.int (nI n)), some (.int ((mxS g (fWit F s p n) nI (ownN F nl s (nI p) n) j).2)), some (.int ((mxS g (fWit F s p n) nI (ownN F nl s (nI p) n) j).1)), some (.int (nI j)), none]) (S' := []) (σ' := lm_T (lm_wr M5 38 12 (nI j)) v G) rfl ⟨trivial, trivial, trivial⟩ ?_
      have h6 : RC 38 (lm_wr M5 38 12 (nI j)) F (husS F s j) := RC_left t5.1
      have f6 : Fr frQ M (lm_wr M5 38 12 (nI j)) := Fr_wr t5.2.1 rfl
      have l6 : (lm_wr M5 38 12 (nI j)) 38 12 = nI j := wr_same
      revert h6 f6 l6
      generalize lm_wr M5 38 12 (nI j) = M6
      intro h6 f6 l6
      refine lm_G_sg 4 (pc' := 81) (L' := [some (.ref 0), some (.int x), some (.int 1), some (.int (nI p)), some (.int (nI n)), some (.int ((mxS g (fWit F s p n) nI (ownN F nl s (nI p) n) j).2)), some (.int ((mxS g (fWit F s p n) nI (ownN F nl s (nI p) n) j).1)), some (.int (nI j)), none]) (S' := [.int (nI n), .int (nI p), .ref 38]) (σ' := lm_T M6 v G) rfl trivial ?_
      refine lm_G_ca (j := 62) (as := [.ref 38, .int (nI p), .int (nI n)]) (rest := []) rfl (Or.inl rfl) (Nat.le_of_ble_eq_true rfl) (Nat.le_of_ble_eq_true rfl) (Nat.le_of_ble_eq_true rfl) (Nat.le_of_ble_eq_true rfl) rfl ?_
      refine c_behind38 (lf := fun k => decide (k = j)) hF h6 (ok_all hs _) (fun k hk => by rw [l6]; exact decide_eq_decide.mpr (nI_eq (by omega) (by omega))) h60 (fun M7 h7c k7 => ?_)
      show lm_G X (d + 7) 76 106 0 0 84 [some (.ref 0), some (.int x), some (.int 1), some (.int (nI p)), some (.int (nI n)), some (.int ((mxS g (fWit F s p n) nI (ownN F nl s (nI p) n) j).2)), some (.int ((mxS g (fWit F s p n) nI (ownN F nl s (nI p) n) j).1)), some (.int (nI j)), none] [.int (fWit F s p n j)] (lm_T M7 v G) Q
      have f7 := Fr_tr f6 (FQ_C k7)
      refine lm_G_sg 3 (pc' := 90) (L' := [some (.ref 0), some (.int x), some (.int 1), some (.int (nI p)), some (.int (nI n)), some (.int ((mxS g (fWit F s p n) nI (ownN F nl s (nI p) n) j).2)), some (.int ((mxS g (fWit F s p n) nI (ownN F nl s (nI p) n) j).1)), some (.int (nI j)), some (.int (fWit F s p n j))]) (S' := [.int ((mxS g (fWit F s p n) nI (ownN F nl s (nI p) n) j).2), .int (fWit F s p n j)]) (σ' := lm_T M7 v G) rfl trivial ?_
      refine lm_G_br (b := (fWit F s p n j) ≤ ((mxS g (fWit F s p n) nI (ownN F nl s (nI p) n) j).2)) (t := 101) (S' := []) rfl (fun h7 => ?_) (fun h7 => ?_)
      ·
        refine lm_G_sg 1 (pc' := 104) (L' := [some (.ref 0), some (.int x), some (.int 1), some (.int (nI p)), some (.int (nI n)), some (.int ((mxS g (fWit F s p n) nI (ownN F nl s (nI p) n) j).2)), some (.int ((mxS g (fWit F s p n) nI (ownN F nl s (nI p) n) j).1)), some (.int ((nI j) + 1)), some (.int (fWit F s p n j))]) (S' := []) (σ' := lm_T M7 v G) rfl trivial ?_
        rw [nI_1]
        refine lm_G_sg 1 (pc' := 22) (L' := [some (.ref 0), some (.int x), some (.int 1), some (.int (nI p)), some (.int (nI n)), some (.int ((mxS g (fWit F s p n) nI (ownN F nl s (nI p) n) j).2)), some (.int ((mxS g (fWit F s p n) nI (ownN F nl s (nI p) n) j).1)), some (.int (nI (j + 1))), some (.int (fWit F s p n j))]) (S' := []) (σ' := lm_T M7 v G) rfl trivial ?_
        rw [mx_n (f := (fWit F s p n)) (Int32.not_lt.mpr h7)] at ih
        refine lm_G_jk (L := [some (.ref 0), some (.int x), some (.int 1), some (.int (nI p)), some (.int (nI n)), some (.int ((mxS g (fWit F s p n) nI (ownN F nl s (nI p) n) j).2)), some (.int ((mxS g (fWit F s p n) nI (ownN F nl s (nI p) n) j).1)), some (.int (nI (j + 1))), none]) ⟨rfl, rfl, rfl, rfl, rfl, rfl, rfl, rfl, trivial⟩ ?_
        exact ih _ f7
      ·
        refine lm_G_sg 5 (pc' := 104) (L' := [some (.ref 0), some (.int x), some (.int 1), some (.int (nI p)), some (.int (nI n)), some (.int (fWit F s p n j)), some (.int (nI j)), some (.int ((nI j) + 1)), some (.int (fWit F s p n j))]) (S' := []) (σ' := lm_T M7 v G) rfl trivial ?_
        rw [nI_1]
        refine lm_G_sg 1 (pc' := 22) (L' := [some (.ref 0), some (.int x), some (.int 1), some (.int (nI p)), some (.int (nI n)), some (.int (fWit F s p n j)), some (.int (nI j)), some (.int (nI (j + 1))), some (.int (fWit F s p n j))]) (S' := []) (σ' := lm_T M7 v G) rfl trivial ?_
        rw [mx_y (f := (fWit F s p n)) eg (Int32.not_le.mp h7)] at ih
        refine lm_G_jk (L := [some (.ref 0), some (.int x), some (.int 1), some (.int (nI p)), some (.int (nI n)), some (.int (fWit F s p n j)), some (.int (nI j)), some (.int (nI (j + 1))), none]) ⟨rfl, rfl, rfl, rfl, rfl, rfl, rfl, rfl, trivial⟩ ?_
        exact ih _ f7
  ·
    revert hI
    revert zz
    intro M3 hI
    replace hI : Fr frQ M M3 := hI
    show lm_G X (d + 7) 76 106 0 0 22 [some (.ref 0), some (.int x), some (.int 1), some (.int (nI p)), some (.int (nI n)), some (.int ((mxS g (fWit F s p n) nI (ownN F nl s (nI p) n) (fN F)).2)), some (.int ((mxS g (fWit F s p n) nI (ownN F nl s (nI p) n) (fN F)).1)), some (.int (nI (fN F))), none] [] (lm_T M3 v G) Q
    have h3 := RC_Q h hI
    refine lm_G_sg 4 (pc' := 31) (L' := [some (.ref 0), some (.int x), some (.int 1), some (.int (nI p)), some (.int (nI n)), some (.int ((mxS g (fWit F s p n) nI (ownN F nl s (nI p) n) (fN F)).2)), some (.int ((mxS g (fWit F s p n) nI (ownN F nl s (nI p) n) (fN F)).1)), some (.int (nI (fN F))), none]) (S' := [.int (M3 14 0), .int (nI (fN F))]) (σ' := lm_T M3 v G) rfl trivial ?_
    rw [show M3 14 0 = nI (fN F) from h3.n]
    refine lm_G_br (b := (nI (fN F)) ≤ (nI (fN F))) (t := 107) (S' := []) rfl (fun hc => ?_) (fun hc => absurd (nI_le (Nat.le_refl _) (by omega)) hc)
    refine lm_G_sg 1 (pc' := 109) (L' := [some (.ref 0), some (.int x), some (.int 1), some (.int (nI p)), some (.int (nI n)), some (.int ((mxS g (fWit F s p n) nI (ownN F nl s (nI p) n) (fN F)).2)), some (.int ((mxS g (fWit F s p n) nI (ownN F nl s (nI p) n) (fN F)).1)), some (.int (nI (fN F))), none]) (S' := [.int ((mxS g (fWit F s p n) nI (ownN F nl s (nI p) n) (fN F)).1)]) (σ' := lm_T M3 v G) rfl trivial ?_
    exact lm_G_re rfl trivial (Nat.zero_le _) (Nat.zero_le _) (hQ _ hI)
  ·
    try dsimp only
    exact t2.2.1
set_option maxRecDepth 10000 in
theorem c_toHush {X : lm_X} {d v : Nat} {M : Nat → Nat → Int32} {G : Nat → Nat → Int64} {Q : lm_O → lm_S → Prop} {F : Fa} {s : Sc} {x z : Int32} (hF : okF F) (h : RC 28 M F s) (hs : okS F s) (hl : M 28 12 = -1) (hQ : ∀ M1, Fr frQ M M1 → Q (cO (aHus F s x z)) (lm_T M1 v G)) : lm_Q X (d + 8) 110 [.ref 0, .int x, .int z] (lm_T M v G) Q := by
  have hn := hF.n
  have hm := hF.m
  show lm_G X (d + 8) 110 106 0 0 0 [some (.ref 0), some (.int x), some (.int z)] [] (lm_T M v G) Q
  refine lm_G_sg 2 (pc' := 2) (L' := [some (.ref 0), some (.int x), some (.int z)]) (S' := [.int x, .ref 0]) (σ' := lm_T M v G) rfl trivial ?_
  refine lm_G_ca (j := 133) (as := [.ref 0, .int x]) (rest := []) rfl (Or.inl rfl) (Nat.le_of_ble_eq_true rfl) (Nat.le_of_ble_eq_true rfl) (Nat.le_of_ble_eq_true rfl) (Nat.le_of_ble_eq_true rfl) rfl ?_
  refine c_isPerson hF h ?_
  show lm_G X (d + 8) 110 106 0 0 5 [some (.ref 0), some (.int x), some (.int z)] [.int (b2i (isP (fN F) x))] (lm_T M v G) Q
  rcases Bool.eq_false_or_eq_true (isP (fN F) x) with hx | hx
  rotate_left
  ·
    rw [hx]
    show lm_G X (d + 8) 110 106 0 0 5 [some (.ref 0), some (.int x), some (.int z)] [.int 0] (lm_T M v G) Q
    rw [show aHus F s x z = .inr false from by simp +decide only [aHus, hx, if_true, if_false, Bool.and_true, Bool.true_and, Bool.and_self, Bool.false_and, Bool.and_false, Bool.false_eq_true]] at hQ
    refine lm_G_ca (j := 137) (as := [.int 0]) (rest := []) rfl (Or.inl rfl) (Nat.le_of_ble_eq_true rfl) (Nat.le_of_ble_eq_true rfl) (Nat.le_of_ble_eq_true rfl) (Nat.le_of_ble_eq_true rfl) rfl ?_
    exact c_mustExistF ⟨by decide, rfl, hQ M (Fr_rf _ _)⟩
  ·
    rw [hx]
    show lm_G X (d + 8) 110 106 0 0 5 [some (.ref 0), some (.int x), some (.int z)] [.int 1] (lm_T M v G) Q
    refine lm_G_ca (j := 137) (as := [.int 1]) (rest := []) rfl (Or.inl rfl) (Nat.le_of_ble_eq_true rfl) (Nat.le_of_ble_eq_true rfl) (Nat.le_of_ble_eq_true rfl) (Nat.le_of_ble_eq_true rfl) rfl ?_
    refine c_mustExistT ?_
    show lm_G X (d + 8) 110 106 1 6 8 [some (.ref 0), some (.int x), some (.int z)] [] (lm_T M v G) Q
    refine lm_G_sg 3 (pc' := 12) (L' := [some (.ref 0), some (.int x), some (.int z)]) (S' := [.int 60, .int 1, .int z]) (σ' := lm_T M v G) rfl trivial ?_
    refine lm_G_ca (j := 136) (as := [.int z, .int 1, .int 60]) (rest := []) rfl (Or.inl rfl) (Nat.le_of_ble_eq_true rfl) (Nat.le_of_ble_eq_true rfl) (Nat.le_of_ble_eq_true rfl) (Nat.le_of_ble_eq_true rfl) rfl ?_
    refine c_isWithin ?_
    show lm_G X (d + 8) 110 106 1 6 15 [some (.ref 0), some (.int x), some (.int z)] [.int (b2i (inR z 1 60))] (lm_T M v G) Q
    rcases Bool.eq_false_or_eq_true (inR z 1 60) with hz | hz
    rotate_left
    ·
      rw [hz]
      show lm_G X (d + 8) 110 106 1 6 15 [some (.ref 0), some (.int x), some (.int z)] [.int 0] (lm_T M v G) Q
      rw [show aHus F s x z = .inr true from by simp +decide only [aHus, hz, hx, if_true, if_false, Bool.and_true, Bool.true_and, Bool.and_self, Bool.false_and, Bool.and_false, Bool.false_eq_true]] at hQ
      refine lm_G_ca (j := 138) (as := [.int 0]) (rest := []) rfl (Or.inl rfl) (Nat.le_of_ble_eq_true rfl) (Nat.le_of_ble_eq_true rfl) (Nat.le_of_ble_eq_true rfl) (Nat.le_of_ble_eq_true rfl) rfl ?_
      exact c_mustFitF ⟨by decide, rfl, hQ M (Fr_rf _ _)⟩
    ·
      rw [hz]
      show lm_G X (d + 8) 110 106 1 6 15 [some (.ref 0), some (.int x), some (.int z)] [.int 1] (lm_T M v G) Q
      refine lm_G_ca (j := 138) (as := [.int 1]) (rest := []) rfl (Or.inl rfl) (Nat.le_of_ble_eq_true rfl) (Nat.le_of_ble_eq_true rfl) (Nat.le_of_ble_eq_true rfl) (Nat.le_of_ble_eq_true rfl) rfl ?_
      refine c_mustFitT ?_
      show lm_G X (d + 8) 110 106 2 12 18 [some (.ref 0), some (.int x), some (.int z)] [] (lm_T M v G) Q
      obtain ⟨p, hp, rfl⟩ := isP_nI hx (by omega)
      have cp : (nI p).toNatClampNeg = p := nI_clamp (by omega)
      obtain ⟨n, gn, hn, rfl⟩ := inR_nI1 (n := 60) (by decide) hz
      have cn : (nI n).toNatClampNeg = n := nI_clamp (by omega)
      rw [show aHus F s (nI p) (nI n) = .inl (mxS (gHus s) (fHus F s p n) nI (ownN F nl s (nI p) n) (fN F)).1 from by simp +decide only [aHus, hx, hz, cp, cn, if_true, if_false, Bool.and_true, Bool.true_and, Bool.and_self, Bool.false_and, Bool.and_false, Bool.false_eq_true]] at hQ
      refine lm_G_sg 3 (pc' := 23) (L' := [some (.ref 0), some (.int (nI p)), some (.int (nI n))]) (S' := [.ref 28, .ref 0]) (σ' := lm_T M v G) rfl trivial ?_
      refine lm_G_ca (j := 59) (as := [.ref 28]) (rest := [.ref 0]) rfl (Or.inl rfl) (Nat.le_of_ble_eq_true rfl) (Nat.le_of_ble_eq_true rfl) (Nat.le_of_ble_eq_true rfl) (Nat.le_of_ble_eq_true rfl) rfl ?_
      refine c_allHummers28 hs hF h ?_
      show lm_G X (d + 8) 110 106 2 12 26 [some (.ref 0), some (.int (nI p)), some (.int (nI n))] [.int (msk (fun p => decide (sHu s p ≠ -1)) (fN F)), .ref 0] (lm_T M v G) Q
      refine lm_G_sg 3 (pc' := 29) (L' := [some (.ref 0), some (.int (nI p)), some (.int (nI n))]) (S' := [.int (nI n), .int (nI p), .int 0, .int (msk (fun p => decide (sHu s p ≠ -1)) (fN F)), .ref 0]) (σ' := lm_T M v G) rfl trivial ?_
      refine lm_G_ca (j := 76) (as := [.ref 0, .int (msk (fun p => decide (sHu s p ≠ -1)) (fN F)), .int 0, .int (nI p), .int (nI n)]) (rest := []) rfl (Or.inl rfl) (Nat.le_of_ble_eq_true rfl) (Nat.le_of_ble_eq_true rfl) (Nat.le_of_ble_eq_true rfl) (Nat.le_of_ble_eq_true rfl) rfl ?_
      refine c_bestH (g := gHus s) hF h hs hl (fun q hq => bitW_mskn (by omega) hq) (by omega) (fun M1 f1 => ?_)
      show lm_G X (d + 8) 110 106 2 12 32 [some (.ref 0), some (.int (nI p)), some (.int (nI n))] [.int ((mxS (gHus s) (fHus F s p n) nI (ownN F nl s (nI p) n) (fN F)).1)] (lm_T M1 v G) Q
      exact lm_G_re rfl trivial (Nat.le_of_ble_eq_true rfl) (Nat.le_of_ble_eq_true rfl) (hQ _ f1)
set_option maxRecDepth 10000 in
theorem m_toHush {X : lm_X} {d v : Nat} {M : Nat → Nat → Int32} {G : Nat → Nat → Int64} {Q : lm_O → lm_S → Prop} {F : Fa} {s : Sc} {x z : Int32} (hF : okF F) (h : RM M F s) (hs : okS F s) (hl : M 64 42 = 0) (hQ : ∀ M1, RM M1 F s → FrN M M1 → M1 64 4 = cd (aHus F s x z) → Q (.inl (some (.int (vl (aHus F s x z))))) (lm_T M1 v G)) : lm_Q X (d + 7) 224 [.ref 64, .int x, .int z] (lm_T M v G) Q := by
  have hn := hF.n
  have hm := hF.m
  show lm_G X (d + 7) 224 106 0 0 0 [some (.ref 64), some (.int x), some (.int z), none, none, none, none] [] (lm_T M v G) Q
  refine lm_G_sg 3 (pc' := 5) (L' := [some (.ref 64), some (.int x), some (.int z), none, none, none, none]) (S' := []) (σ' := lm_T (lm_wr M 64 4 0) v G) rfl ⟨trivial, trivial, trivial⟩ ?_
  have h0 : RM (lm_wr M 64 4 0) F s := RM_taken h 4 (by decide) 0
  have f0 : FrN M (lm_wr M 64 4 0) := FrN_w64 (FrN_rf _) (by decide)
  have c0 : (lm_wr M 64 4 0) 64 4 = 0 := wr_same
  have l0 : (lm_wr M 64 4 0) 64 42 = 0 := (wr_at (by decide)).trans hl
  revert h0 f0 c0 l0
  generalize lm_wr M 64 4 0 = M0
  intro h0 f0 c0 l0
  refine lm_G_sg 2 (pc' := 7) (L' := [some (.ref 64), some (.int x), some (.int z), none, none, none, none]) (S' := [.int x, .ref 64]) (σ' := lm_T M0 v G) rfl trivial ?_
  refine lm_G_ca (j := 145) (as := [.ref 64, .int x]) (rest := []) rfl (Or.inl rfl) (Nat.le_of_ble_eq_true rfl) (Nat.le_of_ble_eq_true rfl) (Nat.le_of_ble_eq_true rfl) (Nat.le_of_ble_eq_true rfl) rfl ?_
  refine m_isPerson hF h0 ?_
  show lm_G X (d + 7) 224 106 0 0 10 [some (.ref 64), some (.int x), some (.int z), none, none, none, none] [.int (b2i (isP (fN F) x))] (lm_T M0 v G) Q
  refine lm_G_br (b := ¬ (b2i (isP (fN F) x)) = 0) (t := 19) (S' := []) rfl (fun hx => ?_) (fun hx => ?_)
  rotate_left
  ·
    replace hx := b2i_0 (Classical.not_not.mp hx)
    refine lm_G_sg 2 (pc' := 15) (L' := [some (.ref 64), some (.int x), some (.int z), none, none, none, none]) (S' := [.int 1, .ref 64]) (σ' := lm_T M0 v G) rfl trivial ?_
    refine lm_G_ca (j := 141) (as := [.ref 64, .int 1]) (rest := []) rfl (Or.inl rfl) (Nat.le_of_ble_eq_true rfl) (Nat.le_of_ble_eq_true rfl) (Nat.le_of_ble_eq_true rfl) (Nat.le_of_ble_eq_true rfl) rfl ?_
    refine m_fail ?_
    show lm_G X (d + 7) 224 106 0 0 18 [some (.ref 64), some (.int x), some (.int z), none, none, none, none] [.int 0] (lm_T (lm_wr M0 64 4 1) v G) Q
    rw [show aHus F s x z = .inr false from by simp +decide only [aHus, hx, if_true, if_false, Bool.and_true, Bool.true_and, Bool.and_self, Bool.false_and, Bool.and_false, Bool.false_eq_true]] at hQ
    exact lm_G_re rfl trivial (Nat.zero_le _) (Nat.zero_le _) (hQ _ (RM_taken h0 4 (by decide) 1) (FrN_w64 f0 (by decide)) wr_same)
  ·
    replace hx := b2i_1 hx
    refine lm_G_sg 4 (pc' := 25) (L' := [some (.ref 64), some (.int x), some (.int z), none, none, none, none]) (S' := [.long 60, .long 1, .long z.toInt64]) (σ' := lm_T M0 v G) rfl trivial ?_
    refine lm_G_ca (j := 142) (as := [.long z.toInt64, .long 1, .long 60]) (rest := []) rfl (Or.inl rfl) (Nat.le_of_ble_eq_true rfl) (Nat.le_of_ble_eq_true rfl) (Nat.le_of_ble_eq_true rfl) (Nat.le_of_ble_eq_true rfl) rfl ?_
    refine c_isIn ?_
    show lm_G X (d + 7) 224 106 0 0 28 [some (.ref 64), some (.int x), some (.int z), none, none, none, none] [.int (b2i (inL (z.toInt64) 1 60))] (lm_T M0 v G) Q
    rw [show inL (z.toInt64) 1 60 = inR z 1 60 from (inL_R z 1 60)]
    refine lm_G_br (b := ¬ (b2i (inR z 1 60)) = 0) (t := 37) (S' := []) rfl (fun hz => ?_) (fun hz => ?_)
    rotate_left
    ·
      replace hz := b2i_0 (Classical.not_not.mp hz)
      refine lm_G_sg 2 (pc' := 33) (L' := [some (.ref 64), some (.int x), some (.int z), none, none, none, none]) (S' := [.int 2, .ref 64]) (σ' := lm_T M0 v G) rfl trivial ?_
      refine lm_G_ca (j := 141) (as := [.ref 64, .int 2]) (rest := []) rfl (Or.inl rfl) (Nat.le_of_ble_eq_true rfl) (Nat.le_of_ble_eq_true rfl) (Nat.le_of_ble_eq_true rfl) (Nat.le_of_ble_eq_true rfl) rfl ?_
      refine m_fail ?_
      show lm_G X (d + 7) 224 106 0 0 36 [some (.ref 64), some (.int x), some (.int z), none, none, none, none] [.int 0] (lm_T (lm_wr M0 64 4 2) v G) Q
      rw [show aHus F s x z = .inr true from by simp +decide only [aHus, hz, hx, if_true, if_false, Bool.and_true, Bool.true_and, Bool.and_self, Bool.false_and, Bool.and_false, Bool.false_eq_true]] at hQ
      exact lm_G_re rfl trivial (Nat.zero_le _) (Nat.zero_le _) (hQ _ (RM_taken h0 4 (by decide) 2) (FrN_w64 f0 (by decide)) wr_same)
    ·
      replace hz := b2i_1 hz
      obtain ⟨p, hp, rfl⟩ := isP_nI hx (by omega)
      have cp : (nI p).toNatClampNeg = p := nI_clamp (by omega)
      obtain ⟨n, gn, hn, rfl⟩ := inR_nI1 (n := 60) (by decide) hz
      have cn : (nI n).toNatClampNeg = n := nI_clamp (by omega)
      rw [show aHus F s (nI p) (nI n) = .inl (mxS (gHus s) (fHus F s p n) nI (ownN F nl s (nI p) n) (fN F)).1 from by simp +decide only [aHus, hx, hz, cp, cn, if_true, if_false, Bool.and_true, Bool.true_and, Bool.and_self, Bool.false_and, Bool.and_false, Bool.false_eq_true]] at hQ
      refine lm_G_sg 4 (pc' := 43) (L' := [some (.ref 64), some (.int (nI p)), some (.int (nI n)), none, none, none, none]) (S' := [.int 0, .ref 90, .ref 64]) (σ' := lm_T M0 v G) rfl trivial ?_
      refine lm_G_ca (j := 177) (as := [.ref 64, .ref 90, .int 0]) (rest := []) rfl (Or.inl rfl) (Nat.le_of_ble_eq_true rfl) (Nat.le_of_ble_eq_true rfl) (Nat.le_of_ble_eq_true rfl) (Nat.le_of_ble_eq_true rfl) rfl ?_
      refine t_pack hF h0 f0 c0 l0 (fun M1 t1 => ?_)
      show lm_G X (d + 7) 224 106 0 0 46 [some (.ref 64), some (.int (nI p)), some (.int (nI n)), none, none, none, none] [] (lm_T M1 v G) Q
      refine lm_G_sg 5 (pc' := 51) (L' := [some (.ref 64), some (.int (nI p)), some (.int (nI n)), some (.int (-1)), none, none, none]) (S' := [.int (nI n), .int (nI p), .ref 64]) (σ' := lm_T M1 v G) rfl trivial ?_
      refine lm_G_ca (j := 221) (as := [.ref 64, .int (nI p), .int (nI n)]) (rest := []) rfl (Or.inl rfl) (Nat.le_of_ble_eq_true rfl) (Nat.le_of_ble_eq_true rfl) (Nat.le_of_ble_eq_true rfl) (Nat.le_of_ble_eq_true rfl) rfl ?_
      refine t_ownsIn hF t1 hs rfl (by omega) (fun M2 t2 => ?_)
      show lm_G X (d + 7) 224 106 0 0 54 [some (.ref 64), some (.int (nI p)), some (.int (nI n)), some (.int (-1)), none, none, none] [.int (ownN F nl s (nI p) n)] (lm_T M2 v G) Q
      refine lm_G_sg 3 (pc' := 59) (L' := [some (.ref 64), some (.int (nI p)), some (.int (nI n)), some (.int (-1)), some (.int (ownN F nl s (nI p) n)), some (.int 0), none]) (S' := []) (σ' := lm_T M2 v G) rfl trivial ?_
      refine lm_ind (α := (Nat → Fn)) (St := fun (j : Nat) zz => (fun (M3 : Nat → Fn) => lm_G X (d + 7) 224 106 0 0 59 [some (.ref 64), some (.int (nI p)), some (.int (nI n)), some (.int ((mxS (gHus s) (fHus F s p n) nI (ownN F nl s (nI p) n) j).1)), some (.int ((mxS (gHus s) (fHus F s p n) nI (ownN F nl s (nI p) n) j).2)), some (.int (nI j)), none] [] (lm_T M3 v G) Q) zz) (Inv := fun (j : Nat) zz => (fun (M3 : Nat → Fn) => TM M F s M3 s) zz) (fN F) (fun j zz hj hI ih => ?_) (fun zz hI => ?_) (0) M2 (by omega) ?_
      ·
        revert ih hI
        revert zz
        intro M3 hI ih
        replace hI : TM M F s M3 s := hI
        replace ih : ∀ (M3 : Nat → Fn) (_ : TM M F s M3 s), lm_G X (d + 7) 224 106 0 0 59 [some (.ref 64), some (.int (nI p)), some (.int (nI n)), some (.int ((mxS (gHus s) (fHus F s p n) nI (ownN F nl s (nI p) n) (j + 1)).1)), some (.int ((mxS (gHus s) (fHus F s p n) nI (ownN F nl s (nI p) n) (j + 1)).2)), some (.int (nI (j + 1))), none] [] (lm_T M3 v G) Q := fun M3 q => ih M3 q
        show lm_G X (d + 7) 224 106 0 0 59 [some (.ref 64), some (.int (nI p)), some (.int (nI n)), some (.int ((mxS (gHus s) (fHus F s p n) nI (ownN F nl s (nI p) n) j).1)), some (.int ((mxS (gHus s) (fHus F s p n) nI (ownN F nl s (nI p) n) j).2)), some (.int (nI j)), none] [] (lm_T M3 v G) Q
        refine lm_G_sg 5 (pc' := 67) (L' := [some (.ref 64), some (.int (nI p)), some (.int (nI n)), some (.int ((mxS (gHus s) (fHus F s p n) nI (ownN F nl s (nI p) n) j).1)), some (.int ((mxS (gHus s) (fHus F s p n) nI (ownN F nl s (nI p) n) j).2)), some (.int (nI j)), none]) (S' := [.int (M3 68 0), .int (nI j)]) (σ' := lm_T M3 v G) rfl ⟨(lm_inb_ok rfl), trivial, trivial⟩ ?_
        rw [show M3 68 0 = nI (fN F) from hI.1.n]
        refine lm_G_br (b := (nI (fN F)) ≤ (nI j)) (t := 123) (S' := []) rfl (fun hc => absurd hc (nI_ge hj (by omega))) (fun hc => ?_)
        refine lm_G_sg 4 (pc' := 77) (L' := [some (.ref 64), some (.int (nI p)), some (.int (nI n)), some (.int ((mxS (gHus s) (fHus F s p n) nI (ownN F nl s (nI p) n) j).1)), some (.int ((mxS (gHus s) (fHus F s p n) nI (ownN F nl s (nI p) n) j).2)), some (.int (nI j)), none]) (S' := [.int (M3 82 (nI j).toNatClampNeg)]) (σ' := lm_T M3 v G) rfl ⟨(vp_in_nI (by omega) (by omega)), trivial, trivial⟩ ?_
        rw [show (nI j).toNatClampNeg = j from nI_clamp (by omega)]
        rw [show M3 82 j = sHu s j from hI.1.hu j (by omega)]
        refine lm_G_sg 1 (pc' := 78) (L' := [some (.ref 64), some (.int (nI p)), some (.int (nI n)), some (.int ((mxS (gHus s) (fHus F s p n) nI (ownN F nl s (nI p) n) j).1)), some (.int ((mxS (gHus s) (fHus F s p n) nI (ownN F nl s (nI p) n) j).2)), some (.int (nI j)), none]) (S' := [.int (-1), .int (sHu s j)]) (σ' := lm_T M3 v G) rfl trivial ?_
        refine lm_G_br (b := ¬ (sHu s j) = (-1)) (t := 84) (S' := []) rfl (fun h5 => ?_) (fun h5 => ?_)
        rotate_left
        ·
          replace h5 := Classical.not_not.mp h5
          refine lm_G_sg 2 (pc' := 120) (L' := [some (.ref 64), some (.int (nI p)), some (.int (nI n)), some (.int ((mxS (gHus s) (fHus F s p n) nI (ownN F nl s (nI p) n) j).1)), some (.int ((mxS (gHus s) (fHus F s p n) nI (ownN F nl s (nI p) n) j).2)), some (.int ((nI j) + 1)), none]) (S' := []) (σ' := lm_T M3 v G) rfl trivial ?_
          rw [nI_1]
          refine lm_G_sg 1 (pc' := 59) (L' := [some (.ref 64), some (.int (nI p)), some (.int (nI n)), some (.int ((mxS (gHus s) (fHus F s p n) nI (ownN F nl s (nI p) n) j).1)), some (.int ((mxS (gHus s) (fHus F s p n) nI (ownN F nl s (nI p) n) j).2)), some (.int (nI (j + 1))), none]) (S' := []) (σ' := lm_T M3 v G) rfl trivial ?_
          rw [mx_g (g := (gHus s)) (f := (fHus F s p n)) (decide_eq_false (fun w => w h5))] at ih
          exact ih _ hI
        ·
          have eg : (gHus s) j = true := decide_eq_true (fun e => h5 e)
          refine lm_G_sg 4 (pc' := 89) (L' := [some (.ref 64), some (.int (nI p)), some (.int (nI n)), some (.int ((mxS (gHus s) (fHus F s p n) nI (ownN F nl s (nI p) n) j).1)), some (.int ((mxS (gHus s) (fHus F s p n) nI (ownN F nl s (nI p) n) j).2)), some (.int (nI j)), none]) (S' := [.int (1 <<< ((nI j) &&& 31)), .ref 64]) (σ' := lm_T M3 v G) rfl trivial ?_
          refine lm_G_ca (j := 191) (as := [.ref 64, .int (1 <<< ((nI j) &&& 31))]) (rest := []) rfl (Or.inl rfl) (Nat.le_of_ble_eq_true rfl) (Nat.le_of_ble_eq_true rfl) (Nat.le_of_ble_eq_true rfl) (Nat.le_of_ble_eq_true rfl) rfl ?_
          refine t_allStop hF hI (fun M4 t4 e4 => ?_)
          show lm_G X (d + 7) 224 106 0 0 92 [some (.ref 64), some (.int (nI p)), some (.int (nI n)), some (.int ((mxS (gHus s) (fHus F s p n) nI (ownN F nl s (nI p) n) j).1)), some (.int ((mxS (gHus s) (fHus F s p n) nI (ownN F nl s (nI p) n) j).2)), some (.int (nI j)), none] [] (lm_T M4 v G) Q
          refine lm_G_sg 3 (pc' := 95) (L' := [some (.ref 64), some (.int (nI p)), some (.int (nI n)), some (.int ((mxS (gHus s) (fHus F s p n) nI (ownN F nl s (nI p) n) j).1)), some (.int ((mxS (gHus s) (fHus F s p n) nI (ownN F nl s (nI p) n) j).2)), some (.int (nI j)), none]) (S' := [.int (nI n), .int (nI p), .ref 64]) (σ' := lm_T M4 v G) rfl trivial ?_
          refine lm_G_ca (j := 221) (as := [.ref 64, .int (nI p), .int (nI n)]) (rest := []) rfl (Or.inl rfl) (Nat.le_of_ble_eq_true rfl) (Nat.le_of_ble_eq_true rfl) (Nat.le_of_ble_eq_true rfl) (Nat.le_of_ble_eq_true rfl) rfl ?_
          refine t_ownsIn hF t4 (ok_all hs _) (br_all _) (by omega) (fun M6 t6 => ?_)
          show lm_G X (d + 7) 224 106 0 0 98 [some (.ref 64), some (.int (nI p)), some (.int (nI n)), some (.int ((mxS (gHus s) (fHus F s p n) nI (ownN F nl s (nI p) n) j).1)), some (.int ((mxS (gHus s) (fHus F s p n) nI (ownN F nl s (nI p) n) j).2)), some (.int (nI j)), none] [.int (fHus F s p n j)] (lm_T M6 v G) Q
          refine lm_G_sg 3 (pc' := 104) (L' := [some (.ref 64), some (.int (nI p)), some (.int (nI n)), some (.int ((mxS (gHus s) (fHus F s p n) nI (ownN F nl s (nI p) n) j).1)), some (.int ((mxS (gHus s) (fHus F s p n) nI (ownN F nl s (nI p) n) j).2)), some (.int (nI j)), some (.int (fHus F s p n j))]) (S' := [.int ((mxS (gHus s) (fHus F s p n) nI (ownN F nl s (nI p) n) j).2), .int (fHus F s p n j)]) (σ' := lm_T M6 v G) rfl trivial ?_
          refine lm_G_br (b := ((mxS (gHus s) (fHus F s p n) nI (ownN F nl s (nI p) n) j).2) < (fHus F s p n j)) (t := 110) (S' := []) rfl (fun h7 => ?_) (fun h7 => ?_)
          ·
            refine lm_G_sg 5 (pc' := 120) (L' := [some (.ref 64), some (.int (nI p)), some (.int (nI n)), some (.int (nI j)), some (.int (fHus F s p n j)), some (.int ((nI j) + 1)), some (.int (fHus F s p n j))]) (S' := []) (σ' := lm_T M6 v G) rfl trivial ?_
            rw [nI_1]
            refine lm_G_sg 1 (pc' := 59) (L' := [some (.ref 64), some (.int (nI p)), some (.int (nI n)), some (.int (nI j)), some (.int (fHus F s p n j)), some (.int (nI (j + 1))), some (.int (fHus F s p n j))]) (S' := []) (σ' := lm_T M6 v G) rfl trivial ?_
            rw [mx_y (f := (fHus F s p n)) eg h7] at ih
            refine lm_G_jk (L := [some (.ref 64), some (.int (nI p)), some (.int (nI n)), some (.int (nI j)), some (.int (fHus F s p n j)), some (.int (nI (j + 1))), none]) ⟨rfl, rfl, rfl, rfl, rfl, rfl, trivial⟩ ?_
            exact ih _ t6
          ·
            refine lm_G_sg 2 (pc' := 120) (L' := [some (.ref 64), some (.int (nI p)), some (.int (nI n)), some (.int ((mxS (gHus s) (fHus F s p n) nI (ownN F nl s (nI p) n) j).1)), some (.int ((mxS (gHus s) (fHus F s p n) nI (ownN F nl s (nI p) n) j).2)), some (.int ((nI j) + 1)), some (.int (fHus F s p n j))]) (S' := []) (σ' := lm_T M6 v G) rfl trivial ?_
            rw [nI_1]
            refine lm_G_sg 1 (pc' := 59) (L' := [some (.ref 64), some (.int (nI p)), some (.int (nI n)), some (.int ((mxS (gHus s) (fHus F s p n) nI (ownN F nl s (nI p) n) j).1)), some (.int ((mxS (gHus s) (fHus F s p n) nI (ownN F nl s (nI p) n) j).2)), some (.int (nI (j + 1))), some (.int (fHus F s p n j))]) (S' := []) (σ' := lm_T M6 v G) rfl trivial ?_
            rw [mx_n (f := (fHus F s p n)) h7] at ih
            refine lm_G_jk (L := [some (.ref 64), some (.int (nI p)), some (.int (nI n)), some (.int ((mxS (gHus s) (fHus F s p n) nI (ownN F nl s (nI p) n) j).1)), some (.int ((mxS (gHus s) (fHus F s p n) nI (ownN F nl s (nI p) n) j).2)), some (.int (nI (j + 1))), none]) ⟨rfl, rfl, rfl, rfl, rfl, rfl, trivial⟩ ?_
            exact ih _ t6
      ·
        revert hI
        revert zz
        intro M3 hI
        replace hI : TM M F s M3 s := hI
        show lm_G X (d + 7) 224 106 0 0 59 [some (.ref 64), some (.int (nI p)), some (.int (nI n)), some (.int ((mxS (gHus s) (fHus F s p n) nI (ownN F nl s (nI p) n) (fN F)).1)), some (.int ((mxS (gHus s) (fHus F s p n) nI (ownN F nl s (nI p) n) (fN F)).2)), some (.int (nI (fN F))), none] [] (lm_T M3 v G) Q
        refine lm_G_sg 5 (pc' := 67) (L' := [some (.ref 64), some (.int (nI p)), some (.int (nI n)), some (.int ((mxS (gHus s) (fHus F s p n) nI (ownN F nl s (nI p) n) (fN F)).1)), some (.int ((mxS (gHus s) (fHus F s p n) nI (ownN F nl s (nI p) n) (fN F)).2)), some (.int (nI (fN F))), none]) (S' := [.int (M3 68 0), .int (nI (fN F))]) (σ' := lm_T M3 v G) rfl ⟨(lm_inb_ok rfl), trivial, trivial⟩ ?_
        rw [show M3 68 0 = nI (fN F) from hI.1.n]
        refine lm_G_br (b := (nI (fN F)) ≤ (nI (fN F))) (t := 123) (S' := []) rfl (fun hc => ?_) (fun hc => absurd (nI_le (Nat.le_refl _) (by omega)) hc)
        refine lm_G_sg 1 (pc' := 124) (L' := [some (.ref 64), some (.int (nI p)), some (.int (nI n)), some (.int ((mxS (gHus s) (fHus F s p n) nI (ownN F nl s (nI p) n) (fN F)).1)), some (.int ((mxS (gHus s) (fHus F s p n) nI (ownN F nl s (nI p) n) (fN F)).2)), some (.int (nI (fN F))), none]) (S' := [.int ((mxS (gHus s) (fHus F s p n) nI (ownN F nl s (nI p) n) (fN F)).1)]) (σ' := lm_T M3 v G) rfl trivial ?_
        exact lm_G_re rfl trivial (Nat.zero_le _) (Nat.zero_le _) (hQ _ hI.1 hI.2.1 hI.2.2.2.1)
      ·
        try dsimp only
        exact t2
set_option maxRecDepth 10000 in
theorem c_without {X : lm_X} {d v : Nat} {M : Nat → Nat → Int32} {G : Nat → Nat → Int64} {Q : lm_O → lm_S → Prop} {F : Fa} {s : Sc} {x z : Int32} (hF : okF F) (h : RC 28 M F s) (hs : okS F s) (hl : M 28 12 = -1) (hQ : ∀ M1, Fr frQ M M1 → Q (cO (aWit F s x z)) (lm_T M1 v G)) : lm_Q X (d + 8) 111 [.ref 0, .int x, .int z] (lm_T M v G) Q := by
  have hn := hF.n
  have hm := hF.m
  show lm_G X (d + 8) 111 106 0 0 0 [some (.ref 0), some (.int x), some (.int z)] [] (lm_T M v G) Q
  refine lm_G_sg 2 (pc' := 2) (L' := [some (.ref 0), some (.int x), some (.int z)]) (S' := [.int x, .ref 0]) (σ' := lm_T M v G) rfl trivial ?_
  refine lm_G_ca (j := 133) (as := [.ref 0, .int x]) (rest := []) rfl (Or.inl rfl) (Nat.le_of_ble_eq_true rfl) (Nat.le_of_ble_eq_true rfl) (Nat.le_of_ble_eq_true rfl) (Nat.le_of_ble_eq_true rfl) rfl ?_
  refine c_isPerson hF h ?_
  show lm_G X (d + 8) 111 106 0 0 5 [some (.ref 0), some (.int x), some (.int z)] [.int (b2i (isP (fN F) x))] (lm_T M v G) Q
  rcases Bool.eq_false_or_eq_true (isP (fN F) x) with hx | hx
  rotate_left
  ·
    rw [hx]
    show lm_G X (d + 8) 111 106 0 0 5 [some (.ref 0), some (.int x), some (.int z)] [.int 0] (lm_T M v G) Q
    rw [show aWit F s x z = .inr false from by simp +decide only [aWit, hx, if_true, if_false, Bool.and_true, Bool.true_and, Bool.and_self, Bool.false_and, Bool.and_false, Bool.false_eq_true]] at hQ
    refine lm_G_ca (j := 137) (as := [.int 0]) (rest := []) rfl (Or.inl rfl) (Nat.le_of_ble_eq_true rfl) (Nat.le_of_ble_eq_true rfl) (Nat.le_of_ble_eq_true rfl) (Nat.le_of_ble_eq_true rfl) rfl ?_
    exact c_mustExistF ⟨by decide, rfl, hQ M (Fr_rf _ _)⟩
  ·
    rw [hx]
    show lm_G X (d + 8) 111 106 0 0 5 [some (.ref 0), some (.int x), some (.int z)] [.int 1] (lm_T M v G) Q
    refine lm_G_ca (j := 137) (as := [.int 1]) (rest := []) rfl (Or.inl rfl) (Nat.le_of_ble_eq_true rfl) (Nat.le_of_ble_eq_true rfl) (Nat.le_of_ble_eq_true rfl) (Nat.le_of_ble_eq_true rfl) rfl ?_
    refine c_mustExistT ?_
    show lm_G X (d + 8) 111 106 1 6 8 [some (.ref 0), some (.int x), some (.int z)] [] (lm_T M v G) Q
    refine lm_G_sg 3 (pc' := 12) (L' := [some (.ref 0), some (.int x), some (.int z)]) (S' := [.int 60, .int 1, .int z]) (σ' := lm_T M v G) rfl trivial ?_
    refine lm_G_ca (j := 136) (as := [.int z, .int 1, .int 60]) (rest := []) rfl (Or.inl rfl) (Nat.le_of_ble_eq_true rfl) (Nat.le_of_ble_eq_true rfl) (Nat.le_of_ble_eq_true rfl) (Nat.le_of_ble_eq_true rfl) rfl ?_
    refine c_isWithin ?_
    show lm_G X (d + 8) 111 106 1 6 15 [some (.ref 0), some (.int x), some (.int z)] [.int (b2i (inR z 1 60))] (lm_T M v G) Q
    rcases Bool.eq_false_or_eq_true (inR z 1 60) with hz | hz
    rotate_left
    ·
      rw [hz]
      show lm_G X (d + 8) 111 106 1 6 15 [some (.ref 0), some (.int x), some (.int z)] [.int 0] (lm_T M v G) Q
      rw [show aWit F s x z = .inr true from by simp +decide only [aWit, hz, hx, if_true, if_false, Bool.and_true, Bool.true_and, Bool.and_self, Bool.false_and, Bool.and_false, Bool.false_eq_true]] at hQ
      refine lm_G_ca (j := 138) (as := [.int 0]) (rest := []) rfl (Or.inl rfl) (Nat.le_of_ble_eq_true rfl) (Nat.le_of_ble_eq_true rfl) (Nat.le_of_ble_eq_true rfl) (Nat.le_of_ble_eq_true rfl) rfl ?_
      exact c_mustFitF ⟨by decide, rfl, hQ M (Fr_rf _ _)⟩
    ·
      rw [hz]
      show lm_G X (d + 8) 111 106 1 6 15 [some (.ref 0), some (.int x), some (.int z)] [.int 1] (lm_T M v G) Q
      refine lm_G_ca (j := 138) (as := [.int 1]) (rest := []) rfl (Or.inl rfl) (Nat.le_of_ble_eq_true rfl) (Nat.le_of_ble_eq_true rfl) (Nat.le_of_ble_eq_true rfl) (Nat.le_of_ble_eq_true rfl) rfl ?_
      refine c_mustFitT ?_
      show lm_G X (d + 8) 111 106 2 12 18 [some (.ref 0), some (.int x), some (.int z)] [] (lm_T M v G) Q
      obtain ⟨p, hp, rfl⟩ := isP_nI hx (by omega)
      have cp : (nI p).toNatClampNeg = p := nI_clamp (by omega)
      obtain ⟨n, gn, hn, rfl⟩ := inR_nI1 (n := 60) (by decide) hz
      have cn : (nI n).toNatClampNeg = n := nI_clamp (by omega)
      rw [show aWit F s (nI p) (nI n) = .inl (mxS (gWit p) (fWit F s p n) nI (ownN F nl s (nI p) n) (fN F)).1 from by simp +decide only [aWit, hx, hz, cp, cn, if_true, if_false, Bool.and_true, Bool.true_and, Bool.and_self, Bool.false_and, Bool.and_false, Bool.false_eq_true]] at hQ
      refine lm_G_sg 9 (pc' := 27) (L' := [some (.ref 0), some (.int (nI p)), some (.int (nI n))]) (S' := [.int (nI n), .int (nI p), .int 1, .int (((1 : Int32) <<< ((nI p) &&& 31)) ^^^ (-1)), .ref 0]) (σ' := lm_T M v G) rfl trivial ?_
      refine lm_G_ca (j := 76) (as := [.ref 0, .int (((1 : Int32) <<< ((nI p) &&& 31)) ^^^ (-1)), .int 1, .int (nI p), .int (nI n)]) (rest := []) rfl (Or.inl rfl) (Nat.le_of_ble_eq_true rfl) (Nat.le_of_ble_eq_true rfl) (Nat.le_of_ble_eq_true rfl) (Nat.le_of_ble_eq_true rfl) rfl ?_
      refine c_bestW (g := gWit p) hF h hs hl (fun q hq => (bitW_nm (by omega)).trans ((congrArg (! ·) (bitW_bit1 (by omega) (by omega))).trans (decide_not (p := q = p)).symm)) (by omega) (fun M1 f1 => ?_)
      show lm_G X (d + 8) 111 106 2 12 30 [some (.ref 0), some (.int (nI p)), some (.int (nI n))] [.int ((mxS (gWit p) (fWit F s p n) nI (ownN F nl s (nI p) n) (fN F)).1)] (lm_T M1 v G) Q
      exact lm_G_re rfl trivial (Nat.le_of_ble_eq_true rfl) (Nat.le_of_ble_eq_true rfl) (hQ _ f1)
set_option maxRecDepth 10000 in
theorem m_without {X : lm_X} {d v : Nat} {M : Nat → Nat → Int32} {G : Nat → Nat → Int64} {Q : lm_O → lm_S → Prop} {F : Fa} {s : Sc} {x z : Int32} (hF : okF F) (h : RM M F s) (hs : okS F s) (hl : M 64 42 = 0) (hQ : ∀ M1, RM M1 F s → FrN M M1 → M1 64 4 = cd (aWit F s x z) → Q (.inl (some (.int (vl (aWit F s x z))))) (lm_T M1 v G)) : lm_Q X (d + 7) 225 [.ref 64, .int x, .int z] (lm_T M v G) Q := by
  have hn := hF.n
  have hm := hF.m
  show lm_G X (d + 7) 225 106 0 0 0 [some (.ref 64), some (.int x), some (.int z), none, none, none, none] [] (lm_T M v G) Q
  refine lm_G_sg 3 (pc' := 5) (L' := [some (.ref 64), some (.int x), some (.int z), none, none, none, none]) (S' := []) (σ' := lm_T (lm_wr M 64 4 0) v G) rfl ⟨trivial, trivial, trivial⟩ ?_
  have h0 : RM (lm_wr M 64 4 0) F s := RM_taken h 4 (by decide) 0
  have f0 : FrN M (lm_wr M 64 4 0) := FrN_w64 (FrN_rf _) (by decide)
  have c0 : (lm_wr M 64 4 0) 64 4 = 0 := wr_same
  have l0 : (lm_wr M 64 4 0) 64 42 = 0 := (wr_at (by decide)).trans hl
  revert h0 f0 c0 l0
  generalize lm_wr M 64 4 0 = M0
  intro h0 f0 c0 l0
  refine lm_G_sg 2 (pc' := 7) (L' := [some (.ref 64), some (.int x), some (.int z), none, none, none, none]) (S' := [.int x, .ref 64]) (σ' := lm_T M0 v G) rfl trivial ?_
  refine lm_G_ca (j := 145) (as := [.ref 64, .int x]) (rest := []) rfl (Or.inl rfl) (Nat.le_of_ble_eq_true rfl) (Nat.le_of_ble_eq_true rfl) (Nat.le_of_ble_eq_true rfl) (Nat.le_of_ble_eq_true rfl) rfl ?_
  refine m_isPerson hF h0 ?_
  show lm_G X (d + 7) 225 106 0 0 10 [some (.ref 64), some (.int x), some (.int z), none, none, none, none] [.int (b2i (isP (fN F) x))] (lm_T M0 v G) Q
  refine lm_G_br (b := ¬ (b2i (isP (fN F) x)) = 0) (t := 19) (S' := []) rfl (fun hx => ?_) (fun hx => ?_)
  rotate_left
  ·
    replace hx := b2i_0 (Classical.not_not.mp hx)
    refine lm_G_sg 2 (pc' := 15) (L' := [some (.ref 64), some (.int x), some (.int z), none, none, none, none]) (S' := [.int 1, .ref 64]) (σ' := lm_T M0 v G) rfl trivial ?_
    refine lm_G_ca (j := 141) (as := [.ref 64, .int 1]) (rest := []) rfl (Or.inl rfl) (Nat.le_of_ble_eq_true rfl) (Nat.le_of_ble_eq_true rfl) (Nat.le_of_ble_eq_true rfl) (Nat.le_of_ble_eq_true rfl) rfl ?_
    refine m_fail ?_
    show lm_G X (d + 7) 225 106 0 0 18 [some (.ref 64), some (.int x), some (.int z), none, none, none, none] [.int 0] (lm_T (lm_wr M0 64 4 1) v G) Q
    rw [show aWit F s x z = .inr false from by simp +decide only [aWit, hx, if_true, if_false, Bool.and_true, Bool.true_and, Bool.and_self, Bool.false_and, Bool.and_false, Bool.false_eq_true]] at hQ
    exact lm_G_re rfl trivial (Nat.zero_le _) (Nat.zero_le _) (hQ _ (RM_taken h0 4 (by decide) 1) (FrN_w64 f0 (by decide)) wr_same)
  ·
    replace hx := b2i_1 hx
    refine lm_G_sg 4 (pc' := 25) (L' := [some (.ref 64), some (.int x), some (.int z), none, none, none, none]) (S' := [.long 60, .long 1, .long z.toInt64]) (σ' := lm_T M0 v G) rfl trivial ?_
    refine lm_G_ca (j := 142) (as := [.long z.toInt64, .long 1, .long 60]) (rest := []) rfl (Or.inl rfl) (Nat.le_of_ble_eq_true rfl) (Nat.le_of_ble_eq_true rfl) (Nat.le_of_ble_eq_true rfl) (Nat.le_of_ble_eq_true rfl) rfl ?_
    refine c_isIn ?_
    show lm_G X (d + 7) 225 106 0 0 28 [some (.ref 64), some (.int x), some (.int z), none, none, none, none] [.int (b2i (inL (z.toInt64) 1 60))] (lm_T M0 v G) Q
    rw [show inL (z.toInt64) 1 60 = inR z 1 60 from (inL_R z 1 60)]
    refine lm_G_br (b := ¬ (b2i (inR z 1 60)) = 0) (t := 37) (S' := []) rfl (fun hz => ?_) (fun hz => ?_)
    rotate_left
    ·
      replace hz := b2i_0 (Classical.not_not.mp hz)
      refine lm_G_sg 2 (pc' := 33) (L' := [some (.ref 64), some (.int x), some (.int z), none, none, none, none]) (S' := [.int 2, .ref 64]) (σ' := lm_T M0 v G) rfl trivial ?_
      refine lm_G_ca (j := 141) (as := [.ref 64, .int 2]) (rest := []) rfl (Or.inl rfl) (Nat.le_of_ble_eq_true rfl) (Nat.le_of_ble_eq_true rfl) (Nat.le_of_ble_eq_true rfl) (Nat.le_of_ble_eq_true rfl) rfl ?_
      refine m_fail ?_
      show lm_G X (d + 7) 225 106 0 0 36 [some (.ref 64), some (.int x), some (.int z), none, none, none, none] [.int 0] (lm_T (lm_wr M0 64 4 2) v G) Q
      rw [show aWit F s x z = .inr true from by simp +decide only [aWit, hz, hx, if_true, if_false, Bool.and_true, Bool.true_and, Bool.and_self, Bool.false_and, Bool.and_false, Bool.false_eq_true]] at hQ
      exact lm_G_re rfl trivial (Nat.zero_le _) (Nat.zero_le _) (hQ _ (RM_taken h0 4 (by decide) 2) (FrN_w64 f0 (by decide)) wr_same)
    ·
      replace hz := b2i_1 hz
      obtain ⟨p, hp, rfl⟩ := isP_nI hx (by omega)
      have cp : (nI p).toNatClampNeg = p := nI_clamp (by omega)
      obtain ⟨n, gn, hn, rfl⟩ := inR_nI1 (n := 60) (by decide) hz
      have cn : (nI n).toNatClampNeg = n := nI_clamp (by omega)
      rw [show aWit F s (nI p) (nI n) = .inl (mxS (gWit p) (fWit F s p n) nI (ownN F nl s (nI p) n) (fN F)).1 from by simp +decide only [aWit, hx, hz, cp, cn, if_true, if_false, Bool.and_true, Bool.true_and, Bool.and_self, Bool.false_and, Bool.and_false, Bool.false_eq_true]] at hQ
      refine lm_G_sg 4 (pc' := 43) (L' := [some (.ref 64), some (.int (nI p)), some (.int (nI n)), none, none, none, none]) (S' := [.int 0, .ref 90, .ref 64]) (σ' := lm_T M0 v G) rfl trivial ?_
      refine lm_G_ca (j := 177) (as := [.ref 64, .ref 90, .int 0]) (rest := []) rfl (Or.inl rfl) (Nat.le_of_ble_eq_true rfl) (Nat.le_of_ble_eq_true rfl) (Nat.le_of_ble_eq_true rfl) (Nat.le_of_ble_eq_true rfl) rfl ?_
      refine t_pack hF h0 f0 c0 l0 (fun M1 t1 => ?_)
      show lm_G X (d + 7) 225 106 0 0 46 [some (.ref 64), some (.int (nI p)), some (.int (nI n)), none, none, none, none] [] (lm_T M1 v G) Q
      refine lm_G_sg 5 (pc' := 51) (L' := [some (.ref 64), some (.int (nI p)), some (.int (nI n)), some (.int (-1)), none, none, none]) (S' := [.int (nI n), .int (nI p), .ref 64]) (σ' := lm_T M1 v G) rfl trivial ?_
      refine lm_G_ca (j := 221) (as := [.ref 64, .int (nI p), .int (nI n)]) (rest := []) rfl (Or.inl rfl) (Nat.le_of_ble_eq_true rfl) (Nat.le_of_ble_eq_true rfl) (Nat.le_of_ble_eq_true rfl) (Nat.le_of_ble_eq_true rfl) rfl ?_
      refine t_ownsIn hF t1 hs rfl (by omega) (fun M2 t2 => ?_)
      show lm_G X (d + 7) 225 106 0 0 54 [some (.ref 64), some (.int (nI p)), some (.int (nI n)), some (.int (-1)), none, none, none] [.int (ownN F nl s (nI p) n)] (lm_T M2 v G) Q
      refine lm_G_sg 3 (pc' := 59) (L' := [some (.ref 64), some (.int (nI p)), some (.int (nI n)), some (.int (-1)), some (.int (ownN F nl s (nI p) n)), some (.int 0), none]) (S' := []) (σ' := lm_T M2 v G) rfl trivial ?_
      refine lm_ind (α := (Nat → Fn)) (St := fun (j : Nat) zz => (fun (M3 : Nat → Fn) => lm_G X (d + 7) 225 106 0 0 59 [some (.ref 64), some (.int (nI p)), some (.int (nI n)), some (.int ((mxS (gWit p) (fWit F s p n) nI (ownN F nl s (nI p) n) j).1)), some (.int ((mxS (gWit p) (fWit F s p n) nI (ownN F nl s (nI p) n) j).2)), some (.int (nI j)), none] [] (lm_T M3 v G) Q) zz) (Inv := fun (j : Nat) zz => (fun (M3 : Nat → Fn) => TM M F s M3 s) zz) (fN F) (fun j zz hj hI ih => ?_) (fun zz hI => ?_) (0) M2 (by omega) ?_
      ·
        revert ih hI
        revert zz
        intro M3 hI ih
        replace hI : TM M F s M3 s := hI
        replace ih : ∀ (M3 : Nat → Fn) (_ : TM M F s M3 s), lm_G X (d + 7) 225 106 0 0 59 [some (.ref 64), some (.int (nI p)), some (.int (nI n)), some (.int ((mxS (gWit p) (fWit F s p n) nI (ownN F nl s (nI p) n) (j + 1)).1)), some (.int ((mxS (gWit p) (fWit F s p n) nI (ownN F nl s (nI p) n) (j + 1)).2)), some (.int (nI (j + 1))), none] [] (lm_T M3 v G) Q := fun M3 q => ih M3 q
        show lm_G X (d + 7) 225 106 0 0 59 [some (.ref 64), some (.int (nI p)), some (.int (nI n)), some (.int ((mxS (gWit p) (fWit F s p n) nI (ownN F nl s (nI p) n) j).1)), some (.int ((mxS (gWit p) (fWit F s p n) nI (ownN F nl s (nI p) n) j).2)), some (.int (nI j)), none] [] (lm_T M3 v G) Q
        refine lm_G_sg 5 (pc' := 67) (L' := [some (.ref 64), some (.int (nI p)), some (.int (nI n)), some (.int ((mxS (gWit p) (fWit F s p n) nI (ownN F nl s (nI p) n) j).1)), some (.int ((mxS (gWit p) (fWit F s p n) nI (ownN F nl s (nI p) n) j).2)), some (.int (nI j)), none]) (S' := [.int (M3 68 0), .int (nI j)]) (σ' := lm_T M3 v G) rfl ⟨(lm_inb_ok rfl), trivial, trivial⟩ ?_
        rw [show M3 68 0 = nI (fN F) from hI.1.n]
        refine lm_G_br (b := (nI (fN F)) ≤ (nI j)) (t := 131) (S' := []) rfl (fun hc => absurd hc (nI_ge hj (by omega))) (fun hc => ?_)
        refine lm_G_sg 2 (pc' := 73) (L' := [some (.ref 64), some (.int (nI p)), some (.int (nI n)), some (.int ((mxS (gWit p) (fWit F s p n) nI (ownN F nl s (nI p) n) j).1)), some (.int ((mxS (gWit p) (fWit F s p n) nI (ownN F nl s (nI p) n) j).2)), some (.int (nI j)), none]) (S' := [.int (nI p), .int (nI j)]) (σ' := lm_T M3 v G) rfl trivial ?_
        refine lm_G_br (b := ¬ (nI j) = (nI p)) (t := 79) (S' := []) rfl (fun h5 => ?_) (fun h5 => ?_)
        rotate_left
        ·
          replace h5 := Classical.not_not.mp h5
          refine lm_G_sg 2 (pc' := 128) (L' := [some (.ref 64), some (.int (nI p)), some (.int (nI n)), some (.int ((mxS (gWit p) (fWit F s p n) nI (ownN F nl s (nI p) n) j).1)), some (.int ((mxS (gWit p) (fWit F s p n) nI (ownN F nl s (nI p) n) j).2)), some (.int ((nI j) + 1)), none]) (S' := []) (σ' := lm_T M3 v G) rfl trivial ?_
          rw [nI_1]
          refine lm_G_sg 1 (pc' := 59) (L' := [some (.ref 64), some (.int (nI p)), some (.int (nI n)), some (.int ((mxS (gWit p) (fWit F s p n) nI (ownN F nl s (nI p) n) j).1)), some (.int ((mxS (gWit p) (fWit F s p n) nI (ownN F nl s (nI p) n) j).2)), some (.int (nI (j + 1))), none]) (S' := []) (σ' := lm_T M3 v G) rfl trivial ?_
          rw [mx_g (g := (gWit p)) (f := (fWit F s p n)) (decide_eq_false (fun w => w ((nI_eq (by omega) (by omega)).mp h5)))] at ih
          exact ih _ hI
        ·
          have eg : (gWit p) j = true := decide_eq_true (fun e => h5 (by rw [e]))
          refine lm_G_sg 4 (pc' := 84) (L' := [some (.ref 64), some (.int (nI p)), some (.int (nI n)), some (.int ((mxS (gWit p) (fWit F s p n) nI (ownN F nl s (nI p) n) j).1)), some (.int ((mxS (gWit p) (fWit F s p n) nI (ownN F nl s (nI p) n) j).2)), some (.int (nI j)), none]) (S' := [.int (1 <<< ((nI j) &&& 31)), .ref 64]) (σ' := lm_T M3 v G) rfl trivial ?_
          refine lm_G_ca (j := 191) (as := [.ref 64, .int (1 <<< ((nI j) &&& 31))]) (rest := []) rfl (Or.inl rfl) (Nat.le_of_ble_eq_true rfl) (Nat.le_of_ble_eq_true rfl) (Nat.le_of_ble_eq_true rfl) (Nat.le_of_ble_eq_true rfl) rfl ?_
          refine t_allStop hF hI (fun M4 t4 e4 => ?_)
          show lm_G X (d + 7) 225 106 0 0 87 [some (.ref 64), some (.int (nI p)), some (.int (nI n)), some (.int ((mxS (gWit p) (fWit F s p n) nI (ownN F nl s (nI p) n) j).1)), some (.int ((mxS (gWit p) (fWit F s p n) nI (ownN F nl s (nI p) n) j).2)), some (.int (nI j)), none] [] (lm_T M4 v G) Q
          refine lm_G_sg 5 (pc' := 95) (L' := [some (.ref 64), some (.int (nI p)), some (.int (nI n)), some (.int ((mxS (gWit p) (fWit F s p n) nI (ownN F nl s (nI p) n) j).1)), some (.int ((mxS (gWit p) (fWit F s p n) nI (ownN F nl s (nI p) n) j).2)), some (.int (nI j)), none]) (S' := []) (σ' := lm_T (lm_wr M4 64 42 (1 <<< ((nI j) &&& 31))) v G) rfl ⟨trivial, trivial, trivial⟩ ?_
          have h5c : RM (lm_wr M4 64 42 (1 <<< ((nI j) &&& 31))) F (husS F s j) := RM_taken t4.1 42 (by decide) _
          have f5 : Fr (frO 64) M4 (lm_wr M4 64 42 (1 <<< ((nI j) &&& 31))) := Fr_wr (Fr_rf _ _) rfl
          have l5 : (lm_wr M4 64 42 (1 <<< ((nI j) &&& 31))) 64 42 = bit1 (nI j) := wr_same
          have o5 : ∀ k, k ≠ 42 → (lm_wr M4 64 42 (1 <<< ((nI j) &&& 31))) 64 k = M4 64 k := fun k hk => wr_at hk
          revert h5c f5 l5 o5
          generalize lm_wr M4 64 42 (1 <<< ((nI j) &&& 31)) = M5
          intro h5c f5 l5 o5
          refine lm_G_sg 3 (pc' := 98) (L' := [some (.ref 64), some (.int (nI p)), some (.int (nI n)), some (.int ((mxS (gWit p) (fWit F s p n) nI (ownN F nl s (nI p) n) j).1)), some (.int ((mxS (gWit p) (fWit F s p n) nI (ownN F nl s (nI p) n) j).2)), some (.int (nI j)), none]) (S' := [.int (nI n), .int (nI p), .ref 64]) (σ' := lm_T M5 v G) rfl trivial ?_
          refine lm_G_ca (j := 221) (as := [.ref 64, .int (nI p), .int (nI n)]) (rest := []) rfl (Or.inl rfl) (Nat.le_of_ble_eq_true rfl) (Nat.le_of_ble_eq_true rfl) (Nat.le_of_ble_eq_true rfl) (Nat.le_of_ble_eq_true rfl) rfl ?_
          refine m_ownsIn (lf := fun k => decide (k = j)) hF h5c (ok_all hs _) (br_all _) (by rw [f5 90 rfl]; exact t4.2.2.1) (fun k hk => by rw [l5]; exact one_w (by omega) (by omega)) (by omega) (fun M6 h6 k6 => ?_)
          show lm_G X (d + 7) 225 106 0 0 101 [some (.ref 64), some (.int (nI p)), some (.int (nI n)), some (.int ((mxS (gWit p) (fWit F s p n) nI (ownN F nl s (nI p) n) j).1)), some (.int ((mxS (gWit p) (fWit F s p n) nI (ownN F nl s (nI p) n) j).2)), some (.int (nI j)), none] [.int (fWit F s p n j)] (lm_T M6 v G) Q
          refine lm_G_sg 4 (pc' := 108) (L' := [some (.ref 64), some (.int (nI p)), some (.int (nI n)), some (.int ((mxS (gWit p) (fWit F s p n) nI (ownN F nl s (nI p) n) j).1)), some (.int ((mxS (gWit p) (fWit F s p n) nI (ownN F nl s (nI p) n) j).2)), some (.int (nI j)), some (.int (fWit F s p n j))]) (S' := []) (σ' := lm_T (lm_wr M6 64 42 0) v G) rfl ⟨trivial, trivial, trivial⟩ ?_
          have t6 : TM M F s (lm_wr M6 64 42 0) s := by
            refine ⟨RM_taken h6 42 (by decide) _, ⟨?_, ?_⟩, ?_, ?_, wr_same⟩
            · refine Fr_wr (Fr_tr (Fr_tr t4.2.1.1 (Fr_mn f5 ?_)) (FrN_S k6).1) rfl
              intro a ha
              unfold frO
              rw [beq_eq_false_iff_ne]
              intro e
              rw [e] at ha
              cases ha
            · intro k a1 a2 a3 a4 a5
              by_cases e : k = 42
              · subst e
                rw [wr_same, hl]
              · rw [wr_at e, k6.2 k a2 a3, o5 k e]
                exact t4.2.1.2 k a1 a2 a3 a4 a5
            · rw [wr_row (by decide), k6.1 90 rfl, f5 90 rfl]
              exact t4.2.2.1
            · rw [wr_at (by decide), k6.2 4 (by decide) (by decide), o5 4 (by decide)]
              exact t4.2.2.2.1
          revert t6
          generalize lm_wr M6 64 42 0 = M7
          intro t6
          refine lm_G_sg 2 (pc' := 112) (L' := [some (.ref 64), some (.int (nI p)), some (.int (nI n)), some (.int ((mxS (gWit p) (fWit F s p n) nI (ownN F nl s (nI p) n) j).1)), some (.int ((mxS (gWit p) (fWit F s p n) nI (ownN F nl s (nI p) n) j).2)), some (.int (nI j)), some (.int (fWit F s p n j))]) (S' := [.int ((mxS (gWit p) (fWit F s p n) nI (ownN F nl s (nI p) n) j).2), .int (fWit F s p n j)]) (σ' := lm_T M7 v G) rfl trivial ?_
          refine lm_G_br (b := ((mxS (gWit p) (fWit F s p n) nI (ownN F nl s (nI p) n) j).2) < (fWit F s p n j)) (t := 118) (S' := []) rfl (fun h7 => ?_) (fun h7 => ?_)
          ·
            refine lm_G_sg 5 (pc' := 128) (L' := [some (.ref 64), some (.int (nI p)), some (.int (nI n)), some (.int (nI j)), some (.int (fWit F s p n j)), some (.int ((nI j) + 1)), some (.int (fWit F s p n j))]) (S' := []) (σ' := lm_T M7 v G) rfl trivial ?_
            rw [nI_1]
            refine lm_G_sg 1 (pc' := 59) (L' := [some (.ref 64), some (.int (nI p)), some (.int (nI n)), some (.int (nI j)), some (.int (fWit F s p n j)), some (.int (nI (j + 1))), some (.int (fWit F s p n j))]) (S' := []) (σ' := lm_T M7 v G) rfl trivial ?_
            rw [mx_y (f := (fWit F s p n)) eg h7] at ih
            refine lm_G_jk (L := [some (.ref 64), some (.int (nI p)), some (.int (nI n)), some (.int (nI j)), some (.int (fWit F s p n j)), some (.int (nI (j + 1))), none]) ⟨rfl, rfl, rfl, rfl, rfl, rfl, trivial⟩ ?_
            exact ih _ t6
          ·
            refine lm_G_sg 2 (pc' := 128) (L' := [some (.ref 64), some (.int (nI p)), some (.int (nI n)), some (.int ((mxS (gWit p) (fWit F s p n) nI (ownN F nl s (nI p) n) j).1)), some (.int ((mxS (gWit p) (fWit F s p n) nI (ownN F nl s (nI p) n) j).2)), some (.int ((nI j) + 1)), some (.int (fWit F s p n j))]) (S' := []) (σ' := lm_T M7 v G) rfl trivial ?_
            rw [nI_1]
            refine lm_G_sg 1 (pc' := 59) (L' := [some (.ref 64), some (.int (nI p)), some (.int (nI n)), some (.int ((mxS (gWit p) (fWit F s p n) nI (ownN F nl s (nI p) n) j).1)), some (.int ((mxS (gWit p) (fWit F s p n) nI (ownN F nl s (nI p) n) j).2)), some (.int (nI (j + 1))), some (.int (fWit F s p n j))]) (S' := []) (σ' := lm_T M7 v G) rfl trivial ?_
            rw [mx_n (f := (fWit F s p n)) h7] at ih
            refine lm_G_jk (L := [some (.ref 64), some (.int (nI p)), some (.int (nI n)), some (.int ((mxS (gWit p) (fWit F s p n) nI (ownN F nl s (nI p) n) j).1)), some (.int ((mxS (gWit p) (fWit F s p n) nI (ownN F nl s (nI p) n) j).2)), some (.int (nI (j + 1))), none]) ⟨rfl, rfl, rfl, rfl, rfl, rfl, trivial⟩ ?_
            exact ih _ t6
      ·
        revert hI
        revert zz
        intro M3 hI
        replace hI : TM M F s M3 s := hI
        show lm_G X (d + 7) 225 106 0 0 59 [some (.ref 64), some (.int (nI p)), some (.int (nI n)), some (.int ((mxS (gWit p) (fWit F s p n) nI (ownN F nl s (nI p) n) (fN F)).1)), some (.int ((mxS (gWit p) (fWit F s p n) nI (ownN F nl s (nI p) n) (fN F)).2)), some (.int (nI (fN F))), none] [] (lm_T M3 v G) Q
        refine lm_G_sg 5 (pc' := 67) (L' := [some (.ref 64), some (.int (nI p)), some (.int (nI n)), some (.int ((mxS (gWit p) (fWit F s p n) nI (ownN F nl s (nI p) n) (fN F)).1)), some (.int ((mxS (gWit p) (fWit F s p n) nI (ownN F nl s (nI p) n) (fN F)).2)), some (.int (nI (fN F))), none]) (S' := [.int (M3 68 0), .int (nI (fN F))]) (σ' := lm_T M3 v G) rfl ⟨(lm_inb_ok rfl), trivial, trivial⟩ ?_
        rw [show M3 68 0 = nI (fN F) from hI.1.n]
        refine lm_G_br (b := (nI (fN F)) ≤ (nI (fN F))) (t := 131) (S' := []) rfl (fun hc => ?_) (fun hc => absurd (nI_le (Nat.le_refl _) (by omega)) hc)
        refine lm_G_sg 1 (pc' := 132) (L' := [some (.ref 64), some (.int (nI p)), some (.int (nI n)), some (.int ((mxS (gWit p) (fWit F s p n) nI (ownN F nl s (nI p) n) (fN F)).1)), some (.int ((mxS (gWit p) (fWit F s p n) nI (ownN F nl s (nI p) n) (fN F)).2)), some (.int (nI (fN F))), none]) (S' := [.int ((mxS (gWit p) (fWit F s p n) nI (ownN F nl s (nI p) n) (fN F)).1)]) (σ' := lm_T M3 v G) rfl trivial ?_
        exact lm_G_re rfl trivial (Nat.zero_le _) (Nat.zero_le _) (hQ _ hI.1 hI.2.1 hI.2.2.2.1)
      ·
        try dsimp only
        exact t2
