/-! ===== what is asked ahead ===== -/
def aThen (F : Fa) (s : Sc) (x y w : Int32) : An := if isP (fN F) x && isP 3 w then (if inR y 0 60 then .inl (if w = 0 then sHu (hrsS F nl s y.toNatClampNeg) x.toNatClampNeg else if w = 1 then sHd (hrsS F nl s y.toNatClampNeg) x.toNatClampNeg else cnt (ownS F (sOw (hrsS F nl s y.toNatClampNeg)) x)) else .inr true) else .inr false
def aWhose (F : Fa) (s : Sc) (x y w : Int32) : An := if isP (fM F) x && isP 2 w then (if inR y 0 60 then .inl (if w = 0 then sOw (hrsS F nl s y.toNatClampNeg) x.toNatClampNeg else humS F (sHu (hrsS F nl s y.toNatClampNeg)) x) else .inr true) else .inr false
def fGets (F : Fa) (s : Sc) (x : Int32) (t k : Nat) : Bool := decide (sOw (hrsS F nl s k) t = x)
def aGets (F : Fa) (s : Sc) (x y : Int32) : An := if isP (fN F) x && isP (fM F) y then .inl (fiS (fGets F s x y.toNatClampNeg) 61) else .inr false
def fSil (F : Fa) (s : Sc) (y : Int32) (k : Nat) : Bool := decide (humS F (sHu (hrsS F nl s (k + 1))) y = 0)
def aSil (F : Fa) (s : Sc) (x y : Int32) : An := if isP (fM F) x then (if inR y 1 60 then .inl (ctS (fSil F s x) y.toNatClampNeg) else .inr true) else .inr false
def fLou (F : Fa) (s : Sc) (k : Nat) : Int32 := cnt (msk (fun p => decide (sHu (hrsS F nl s (k + 1)) p ≠ -1)) (fN F))
def lOne (k : Nat) : Int32 := nI (k + 1)
def aLou (F : Fa) (s : Sc) (x : Int32) : An := if inR x 1 60 then .inl (mxS al (fLou F s) lOne (-1) x.toNatClampNeg).1 else .inr false
def fRic (F : Fa) (S : Sc) (p : Nat) : Int32 := cnt (ownS F (sOw S) (nI p))
def ricS (F : Fa) (S : Sc) : Int32 := (mxS al (fRic F S) nI (-1) (fN F)).1
def aLater (F : Fa) (s : Sc) (y w : Int32) : An := if isP 2 w then (if inR y 0 60 then .inl (if w = 0 then ricS F (hrsS F nl s y.toNatClampNeg) else hrsD F nl s y.toNatClampNeg) else .inr true) else .inr false
set_option maxRecDepth 10000 in
theorem c_then {X : lm_X} {d v : Nat} {M : Nat → Nat → Int32} {G : Nat → Nat → Int64} {Q : lm_O → lm_S → Prop} {F : Fa} {s : Sc} {x y w : Int32} (hF : okF F) (h : RC 28 M F s) (hs : okS F s) (hl : M 28 12 = -1) (hQ : ∀ M1, Fr frQ M M1 → Q (cO (aThen F s x y w)) (lm_T M1 v G)) : lm_Q X (d + 7) 99 [.ref 0, .int x, .int y, .int w] (lm_T M v G) Q := by
  have hn := hF.n
  have hm := hF.m
  show lm_G X (d + 7) 99 106 0 0 0 [some (.ref 0), some (.int x), some (.int y), some (.int w)] [] (lm_T M v G) Q
  refine lm_G_sg 2 (pc' := 2) (L' := [some (.ref 0), some (.int x), some (.int y), some (.int w)]) (S' := [.int x, .ref 0]) (σ' := lm_T M v G) rfl trivial ?_
  refine lm_G_ca (j := 133) (as := [.ref 0, .int x]) (rest := []) rfl (Or.inl rfl) (Nat.le_of_ble_eq_true rfl) (Nat.le_of_ble_eq_true rfl) (Nat.le_of_ble_eq_true rfl) (Nat.le_of_ble_eq_true rfl) rfl ?_
  refine c_isPerson hF h ?_
  show lm_G X (d + 7) 99 106 0 0 5 [some (.ref 0), some (.int x), some (.int y), some (.int w)] [.int (b2i (isP (fN F) x))] (lm_T M v G) Q
  refine lm_G_br (b := (b2i (isP (fN F) x)) = 0) (t := 20) (S' := []) rfl (fun hx => ?_) (fun hx => ?_)
  ·
    replace hx := b2i_0 hx
    refine lm_G_sg 1 (pc' := 21) (L' := [some (.ref 0), some (.int x), some (.int y), some (.int w)]) (S' := [.int 0]) (σ' := lm_T M v G) rfl trivial ?_
    rw [show aThen F s x y w = .inr false from by simp +decide only [aThen, hx, if_true, if_false, Bool.and_true, Bool.true_and, Bool.and_self, Bool.false_and, Bool.and_false, Bool.false_eq_true]] at hQ
    refine lm_G_ca (j := 137) (as := [.int 0]) (rest := []) rfl (Or.inl rfl) (Nat.le_of_ble_eq_true rfl) (Nat.le_of_ble_eq_true rfl) (Nat.le_of_ble_eq_true rfl) (Nat.le_of_ble_eq_true rfl) rfl ?_
    exact c_mustExistF ⟨by decide, rfl, hQ M (Fr_rf _ _)⟩
  ·
    replace hx := b2i_1 hx
    refine lm_G_sg 2 (pc' := 10) (L' := [some (.ref 0), some (.int x), some (.int y), some (.int w)]) (S' := [.int 3, .int w]) (σ' := lm_T M v G) rfl trivial ?_
    refine lm_G_ca (j := 135) (as := [.int w, .int 3]) (rest := []) rfl (Or.inl rfl) (Nat.le_of_ble_eq_true rfl) (Nat.le_of_ble_eq_true rfl) (Nat.le_of_ble_eq_true rfl) (Nat.le_of_ble_eq_true rfl) rfl ?_
    refine c_isWhat (n := 3) (by omega) ?_
    show lm_G X (d + 7) 99 106 0 0 13 [some (.ref 0), some (.int x), some (.int y), some (.int w)] [.int (b2i (isP 3 w))] (lm_T M v G) Q
    refine lm_G_br (b := (b2i (isP 3 w)) = 0) (t := 20) (S' := []) rfl (fun hw => ?_) (fun hw => ?_)
    ·
      replace hw := b2i_0 hw
      refine lm_G_sg 1 (pc' := 21) (L' := [some (.ref 0), some (.int x), some (.int y), some (.int w)]) (S' := [.int 0]) (σ' := lm_T M v G) rfl trivial ?_
      rw [show aThen F s x y w = .inr false from by simp +decide only [aThen, hw, hx, if_true, if_false, Bool.and_true, Bool.true_and, Bool.and_self, Bool.false_and, Bool.and_false, Bool.false_eq_true]] at hQ
      refine lm_G_ca (j := 137) (as := [.int 0]) (rest := []) rfl (Or.inl rfl) (Nat.le_of_ble_eq_true rfl) (Nat.le_of_ble_eq_true rfl) (Nat.le_of_ble_eq_true rfl) (Nat.le_of_ble_eq_true rfl) rfl ?_
      exact c_mustExistF ⟨by decide, rfl, hQ M (Fr_rf _ _)⟩
    ·
      replace hw := b2i_1 hw
      refine lm_G_sg 2 (pc' := 21) (L' := [some (.ref 0), some (.int x), some (.int y), some (.int w)]) (S' := [.int 1]) (σ' := lm_T M v G) rfl trivial ?_
      refine lm_G_ca (j := 137) (as := [.int 1]) (rest := []) rfl (Or.inl rfl) (Nat.le_of_ble_eq_true rfl) (Nat.le_of_ble_eq_true rfl) (Nat.le_of_ble_eq_true rfl) (Nat.le_of_ble_eq_true rfl) rfl ?_
      refine c_mustExistT ?_
      show lm_G X (d + 7) 99 106 1 6 24 [some (.ref 0), some (.int x), some (.int y), some (.int w)] [] (lm_T M v G) Q
      refine lm_G_sg 3 (pc' := 28) (L' := [some (.ref 0), some (.int x), some (.int y), some (.int w)]) (S' := [.int 60, .int 0, .int y]) (σ' := lm_T M v G) rfl trivial ?_
      refine lm_G_ca (j := 136) (as := [.int y, .int 0, .int 60]) (rest := []) rfl (Or.inl rfl) (Nat.le_of_ble_eq_true rfl) (Nat.le_of_ble_eq_true rfl) (Nat.le_of_ble_eq_true rfl) (Nat.le_of_ble_eq_true rfl) rfl ?_
      refine c_isWithin ?_
      show lm_G X (d + 7) 99 106 1 6 31 [some (.ref 0), some (.int x), some (.int y), some (.int w)] [.int (b2i (inR y 0 60))] (lm_T M v G) Q
      rcases Bool.eq_false_or_eq_true (inR y 0 60) with hy | hy
      rotate_left
      ·
        rw [hy]
        show lm_G X (d + 7) 99 106 1 6 31 [some (.ref 0), some (.int x), some (.int y), some (.int w)] [.int 0] (lm_T M v G) Q
        rw [show aThen F s x y w = .inr true from by simp +decide only [aThen, hy, hx, hw, if_true, if_false, Bool.and_true, Bool.true_and, Bool.and_self, Bool.false_and, Bool.and_false, Bool.false_eq_true]] at hQ
        refine lm_G_ca (j := 138) (as := [.int 0]) (rest := []) rfl (Or.inl rfl) (Nat.le_of_ble_eq_true rfl) (Nat.le_of_ble_eq_true rfl) (Nat.le_of_ble_eq_true rfl) (Nat.le_of_ble_eq_true rfl) rfl ?_
        exact c_mustFitF ⟨by decide, rfl, hQ M (Fr_rf _ _)⟩
      ·
        rw [hy]
        show lm_G X (d + 7) 99 106 1 6 31 [some (.ref 0), some (.int x), some (.int y), some (.int w)] [.int 1] (lm_T M v G) Q
        refine lm_G_ca (j := 138) (as := [.int 1]) (rest := []) rfl (Or.inl rfl) (Nat.le_of_ble_eq_true rfl) (Nat.le_of_ble_eq_true rfl) (Nat.le_of_ble_eq_true rfl) (Nat.le_of_ble_eq_true rfl) rfl ?_
        refine c_mustFitT ?_
        show lm_G X (d + 7) 99 106 2 12 34 [some (.ref 0), some (.int x), some (.int y), some (.int w)] [] (lm_T M v G) Q
        obtain ⟨p, hp, rfl⟩ := isP_nI hx (by omega)
        have cp : (nI p).toNatClampNeg = p := nI_clamp (by omega)
        obtain ⟨n, hn, rfl⟩ := inR_nI (n := 60) (by decide) hy
        have cn : (nI n).toNatClampNeg = n := nI_clamp (by omega)
        refine lm_G_sg 1 (pc' := 35) (L' := [some (.ref 0), some (.int (nI p)), some (.int (nI n)), some (.int w)]) (S' := [.ref 0]) (σ' := lm_T M v G) rfl trivial ?_
        refine lm_G_ca (j := 132) (as := [.ref 0]) (rest := []) rfl (Or.inl rfl) (Nat.le_of_ble_eq_true rfl) (Nat.le_of_ble_eq_true rfl) (Nat.le_of_ble_eq_true rfl) (Nat.le_of_ble_eq_true rfl) rfl ?_
        refine u_start hF h (Fr_rf _ _) hl (fun M1 t1 e1 => ?_)
        show lm_G X (d + 7) 99 106 2 12 38 [some (.ref 0), some (.int (nI p)), some (.int (nI n)), some (.int w)] [] (lm_T M1 v G) Q
        refine lm_G_sg 3 (pc' := 43) (L' := [some (.ref 0), some (.int (nI p)), some (.int (nI n)), some (.int w)]) (S' := [.int (nI n), .ref 38]) (σ' := lm_T M1 v G) rfl trivial ?_
        refine lm_G_ca (j := 73) (as := [.ref 38, .int (nI n)]) (rest := []) rfl (Or.inl rfl) (Nat.le_of_ble_eq_true rfl) (Nat.le_of_ble_eq_true rfl) (Nat.le_of_ble_eq_true rfl) (Nat.le_of_ble_eq_true rfl) rfl ?_
        refine u_passHours hF t1 hs (by omega) (fun M2 t2 e2 => ?_)
        show lm_G X (d + 7) 99 106 2 12 46 [some (.ref 0), some (.int (nI p)), some (.int (nI n)), some (.int w)] [] (lm_T M2 v G) Q
        refine lm_G_sg 1 (pc' := 47) (L' := [some (.ref 0), some (.int (nI p)), some (.int (nI n)), some (.int w)]) (S' := [.int w]) (σ' := lm_T M2 v G) rfl trivial ?_
        rcases isP_3 hw with rfl | rfl | rfl
        ·
          refine lm_G_sg 6 (pc' := 81) (L' := [some (.ref 0), some (.int (nI p)), some (.int (nI n)), some (.int 0)]) (S' := [.int (M2 42 (nI p).toNatClampNeg)]) (σ' := lm_T M2 v G) rfl ⟨(vp_in_nI (by omega) (by omega)), trivial, trivial⟩ ?_
          rw [show (nI p).toNatClampNeg = p from nI_clamp (by omega)]
          rw [show M2 42 p = sHu (hrsS F nl s n) p from t2.1.hu p (by omega)]
          rw [show aThen F s (nI p) (nI n) 0 = .inl (sHu (hrsS F nl s n) p) from by simp +decide only [aThen, hx, hw, hy, cp, cn, if_true, if_false, Bool.and_true, Bool.true_and, Bool.and_self, Bool.false_and, Bool.and_false, Bool.false_eq_true]] at hQ
          exact lm_G_re rfl trivial (Nat.le_of_ble_eq_true rfl) (Nat.le_of_ble_eq_true rfl) (hQ _ t2.2.1)
        ·
          refine lm_G_sg 6 (pc' := 91) (L' := [some (.ref 0), some (.int (nI p)), some (.int (nI n)), some (.int 1)]) (S' := [.int (M2 43 (nI p).toNatClampNeg)]) (σ' := lm_T M2 v G) rfl ⟨(vp_in_nI (by omega) (by omega)), trivial, trivial⟩ ?_
          rw [show (nI p).toNatClampNeg = p from nI_clamp (by omega)]
          rw [show M2 43 p = sHd (hrsS F nl s n) p from t2.1.hd p (by omega)]
          rw [show aThen F s (nI p) (nI n) 1 = .inl (sHd (hrsS F nl s n) p) from by simp +decide only [aThen, hx, hw, hy, cp, cn, if_true, if_false, Bool.and_true, Bool.true_and, Bool.and_self, Bool.false_and, Bool.and_false, Bool.false_eq_true]] at hQ
          exact lm_G_re rfl trivial (Nat.le_of_ble_eq_true rfl) (Nat.le_of_ble_eq_true rfl) (hQ _ t2.2.1)
        ·
          refine lm_G_sg 4 (pc' := 97) (L' := [some (.ref 0), some (.int (nI p)), some (.int (nI n)), some (.int 2)]) (S' := [.int (nI p), .ref 38]) (σ' := lm_T M2 v G) rfl trivial ?_
          refine lm_G_ca (j := 61) (as := [.ref 38, .int (nI p)]) (rest := []) rfl (Or.inl rfl) (Nat.le_of_ble_eq_true rfl) (Nat.le_of_ble_eq_true rfl) (Nat.le_of_ble_eq_true rfl) (Nat.le_of_ble_eq_true rfl) rfl ?_
          refine c_howMany38 hF t2.1 ?_
          show lm_G X (d + 7) 99 106 2 12 100 [some (.ref 0), some (.int (nI p)), some (.int (nI n)), some (.int 2)] [.int (cnt (ownS F (sOw (hrsS F nl s n)) (nI p)))] (lm_T M2 v G) Q
          rw [show aThen F s (nI p) (nI n) 2 = .inl (cnt (ownS F (sOw (hrsS F nl s n)) (nI p))) from by simp +decide only [aThen, hx, hw, hy, cp, cn, if_true, if_false, Bool.and_true, Bool.true_and, Bool.and_self, Bool.false_and, Bool.and_false, Bool.false_eq_true]] at hQ
          exact lm_G_re rfl trivial (Nat.le_of_ble_eq_true rfl) (Nat.le_of_ble_eq_true rfl) (hQ _ t2.2.1)
set_option maxRecDepth 10000 in
theorem m_then {X : lm_X} {d v : Nat} {M : Nat → Nat → Int32} {G : Nat → Nat → Int64} {Q : lm_O → lm_S → Prop} {F : Fa} {s : Sc} {x y w : Int32} (hF : okF F) (h : RM M F s) (hs : okS F s) (hl : M 64 42 = 0) (hQ : ∀ M1, RM M1 F s → FrN M M1 → M1 64 4 = cd (aThen F s x y w) → Q (.inl (some (.int (vl (aThen F s x y w))))) (lm_T M1 v G)) : lm_Q X (d + 6) 212 [.ref 64, .int x, .int y, .int w] (lm_T M v G) Q := by
  have hn := hF.n
  have hm := hF.m
  show lm_G X (d + 6) 212 106 0 0 0 [some (.ref 64), some (.int x), some (.int y), some (.int w), none] [] (lm_T M v G) Q
  refine lm_G_sg 3 (pc' := 5) (L' := [some (.ref 64), some (.int x), some (.int y), some (.int w), none]) (S' := []) (σ' := lm_T (lm_wr M 64 4 0) v G) rfl ⟨trivial, trivial, trivial⟩ ?_
  have h0 : RM (lm_wr M 64 4 0) F s := RM_taken h 4 (by decide) 0
  have f0 : FrN M (lm_wr M 64 4 0) := FrN_w64 (FrN_rf _) (by decide)
  have c0 : (lm_wr M 64 4 0) 64 4 = 0 := wr_same
  have l0 : (lm_wr M 64 4 0) 64 42 = 0 := (wr_at (by decide)).trans hl
  revert h0 f0 c0 l0
  generalize lm_wr M 64 4 0 = M0
  intro h0 f0 c0 l0
  refine lm_G_sg 2 (pc' := 7) (L' := [some (.ref 64), some (.int x), some (.int y), some (.int w), none]) (S' := [.int x, .ref 64]) (σ' := lm_T M0 v G) rfl trivial ?_
  refine lm_G_ca (j := 145) (as := [.ref 64, .int x]) (rest := []) rfl (Or.inl rfl) (Nat.le_of_ble_eq_true rfl) (Nat.le_of_ble_eq_true rfl) (Nat.le_of_ble_eq_true rfl) (Nat.le_of_ble_eq_true rfl) rfl ?_
  refine m_isPerson hF h0 ?_
  show lm_G X (d + 6) 212 106 0 0 10 [some (.ref 64), some (.int x), some (.int y), some (.int w), none] [.int (b2i (isP (fN F) x))] (lm_T M0 v G) Q
  refine lm_G_br (b := (b2i (isP (fN F) x)) = 0) (t := 25) (S' := []) rfl (fun hx => ?_) (fun hx => ?_)
  ·
    replace hx := b2i_0 hx
    refine lm_G_sg 2 (pc' := 27) (L' := [some (.ref 64), some (.int x), some (.int y), some (.int w), none]) (S' := [.int 1, .ref 64]) (σ' := lm_T M0 v G) rfl trivial ?_
    refine lm_G_ca (j := 141) (as := [.ref 64, .int 1]) (rest := []) rfl (Or.inl rfl) (Nat.le_of_ble_eq_true rfl) (Nat.le_of_ble_eq_true rfl) (Nat.le_of_ble_eq_true rfl) (Nat.le_of_ble_eq_true rfl) rfl ?_
    refine m_fail ?_
    show lm_G X (d + 6) 212 106 0 0 30 [some (.ref 64), some (.int x), some (.int y), some (.int w), none] [.int 0] (lm_T (lm_wr M0 64 4 1) v G) Q
    rw [show aThen F s x y w = .inr false from by simp +decide only [aThen, hx, if_true, if_false, Bool.and_true, Bool.true_and, Bool.and_self, Bool.false_and, Bool.and_false, Bool.false_eq_true]] at hQ
    exact lm_G_re rfl trivial (Nat.zero_le _) (Nat.zero_le _) (hQ _ (RM_taken h0 4 (by decide) 1) (FrN_w64 f0 (by decide)) wr_same)
  ·
    replace hx := b2i_1 hx
    refine lm_G_sg 4 (pc' := 19) (L' := [some (.ref 64), some (.int x), some (.int y), some (.int w), none]) (S' := [.long 2, .long 0, .long w.toInt64]) (σ' := lm_T M0 v G) rfl trivial ?_
    refine lm_G_ca (j := 142) (as := [.long w.toInt64, .long 0, .long 2]) (rest := []) rfl (Or.inl rfl) (Nat.le_of_ble_eq_true rfl) (Nat.le_of_ble_eq_true rfl) (Nat.le_of_ble_eq_true rfl) (Nat.le_of_ble_eq_true rfl) rfl ?_
    refine c_isIn ?_
    show lm_G X (d + 6) 212 106 0 0 22 [some (.ref 64), some (.int x), some (.int y), some (.int w), none] [.int (b2i (inL (w.toInt64) 0 2))] (lm_T M0 v G) Q
    rw [show inL (w.toInt64) 0 2 = isP 3 w from inL_2 _]
    refine lm_G_br (b := ¬ (b2i (isP 3 w)) = 0) (t := 31) (S' := []) rfl (fun hw => ?_) (fun hw => ?_)
    rotate_left
    ·
      replace hw := b2i_0 (Classical.not_not.mp hw)
      refine lm_G_sg 2 (pc' := 27) (L' := [some (.ref 64), some (.int x), some (.int y), some (.int w), none]) (S' := [.int 1, .ref 64]) (σ' := lm_T M0 v G) rfl trivial ?_
      refine lm_G_ca (j := 141) (as := [.ref 64, .int 1]) (rest := []) rfl (Or.inl rfl) (Nat.le_of_ble_eq_true rfl) (Nat.le_of_ble_eq_true rfl) (Nat.le_of_ble_eq_true rfl) (Nat.le_of_ble_eq_true rfl) rfl ?_
      refine m_fail ?_
      show lm_G X (d + 6) 212 106 0 0 30 [some (.ref 64), some (.int x), some (.int y), some (.int w), none] [.int 0] (lm_T (lm_wr M0 64 4 1) v G) Q
      rw [show aThen F s x y w = .inr false from by simp +decide only [aThen, hw, hx, if_true, if_false, Bool.and_true, Bool.true_and, Bool.and_self, Bool.false_and, Bool.and_false, Bool.false_eq_true]] at hQ
      exact lm_G_re rfl trivial (Nat.zero_le _) (Nat.zero_le _) (hQ _ (RM_taken h0 4 (by decide) 1) (FrN_w64 f0 (by decide)) wr_same)
    ·
      replace hw := b2i_1 hw
      refine lm_G_sg 4 (pc' := 37) (L' := [some (.ref 64), some (.int x), some (.int y), some (.int w), none]) (S' := [.long 60, .long 0, .long y.toInt64]) (σ' := lm_T M0 v G) rfl trivial ?_
      refine lm_G_ca (j := 142) (as := [.long y.toInt64, .long 0, .long 60]) (rest := []) rfl (Or.inl rfl) (Nat.le_of_ble_eq_true rfl) (Nat.le_of_ble_eq_true rfl) (Nat.le_of_ble_eq_true rfl) (Nat.le_of_ble_eq_true rfl) rfl ?_
      refine c_isIn ?_
      show lm_G X (d + 6) 212 106 0 0 40 [some (.ref 64), some (.int x), some (.int y), some (.int w), none] [.int (b2i (inL (y.toInt64) 0 60))] (lm_T M0 v G) Q
      rw [show inL (y.toInt64) 0 60 = inR y 0 60 from (inL_R y 0 60)]
      refine lm_G_br (b := ¬ (b2i (inR y 0 60)) = 0) (t := 49) (S' := []) rfl (fun hy => ?_) (fun hy => ?_)
      rotate_left
      ·
        replace hy := b2i_0 (Classical.not_not.mp hy)
        refine lm_G_sg 2 (pc' := 45) (L' := [some (.ref 64), some (.int x), some (.int y), some (.int w), none]) (S' := [.int 2, .ref 64]) (σ' := lm_T M0 v G) rfl trivial ?_
        refine lm_G_ca (j := 141) (as := [.ref 64, .int 2]) (rest := []) rfl (Or.inl rfl) (Nat.le_of_ble_eq_true rfl) (Nat.le_of_ble_eq_true rfl) (Nat.le_of_ble_eq_true rfl) (Nat.le_of_ble_eq_true rfl) rfl ?_
        refine m_fail ?_
        show lm_G X (d + 6) 212 106 0 0 48 [some (.ref 64), some (.int x), some (.int y), some (.int w), none] [.int 0] (lm_T (lm_wr M0 64 4 2) v G) Q
        rw [show aThen F s x y w = .inr true from by simp +decide only [aThen, hy, hx, hw, if_true, if_false, Bool.and_true, Bool.true_and, Bool.and_self, Bool.false_and, Bool.and_false, Bool.false_eq_true]] at hQ
        exact lm_G_re rfl trivial (Nat.zero_le _) (Nat.zero_le _) (hQ _ (RM_taken h0 4 (by decide) 2) (FrN_w64 f0 (by decide)) wr_same)
      ·
        replace hy := b2i_1 hy
        obtain ⟨p, hp, rfl⟩ := isP_nI hx (by omega)
        have cp : (nI p).toNatClampNeg = p := nI_clamp (by omega)
        obtain ⟨n, hn, rfl⟩ := inR_nI (n := 60) (by decide) hy
        have cn : (nI n).toNatClampNeg = n := nI_clamp (by omega)
        refine lm_G_sg 4 (pc' := 55) (L' := [some (.ref 64), some (.int (nI p)), some (.int (nI n)), some (.int w), none]) (S' := [.int 0, .ref 90, .ref 64]) (σ' := lm_T M0 v G) rfl trivial ?_
        refine lm_G_ca (j := 177) (as := [.ref 64, .ref 90, .int 0]) (rest := []) rfl (Or.inl rfl) (Nat.le_of_ble_eq_true rfl) (Nat.le_of_ble_eq_true rfl) (Nat.le_of_ble_eq_true rfl) (Nat.le_of_ble_eq_true rfl) rfl ?_
        refine t_pack hF h0 f0 c0 l0 (fun M1 t1 => ?_)
        show lm_G X (d + 6) 212 106 0 0 58 [some (.ref 64), some (.int (nI p)), some (.int (nI n)), some (.int w), none] [] (lm_T M1 v G) Q
        refine lm_G_sg 2 (pc' := 60) (L' := [some (.ref 64), some (.int (nI p)), some (.int (nI n)), some (.int w), none]) (S' := [.int (nI n), .ref 64]) (σ' := lm_T M1 v G) rfl trivial ?_
        refine lm_G_ca (j := 194) (as := [.ref 64, .int (nI n)]) (rest := []) rfl (Or.inl rfl) (Nat.le_of_ble_eq_true rfl) (Nat.le_of_ble_eq_true rfl) (Nat.le_of_ble_eq_true rfl) (Nat.le_of_ble_eq_true rfl) rfl ?_
        refine t_goOn hF t1 hs (by omega) (fun M2 t2 e2 => ?_)
        show lm_G X (d + 6) 212 106 0 0 63 [some (.ref 64), some (.int (nI p)), some (.int (nI n)), some (.int w), none] [] (lm_T M2 v G) Q
        rcases isP_3 hw with rfl | rfl | rfl
        ·
          refine lm_G_sg 1 (pc' := 64) (L' := [some (.ref 64), some (.int (nI p)), some (.int (nI n)), some (.int 0), none]) (S' := [.int 0]) (σ' := lm_T M2 v G) rfl trivial ?_
          refine lm_G_br (b := ¬ 0 = 0) (t := 76) (S' := []) rfl (fun hc => absurd rfl hc) (fun hc => ?_)
          refine lm_G_sg 4 (pc' := 73) (L' := [some (.ref 64), some (.int (nI p)), some (.int (nI n)), some (.int 0), none]) (S' := [.int (M2 82 (nI p).toNatClampNeg)]) (σ' := lm_T M2 v G) rfl ⟨(vp_in_nI (by omega) (by omega)), trivial, trivial⟩ ?_
          rw [show (nI p).toNatClampNeg = p from nI_clamp (by omega)]
          rw [show M2 82 p = sHu (hrsS F nl s n) p from t2.1.hu p (by omega)]
          refine lm_G_sg 1 (pc' := 98) (L' := [some (.ref 64), some (.int (nI p)), some (.int (nI n)), some (.int 0), none]) (S' := [.int (sHu (hrsS F nl s n) p)]) (σ' := lm_T M2 v G) rfl trivial ?_
          rw [show aThen F s (nI p) (nI n) 0 = .inl (sHu (hrsS F nl s n) p) from by simp +decide only [aThen, hx, hw, hy, cp, cn, if_true, if_false, Bool.and_true, Bool.true_and, Bool.and_self, Bool.false_and, Bool.and_false, Bool.false_eq_true]] at hQ
          refine lm_G_sg 5 (pc' := 106) (L' := [some (.ref 64), some (.int (nI p)), some (.int (nI n)), some (.int 0), some (.int (sHu (hrsS F nl s n) p))]) (S' := [.int 0, .ref 90, .ref 64]) (σ' := lm_T M2 v G) rfl trivial ?_
          refine lm_G_ca (j := 178) (as := [.ref 64, .ref 90, .int 0]) (rest := []) rfl (Or.inl rfl) (Nat.le_of_ble_eq_true rfl) (Nat.le_of_ble_eq_true rfl) (Nat.le_of_ble_eq_true rfl) (Nat.le_of_ble_eq_true rfl) rfl ?_
          refine t_unpack hF t2 (br_hrs n) (fun M9 t9 => ?_)
          show lm_G X (d + 6) 212 106 0 0 109 [some (.ref 64), some (.int (nI p)), some (.int (nI n)), some (.int 0), some (.int (sHu (hrsS F nl s n) p))] [] (lm_T M9 v G) Q
          refine lm_G_sg 1 (pc' := 111) (L' := [some (.ref 64), some (.int (nI p)), some (.int (nI n)), some (.int 0), some (.int (sHu (hrsS F nl s n) p))]) (S' := [.int (sHu (hrsS F nl s n) p)]) (σ' := lm_T M9 v G) rfl trivial ?_
          exact lm_G_re rfl trivial (Nat.zero_le _) (Nat.zero_le _) (hQ _ t9.1 t9.2.1 t9.2.2.2.1)
        ·
          refine lm_G_sg 1 (pc' := 64) (L' := [some (.ref 64), some (.int (nI p)), some (.int (nI n)), some (.int 1), none]) (S' := [.int 1]) (σ' := lm_T M2 v G) rfl trivial ?_
          refine lm_G_br (b := ¬ 1 = 0) (t := 76) (S' := []) rfl (fun hc => ?_) (fun hc => absurd (by decide) hc)
          refine lm_G_sg 2 (pc' := 78) (L' := [some (.ref 64), some (.int (nI p)), some (.int (nI n)), some (.int 1), none]) (S' := [.int 1, .int 1]) (σ' := lm_T M2 v G) rfl trivial ?_
          refine lm_G_br (b := ¬ 1 = 1) (t := 90) (S' := []) rfl (fun hc => absurd rfl hc) (fun hc => ?_)
          refine lm_G_sg 4 (pc' := 87) (L' := [some (.ref 64), some (.int (nI p)), some (.int (nI n)), some (.int 1), none]) (S' := [.int (M2 83 (nI p).toNatClampNeg)]) (σ' := lm_T M2 v G) rfl ⟨(vp_in_nI (by omega) (by omega)), trivial, trivial⟩ ?_
          rw [show (nI p).toNatClampNeg = p from nI_clamp (by omega)]
          rw [show M2 83 p = sHd (hrsS F nl s n) p from t2.1.hd p (by omega)]
          refine lm_G_sg 1 (pc' := 98) (L' := [some (.ref 64), some (.int (nI p)), some (.int (nI n)), some (.int 1), none]) (S' := [.int (sHd (hrsS F nl s n) p)]) (σ' := lm_T M2 v G) rfl trivial ?_
          rw [show aThen F s (nI p) (nI n) 1 = .inl (sHd (hrsS F nl s n) p) from by simp +decide only [aThen, hx, hw, hy, cp, cn, if_true, if_false, Bool.and_true, Bool.true_and, Bool.and_self, Bool.false_and, Bool.and_false, Bool.false_eq_true]] at hQ
          refine lm_G_sg 5 (pc' := 106) (L' := [some (.ref 64), some (.int (nI p)), some (.int (nI n)), some (.int 1), some (.int (sHd (hrsS F nl s n) p))]) (S' := [.int 0, .ref 90, .ref 64]) (σ' := lm_T M2 v G) rfl trivial ?_
          refine lm_G_ca (j := 178) (as := [.ref 64, .ref 90, .int 0]) (rest := []) rfl (Or.inl rfl) (Nat.le_of_ble_eq_true rfl) (Nat.le_of_ble_eq_true rfl) (Nat.le_of_ble_eq_true rfl) (Nat.le_of_ble_eq_true rfl) rfl ?_
          refine t_unpack hF t2 (br_hrs n) (fun M9 t9 => ?_)
          show lm_G X (d + 6) 212 106 0 0 109 [some (.ref 64), some (.int (nI p)), some (.int (nI n)), some (.int 1), some (.int (sHd (hrsS F nl s n) p))] [] (lm_T M9 v G) Q
          refine lm_G_sg 1 (pc' := 111) (L' := [some (.ref 64), some (.int (nI p)), some (.int (nI n)), some (.int 1), some (.int (sHd (hrsS F nl s n) p))]) (S' := [.int (sHd (hrsS F nl s n) p)]) (σ' := lm_T M9 v G) rfl trivial ?_
          exact lm_G_re rfl trivial (Nat.zero_le _) (Nat.zero_le _) (hQ _ t9.1 t9.2.1 t9.2.2.2.1)
        ·
          refine lm_G_sg 1 (pc' := 64) (L' := [some (.ref 64), some (.int (nI p)), some (.int (nI n)), some (.int 2), none]) (S' := [.int 2]) (σ' := lm_T M2 v G) rfl trivial ?_
          refine lm_G_br (b := ¬ 2 = 0) (t := 76) (S' := []) rfl (fun hc => ?_) (fun hc => absurd (by decide) hc)
          refine lm_G_sg 2 (pc' := 78) (L' := [some (.ref 64), some (.int (nI p)), some (.int (nI n)), some (.int 2), none]) (S' := [.int 1, .int 2]) (σ' := lm_T M2 v G) rfl trivial ?_
          refine lm_G_br (b := ¬ 2 = 1) (t := 90) (S' := []) rfl (fun hc => ?_) (fun hc => absurd (by decide) hc)
          refine lm_G_sg 2 (pc' := 92) (L' := [some (.ref 64), some (.int (nI p)), some (.int (nI n)), some (.int 2), none]) (S' := [.int (nI p), .ref 64]) (σ' := lm_T M2 v G) rfl trivial ?_
          refine lm_G_ca (j := 183) (as := [.ref 64, .int (nI p)]) (rest := []) rfl (Or.inl rfl) (Nat.le_of_ble_eq_true rfl) (Nat.le_of_ble_eq_true rfl) (Nat.le_of_ble_eq_true rfl) (Nat.le_of_ble_eq_true rfl) rfl ?_
          refine m_ownedBy hF t2.1 ?_
          show lm_G X (d + 6) 212 106 0 0 95 [some (.ref 64), some (.int (nI p)), some (.int (nI n)), some (.int 2), none] [.int (ownS F (sOw (hrsS F nl s n)) (nI p))] (lm_T M2 v G) Q
          refine lm_G_ca (j := 144) (as := [.int (ownS F (sOw (hrsS F nl s n)) (nI p))]) (rest := []) rfl (Or.inl rfl) (Nat.le_of_ble_eq_true rfl) (Nat.le_of_ble_eq_true rfl) (Nat.le_of_ble_eq_true rfl) (Nat.le_of_ble_eq_true rfl) rfl ?_
          refine m_bits (own_lt hF _ _) ?_
          show lm_G X (d + 6) 212 106 0 0 98 [some (.ref 64), some (.int (nI p)), some (.int (nI n)), some (.int 2), none] [.int (cnt (ownS F (sOw (hrsS F nl s n)) (nI p)))] (lm_T M2 v G) Q
          rw [show aThen F s (nI p) (nI n) 2 = .inl (cnt (ownS F (sOw (hrsS F nl s n)) (nI p))) from by simp +decide only [aThen, hx, hw, hy, cp, cn, if_true, if_false, Bool.and_true, Bool.true_and, Bool.and_self, Bool.false_and, Bool.and_false, Bool.false_eq_true]] at hQ
          refine lm_G_sg 5 (pc' := 106) (L' := [some (.ref 64), some (.int (nI p)), some (.int (nI n)), some (.int 2), some (.int (cnt (ownS F (sOw (hrsS F nl s n)) (nI p))))]) (S' := [.int 0, .ref 90, .ref 64]) (σ' := lm_T M2 v G) rfl trivial ?_
          refine lm_G_ca (j := 178) (as := [.ref 64, .ref 90, .int 0]) (rest := []) rfl (Or.inl rfl) (Nat.le_of_ble_eq_true rfl) (Nat.le_of_ble_eq_true rfl) (Nat.le_of_ble_eq_true rfl) (Nat.le_of_ble_eq_true rfl) rfl ?_
          refine t_unpack hF t2 (br_hrs n) (fun M9 t9 => ?_)
          show lm_G X (d + 6) 212 106 0 0 109 [some (.ref 64), some (.int (nI p)), some (.int (nI n)), some (.int 2), some (.int (cnt (ownS F (sOw (hrsS F nl s n)) (nI p))))] [] (lm_T M9 v G) Q
          refine lm_G_sg 1 (pc' := 111) (L' := [some (.ref 64), some (.int (nI p)), some (.int (nI n)), some (.int 2), some (.int (cnt (ownS F (sOw (hrsS F nl s n)) (nI p))))]) (S' := [.int (cnt (ownS F (sOw (hrsS F nl s n)) (nI p)))]) (σ' := lm_T M9 v G) rfl trivial ?_
          exact lm_G_re rfl trivial (Nat.zero_le _) (Nat.zero_le _) (hQ _ t9.1 t9.2.1 t9.2.2.2.1)
set_option maxRecDepth 10000 in
theorem c_whose {X : lm_X} {d v : Nat} {M : Nat → Nat → Int32} {G : Nat → Nat → Int64} {Q : lm_O → lm_S → Prop} {F : Fa} {s : Sc} {x y w : Int32} (hF : okF F) (h : RC 28 M F s) (hs : okS F s) (hl : M 28 12 = -1) (hQ : ∀ M1, Fr frQ M M1 → Q (cO (aWhose F s x y w)) (lm_T M1 v G)) : lm_Q X (d + 7) 100 [.ref 0, .int x, .int y, .int w] (lm_T M v G) Q := by
  have hn := hF.n
  have hm := hF.m
  show lm_G X (d + 7) 100 106 0 0 0 [some (.ref 0), some (.int x), some (.int y), some (.int w)] [] (lm_T M v G) Q
  refine lm_G_sg 2 (pc' := 2) (L' := [some (.ref 0), some (.int x), some (.int y), some (.int w)]) (S' := [.int x, .ref 0]) (σ' := lm_T M v G) rfl trivial ?_
  refine lm_G_ca (j := 134) (as := [.ref 0, .int x]) (rest := []) rfl (Or.inl rfl) (Nat.le_of_ble_eq_true rfl) (Nat.le_of_ble_eq_true rfl) (Nat.le_of_ble_eq_true rfl) (Nat.le_of_ble_eq_true rfl) rfl ?_
  refine c_isTune hF h ?_
  show lm_G X (d + 7) 100 106 0 0 5 [some (.ref 0), some (.int x), some (.int y), some (.int w)] [.int (b2i (isP (fM F) x))] (lm_T M v G) Q
  refine lm_G_br (b := (b2i (isP (fM F) x)) = 0) (t := 20) (S' := []) rfl (fun hx => ?_) (fun hx => ?_)
  ·
    replace hx := b2i_0 hx
    refine lm_G_sg 1 (pc' := 21) (L' := [some (.ref 0), some (.int x), some (.int y), some (.int w)]) (S' := [.int 0]) (σ' := lm_T M v G) rfl trivial ?_
    rw [show aWhose F s x y w = .inr false from by simp +decide only [aWhose, hx, if_true, if_false, Bool.and_true, Bool.true_and, Bool.and_self, Bool.false_and, Bool.and_false, Bool.false_eq_true]] at hQ
    refine lm_G_ca (j := 137) (as := [.int 0]) (rest := []) rfl (Or.inl rfl) (Nat.le_of_ble_eq_true rfl) (Nat.le_of_ble_eq_true rfl) (Nat.le_of_ble_eq_true rfl) (Nat.le_of_ble_eq_true rfl) rfl ?_
    exact c_mustExistF ⟨by decide, rfl, hQ M (Fr_rf _ _)⟩
  ·
    replace hx := b2i_1 hx
    refine lm_G_sg 2 (pc' := 10) (L' := [some (.ref 0), some (.int x), some (.int y), some (.int w)]) (S' := [.int 2, .int w]) (σ' := lm_T M v G) rfl trivial ?_
    refine lm_G_ca (j := 135) (as := [.int w, .int 2]) (rest := []) rfl (Or.inl rfl) (Nat.le_of_ble_eq_true rfl) (Nat.le_of_ble_eq_true rfl) (Nat.le_of_ble_eq_true rfl) (Nat.le_of_ble_eq_true rfl) rfl ?_
    refine c_isWhat (n := 2) (by omega) ?_
    show lm_G X (d + 7) 100 106 0 0 13 [some (.ref 0), some (.int x), some (.int y), some (.int w)] [.int (b2i (isP 2 w))] (lm_T M v G) Q
    refine lm_G_br (b := (b2i (isP 2 w)) = 0) (t := 20) (S' := []) rfl (fun hw => ?_) (fun hw => ?_)
    ·
      replace hw := b2i_0 hw
      refine lm_G_sg 1 (pc' := 21) (L' := [some (.ref 0), some (.int x), some (.int y), some (.int w)]) (S' := [.int 0]) (σ' := lm_T M v G) rfl trivial ?_
      rw [show aWhose F s x y w = .inr false from by simp +decide only [aWhose, hw, hx, if_true, if_false, Bool.and_true, Bool.true_and, Bool.and_self, Bool.false_and, Bool.and_false, Bool.false_eq_true]] at hQ
      refine lm_G_ca (j := 137) (as := [.int 0]) (rest := []) rfl (Or.inl rfl) (Nat.le_of_ble_eq_true rfl) (Nat.le_of_ble_eq_true rfl) (Nat.le_of_ble_eq_true rfl) (Nat.le_of_ble_eq_true rfl) rfl ?_
      exact c_mustExistF ⟨by decide, rfl, hQ M (Fr_rf _ _)⟩
    ·
      replace hw := b2i_1 hw
      refine lm_G_sg 2 (pc' := 21) (L' := [some (.ref 0), some (.int x), some (.int y), some (.int w)]) (S' := [.int 1]) (σ' := lm_T M v G) rfl trivial ?_
      refine lm_G_ca (j := 137) (as := [.int 1]) (rest := []) rfl (Or.inl rfl) (Nat.le_of_ble_eq_true rfl) (Nat.le_of_ble_eq_true rfl) (Nat.le_of_ble_eq_true rfl) (Nat.le_of_ble_eq_true rfl) rfl ?_
      refine c_mustExistT ?_
      show lm_G X (d + 7) 100 106 1 6 24 [some (.ref 0), some (.int x), some (.int y), some (.int w)] [] (lm_T M v G) Q
      refine lm_G_sg 3 (pc' := 28) (L' := [some (.ref 0), some (.int x), some (.int y), some (.int w)]) (S' := [.int 60, .int 0, .int y]) (σ' := lm_T M v G) rfl trivial ?_
      refine lm_G_ca (j := 136) (as := [.int y, .int 0, .int 60]) (rest := []) rfl (Or.inl rfl) (Nat.le_of_ble_eq_true rfl) (Nat.le_of_ble_eq_true rfl) (Nat.le_of_ble_eq_true rfl) (Nat.le_of_ble_eq_true rfl) rfl ?_
      refine c_isWithin ?_
      show lm_G X (d + 7) 100 106 1 6 31 [some (.ref 0), some (.int x), some (.int y), some (.int w)] [.int (b2i (inR y 0 60))] (lm_T M v G) Q
      rcases Bool.eq_false_or_eq_true (inR y 0 60) with hy | hy
      rotate_left
      ·
        rw [hy]
        show lm_G X (d + 7) 100 106 1 6 31 [some (.ref 0), some (.int x), some (.int y), some (.int w)] [.int 0] (lm_T M v G) Q
        rw [show aWhose F s x y w = .inr true from by simp +decide only [aWhose, hy, hx, hw, if_true, if_false, Bool.and_true, Bool.true_and, Bool.and_self, Bool.false_and, Bool.and_false, Bool.false_eq_true]] at hQ
        refine lm_G_ca (j := 138) (as := [.int 0]) (rest := []) rfl (Or.inl rfl) (Nat.le_of_ble_eq_true rfl) (Nat.le_of_ble_eq_true rfl) (Nat.le_of_ble_eq_true rfl) (Nat.le_of_ble_eq_true rfl) rfl ?_
        exact c_mustFitF ⟨by decide, rfl, hQ M (Fr_rf _ _)⟩
      ·
        rw [hy]
        show lm_G X (d + 7) 100 106 1 6 31 [some (.ref 0), some (.int x), some (.int y), some (.int w)] [.int 1] (lm_T M v G) Q
        refine lm_G_ca (j := 138) (as := [.int 1]) (rest := []) rfl (Or.inl rfl) (Nat.le_of_ble_eq_true rfl) (Nat.le_of_ble_eq_true rfl) (Nat.le_of_ble_eq_true rfl) (Nat.le_of_ble_eq_true rfl) rfl ?_
        refine c_mustFitT ?_
        show lm_G X (d + 7) 100 106 2 12 34 [some (.ref 0), some (.int x), some (.int y), some (.int w)] [] (lm_T M v G) Q
        obtain ⟨t, ht, rfl⟩ := isP_nI hx (by omega)
        have ct : (nI t).toNatClampNeg = t := nI_clamp (by omega)
        obtain ⟨n, hn, rfl⟩ := inR_nI (n := 60) (by decide) hy
        have cn : (nI n).toNatClampNeg = n := nI_clamp (by omega)
        refine lm_G_sg 1 (pc' := 35) (L' := [some (.ref 0), some (.int (nI t)), some (.int (nI n)), some (.int w)]) (S' := [.ref 0]) (σ' := lm_T M v G) rfl trivial ?_
        refine lm_G_ca (j := 132) (as := [.ref 0]) (rest := []) rfl (Or.inl rfl) (Nat.le_of_ble_eq_true rfl) (Nat.le_of_ble_eq_true rfl) (Nat.le_of_ble_eq_true rfl) (Nat.le_of_ble_eq_true rfl) rfl ?_
        refine u_start hF h (Fr_rf _ _) hl (fun M1 t1 e1 => ?_)
        show lm_G X (d + 7) 100 106 2 12 38 [some (.ref 0), some (.int (nI t)), some (.int (nI n)), some (.int w)] [] (lm_T M1 v G) Q
        refine lm_G_sg 3 (pc' := 43) (L' := [some (.ref 0), some (.int (nI t)), some (.int (nI n)), some (.int w)]) (S' := [.int (nI n), .ref 38]) (σ' := lm_T M1 v G) rfl trivial ?_
        refine lm_G_ca (j := 73) (as := [.ref 38, .int (nI n)]) (rest := []) rfl (Or.inl rfl) (Nat.le_of_ble_eq_true rfl) (Nat.le_of_ble_eq_true rfl) (Nat.le_of_ble_eq_true rfl) (Nat.le_of_ble_eq_true rfl) rfl ?_
        refine u_passHours hF t1 hs (by omega) (fun M2 t2 e2 => ?_)
        show lm_G X (d + 7) 100 106 2 12 46 [some (.ref 0), some (.int (nI t)), some (.int (nI n)), some (.int w)] [] (lm_T M2 v G) Q
        rcases isP_2 hw with rfl | rfl
        ·
          refine lm_G_sg 1 (pc' := 47) (L' := [some (.ref 0), some (.int (nI t)), some (.int (nI n)), some (.int 0)]) (S' := [.int 0]) (σ' := lm_T M2 v G) rfl trivial ?_
          refine lm_G_br (b := ¬ 0 = 0) (t := 62) (S' := []) rfl (fun hc => absurd rfl hc) (fun hc => ?_)
          refine lm_G_sg 5 (pc' := 59) (L' := [some (.ref 0), some (.int (nI t)), some (.int (nI n)), some (.int 0)]) (S' := [.int (M2 45 (nI t).toNatClampNeg)]) (σ' := lm_T M2 v G) rfl ⟨(vp_in_nI (by omega) (by omega)), trivial, trivial⟩ ?_
          rw [show (nI t).toNatClampNeg = t from nI_clamp (by omega)]
          rw [show M2 45 t = sOw (hrsS F nl s n) t from t2.1.ow t (by omega)]
          refine lm_G_sg 1 (pc' := 71) (L' := [some (.ref 0), some (.int (nI t)), some (.int (nI n)), some (.int 0)]) (S' := [.int (sOw (hrsS F nl s n) t)]) (σ' := lm_T M2 v G) rfl trivial ?_
          rw [show aWhose F s (nI t) (nI n) 0 = .inl (sOw (hrsS F nl s n) t) from by simp +decide only [aWhose, hx, hw, hy, ct, cn, if_true, if_false, Bool.and_true, Bool.true_and, Bool.and_self, Bool.false_and, Bool.and_false, Bool.false_eq_true]] at hQ
          exact lm_G_re rfl trivial (Nat.le_of_ble_eq_true rfl) (Nat.le_of_ble_eq_true rfl) (hQ _ t2.2.1)
        ·
          refine lm_G_sg 1 (pc' := 47) (L' := [some (.ref 0), some (.int (nI t)), some (.int (nI n)), some (.int 1)]) (S' := [.int 1]) (σ' := lm_T M2 v G) rfl trivial ?_
          refine lm_G_br (b := ¬ 1 = 0) (t := 62) (S' := []) rfl (fun hc => ?_) (fun hc => absurd (by decide) hc)
          refine lm_G_sg 5 (pc' := 71) (L' := [some (.ref 0), some (.int (nI t)), some (.int (nI n)), some (.int 1)]) (S' := [.int (M2 46 (nI t).toNatClampNeg)]) (σ' := lm_T M2 v G) rfl ⟨(vp_in_nI (by omega) (by omega)), trivial, trivial⟩ ?_
          rw [show (nI t).toNatClampNeg = t from nI_clamp (by omega)]
          rw [show M2 46 t = humS F (sHu (hrsS F nl s n)) (nI t) from t2.1.hs t (by omega)]
          rw [show aWhose F s (nI t) (nI n) 1 = .inl (humS F (sHu (hrsS F nl s n)) (nI t)) from by simp +decide only [aWhose, hx, hw, hy, ct, cn, if_true, if_false, Bool.and_true, Bool.true_and, Bool.and_self, Bool.false_and, Bool.and_false, Bool.false_eq_true]] at hQ
          exact lm_G_re rfl trivial (Nat.le_of_ble_eq_true rfl) (Nat.le_of_ble_eq_true rfl) (hQ _ t2.2.1)
set_option maxRecDepth 10000 in
theorem m_whose {X : lm_X} {d v : Nat} {M : Nat → Nat → Int32} {G : Nat → Nat → Int64} {Q : lm_O → lm_S → Prop} {F : Fa} {s : Sc} {x y w : Int32} (hF : okF F) (h : RM M F s) (hs : okS F s) (hl : M 64 42 = 0) (hQ : ∀ M1, RM M1 F s → FrN M M1 → M1 64 4 = cd (aWhose F s x y w) → Q (.inl (some (.int (vl (aWhose F s x y w))))) (lm_T M1 v G)) : lm_Q X (d + 6) 213 [.ref 64, .int x, .int y, .int w] (lm_T M v G) Q := by
  have hn := hF.n
  have hm := hF.m
  show lm_G X (d + 6) 213 106 0 0 0 [some (.ref 64), some (.int x), some (.int y), some (.int w), none] [] (lm_T M v G) Q
  refine lm_G_sg 3 (pc' := 5) (L' := [some (.ref 64), some (.int x), some (.int y), some (.int w), none]) (S' := []) (σ' := lm_T (lm_wr M 64 4 0) v G) rfl ⟨trivial, trivial, trivial⟩ ?_
  have h0 : RM (lm_wr M 64 4 0) F s := RM_taken h 4 (by decide) 0
  have f0 : FrN M (lm_wr M 64 4 0) := FrN_w64 (FrN_rf _) (by decide)
  have c0 : (lm_wr M 64 4 0) 64 4 = 0 := wr_same
  have l0 : (lm_wr M 64 4 0) 64 42 = 0 := (wr_at (by decide)).trans hl
  revert h0 f0 c0 l0
  generalize lm_wr M 64 4 0 = M0
  intro h0 f0 c0 l0
  refine lm_G_sg 2 (pc' := 7) (L' := [some (.ref 64), some (.int x), some (.int y), some (.int w), none]) (S' := [.int x, .ref 64]) (σ' := lm_T M0 v G) rfl trivial ?_
  refine lm_G_ca (j := 146) (as := [.ref 64, .int x]) (rest := []) rfl (Or.inl rfl) (Nat.le_of_ble_eq_true rfl) (Nat.le_of_ble_eq_true rfl) (Nat.le_of_ble_eq_true rfl) (Nat.le_of_ble_eq_true rfl) rfl ?_
  refine m_isTune hF h0 ?_
  show lm_G X (d + 6) 213 106 0 0 10 [some (.ref 64), some (.int x), some (.int y), some (.int w), none] [.int (b2i (isP (fM F) x))] (lm_T M0 v G) Q
  refine lm_G_br (b := (b2i (isP (fM F) x)) = 0) (t := 23) (S' := []) rfl (fun hx => ?_) (fun hx => ?_)
  ·
    replace hx := b2i_0 hx
    refine lm_G_sg 2 (pc' := 25) (L' := [some (.ref 64), some (.int x), some (.int y), some (.int w), none]) (S' := [.int 1, .ref 64]) (σ' := lm_T M0 v G) rfl trivial ?_
    refine lm_G_ca (j := 141) (as := [.ref 64, .int 1]) (rest := []) rfl (Or.inl rfl) (Nat.le_of_ble_eq_true rfl) (Nat.le_of_ble_eq_true rfl) (Nat.le_of_ble_eq_true rfl) (Nat.le_of_ble_eq_true rfl) rfl ?_
    refine m_fail ?_
    show lm_G X (d + 6) 213 106 0 0 28 [some (.ref 64), some (.int x), some (.int y), some (.int w), none] [.int 0] (lm_T (lm_wr M0 64 4 1) v G) Q
    rw [show aWhose F s x y w = .inr false from by simp +decide only [aWhose, hx, if_true, if_false, Bool.and_true, Bool.true_and, Bool.and_self, Bool.false_and, Bool.and_false, Bool.false_eq_true]] at hQ
    exact lm_G_re rfl trivial (Nat.zero_le _) (Nat.zero_le _) (hQ _ (RM_taken h0 4 (by decide) 1) (FrN_w64 f0 (by decide)) wr_same)
  ·
    replace hx := b2i_1 hx
    refine lm_G_sg 4 (pc' := 17) (L' := [some (.ref 64), some (.int x), some (.int y), some (.int w), none]) (S' := [.long 1, .long 0, .long w.toInt64]) (σ' := lm_T M0 v G) rfl trivial ?_
    refine lm_G_ca (j := 142) (as := [.long w.toInt64, .long 0, .long 1]) (rest := []) rfl (Or.inl rfl) (Nat.le_of_ble_eq_true rfl) (Nat.le_of_ble_eq_true rfl) (Nat.le_of_ble_eq_true rfl) (Nat.le_of_ble_eq_true rfl) rfl ?_
    refine c_isIn ?_
    show lm_G X (d + 6) 213 106 0 0 20 [some (.ref 64), some (.int x), some (.int y), some (.int w), none] [.int (b2i (inL (w.toInt64) 0 1))] (lm_T M0 v G) Q
    rw [show inL (w.toInt64) 0 1 = isP 2 w from inL_1 _]
    refine lm_G_br (b := ¬ (b2i (isP 2 w)) = 0) (t := 29) (S' := []) rfl (fun hw => ?_) (fun hw => ?_)
    rotate_left
    ·
      replace hw := b2i_0 (Classical.not_not.mp hw)
      refine lm_G_sg 2 (pc' := 25) (L' := [some (.ref 64), some (.int x), some (.int y), some (.int w), none]) (S' := [.int 1, .ref 64]) (σ' := lm_T M0 v G) rfl trivial ?_
      refine lm_G_ca (j := 141) (as := [.ref 64, .int 1]) (rest := []) rfl (Or.inl rfl) (Nat.le_of_ble_eq_true rfl) (Nat.le_of_ble_eq_true rfl) (Nat.le_of_ble_eq_true rfl) (Nat.le_of_ble_eq_true rfl) rfl ?_
      refine m_fail ?_
      show lm_G X (d + 6) 213 106 0 0 28 [some (.ref 64), some (.int x), some (.int y), some (.int w), none] [.int 0] (lm_T (lm_wr M0 64 4 1) v G) Q
      rw [show aWhose F s x y w = .inr false from by simp +decide only [aWhose, hw, hx, if_true, if_false, Bool.and_true, Bool.true_and, Bool.and_self, Bool.false_and, Bool.and_false, Bool.false_eq_true]] at hQ
      exact lm_G_re rfl trivial (Nat.zero_le _) (Nat.zero_le _) (hQ _ (RM_taken h0 4 (by decide) 1) (FrN_w64 f0 (by decide)) wr_same)
    ·
      replace hw := b2i_1 hw
      refine lm_G_sg 4 (pc' := 35) (L' := [some (.ref 64), some (.int x), some (.int y), some (.int w), none]) (S' := [.long 60, .long 0, .long y.toInt64]) (σ' := lm_T M0 v G) rfl trivial ?_
      refine lm_G_ca (j := 142) (as := [.long y.toInt64, .long 0, .long 60]) (rest := []) rfl (Or.inl rfl) (Nat.le_of_ble_eq_true rfl) (Nat.le_of_ble_eq_true rfl) (Nat.le_of_ble_eq_true rfl) (Nat.le_of_ble_eq_true rfl) rfl ?_
      refine c_isIn ?_
      show lm_G X (d + 6) 213 106 0 0 38 [some (.ref 64), some (.int x), some (.int y), some (.int w), none] [.int (b2i (inL (y.toInt64) 0 60))] (lm_T M0 v G) Q
      rw [show inL (y.toInt64) 0 60 = inR y 0 60 from (inL_R y 0 60)]
      refine lm_G_br (b := ¬ (b2i (inR y 0 60)) = 0) (t := 47) (S' := []) rfl (fun hy => ?_) (fun hy => ?_)
      rotate_left
      ·
        replace hy := b2i_0 (Classical.not_not.mp hy)
        refine lm_G_sg 2 (pc' := 43) (L' := [some (.ref 64), some (.int x), some (.int y), some (.int w), none]) (S' := [.int 2, .ref 64]) (σ' := lm_T M0 v G) rfl trivial ?_
        refine lm_G_ca (j := 141) (as := [.ref 64, .int 2]) (rest := []) rfl (Or.inl rfl) (Nat.le_of_ble_eq_true rfl) (Nat.le_of_ble_eq_true rfl) (Nat.le_of_ble_eq_true rfl) (Nat.le_of_ble_eq_true rfl) rfl ?_
        refine m_fail ?_
        show lm_G X (d + 6) 213 106 0 0 46 [some (.ref 64), some (.int x), some (.int y), some (.int w), none] [.int 0] (lm_T (lm_wr M0 64 4 2) v G) Q
        rw [show aWhose F s x y w = .inr true from by simp +decide only [aWhose, hy, hx, hw, if_true, if_false, Bool.and_true, Bool.true_and, Bool.and_self, Bool.false_and, Bool.and_false, Bool.false_eq_true]] at hQ
        exact lm_G_re rfl trivial (Nat.zero_le _) (Nat.zero_le _) (hQ _ (RM_taken h0 4 (by decide) 2) (FrN_w64 f0 (by decide)) wr_same)
      ·
        replace hy := b2i_1 hy
        obtain ⟨t, ht, rfl⟩ := isP_nI hx (by omega)
        have ct : (nI t).toNatClampNeg = t := nI_clamp (by omega)
        obtain ⟨n, hn, rfl⟩ := inR_nI (n := 60) (by decide) hy
        have cn : (nI n).toNatClampNeg = n := nI_clamp (by omega)
        refine lm_G_sg 4 (pc' := 53) (L' := [some (.ref 64), some (.int (nI t)), some (.int (nI n)), some (.int w), none]) (S' := [.int 0, .ref 90, .ref 64]) (σ' := lm_T M0 v G) rfl trivial ?_
        refine lm_G_ca (j := 177) (as := [.ref 64, .ref 90, .int 0]) (rest := []) rfl (Or.inl rfl) (Nat.le_of_ble_eq_true rfl) (Nat.le_of_ble_eq_true rfl) (Nat.le_of_ble_eq_true rfl) (Nat.le_of_ble_eq_true rfl) rfl ?_
        refine t_pack hF h0 f0 c0 l0 (fun M1 t1 => ?_)
        show lm_G X (d + 6) 213 106 0 0 56 [some (.ref 64), some (.int (nI t)), some (.int (nI n)), some (.int w), none] [] (lm_T M1 v G) Q
        refine lm_G_sg 2 (pc' := 58) (L' := [some (.ref 64), some (.int (nI t)), some (.int (nI n)), some (.int w), none]) (S' := [.int (nI n), .ref 64]) (σ' := lm_T M1 v G) rfl trivial ?_
        refine lm_G_ca (j := 194) (as := [.ref 64, .int (nI n)]) (rest := []) rfl (Or.inl rfl) (Nat.le_of_ble_eq_true rfl) (Nat.le_of_ble_eq_true rfl) (Nat.le_of_ble_eq_true rfl) (Nat.le_of_ble_eq_true rfl) rfl ?_
        refine t_goOn hF t1 hs (by omega) (fun M2 t2 e2 => ?_)
        show lm_G X (d + 6) 213 106 0 0 61 [some (.ref 64), some (.int (nI t)), some (.int (nI n)), some (.int w), none] [] (lm_T M2 v G) Q
        rcases isP_2 hw with rfl | rfl
        ·
          refine lm_G_sg 1 (pc' := 62) (L' := [some (.ref 64), some (.int (nI t)), some (.int (nI n)), some (.int 0), none]) (S' := [.int 0]) (σ' := lm_T M2 v G) rfl trivial ?_
          refine lm_G_br (b := ¬ 0 = 0) (t := 74) (S' := []) rfl (fun hc => absurd rfl hc) (fun hc => ?_)
          refine lm_G_sg 4 (pc' := 71) (L' := [some (.ref 64), some (.int (nI t)), some (.int (nI n)), some (.int 0), none]) (S' := [.int (M2 81 (nI t).toNatClampNeg)]) (σ' := lm_T M2 v G) rfl ⟨(vp_in_nI (by omega) (by omega)), trivial, trivial⟩ ?_
          rw [show (nI t).toNatClampNeg = t from nI_clamp (by omega)]
          rw [show M2 81 t = sOw (hrsS F nl s n) t from t2.1.ow t (by omega)]
          refine lm_G_sg 1 (pc' := 79) (L' := [some (.ref 64), some (.int (nI t)), some (.int (nI n)), some (.int 0), none]) (S' := [.int (sOw (hrsS F nl s n) t)]) (σ' := lm_T M2 v G) rfl trivial ?_
          rw [show aWhose F s (nI t) (nI n) 0 = .inl (sOw (hrsS F nl s n) t) from by simp +decide only [aWhose, hx, hw, hy, ct, cn, if_true, if_false, Bool.and_true, Bool.true_and, Bool.and_self, Bool.false_and, Bool.and_false, Bool.false_eq_true]] at hQ
          refine lm_G_sg 5 (pc' := 87) (L' := [some (.ref 64), some (.int (nI t)), some (.int (nI n)), some (.int 0), some (.int (sOw (hrsS F nl s n) t))]) (S' := [.int 0, .ref 90, .ref 64]) (σ' := lm_T M2 v G) rfl trivial ?_
          refine lm_G_ca (j := 178) (as := [.ref 64, .ref 90, .int 0]) (rest := []) rfl (Or.inl rfl) (Nat.le_of_ble_eq_true rfl) (Nat.le_of_ble_eq_true rfl) (Nat.le_of_ble_eq_true rfl) (Nat.le_of_ble_eq_true rfl) rfl ?_
          refine t_unpack hF t2 (br_hrs n) (fun M9 t9 => ?_)
          show lm_G X (d + 6) 213 106 0 0 90 [some (.ref 64), some (.int (nI t)), some (.int (nI n)), some (.int 0), some (.int (sOw (hrsS F nl s n) t))] [] (lm_T M9 v G) Q
          refine lm_G_sg 1 (pc' := 92) (L' := [some (.ref 64), some (.int (nI t)), some (.int (nI n)), some (.int 0), some (.int (sOw (hrsS F nl s n) t))]) (S' := [.int (sOw (hrsS F nl s n) t)]) (σ' := lm_T M9 v G) rfl trivial ?_
          exact lm_G_re rfl trivial (Nat.zero_le _) (Nat.zero_le _) (hQ _ t9.1 t9.2.1 t9.2.2.2.1)
        ·
          refine lm_G_sg 1 (pc' := 62) (L' := [some (.ref 64), some (.int (nI t)), some (.int (nI n)), some (.int 1), none]) (S' := [.int 1]) (σ' := lm_T M2 v G) rfl trivial ?_
          refine lm_G_br (b := ¬ 1 = 0) (t := 74) (S' := []) rfl (fun hc => ?_) (fun hc => absurd (by decide) hc)
          refine lm_G_sg 2 (pc' := 76) (L' := [some (.ref 64), some (.int (nI t)), some (.int (nI n)), some (.int 1), none]) (S' := [.int (nI t), .ref 64]) (σ' := lm_T M2 v G) rfl trivial ?_
          refine lm_G_ca (j := 181) (as := [.ref 64, .int (nI t)]) (rest := []) rfl (Or.inl rfl) (Nat.le_of_ble_eq_true rfl) (Nat.le_of_ble_eq_true rfl) (Nat.le_of_ble_eq_true rfl) (Nat.le_of_ble_eq_true rfl) rfl ?_
          refine m_whoHums hF t2.1 ?_
          show lm_G X (d + 6) 213 106 0 0 79 [some (.ref 64), some (.int (nI t)), some (.int (nI n)), some (.int 1), none] [.int (humS F (sHu (hrsS F nl s n)) (nI t))] (lm_T M2 v G) Q
          rw [show aWhose F s (nI t) (nI n) 1 = .inl (humS F (sHu (hrsS F nl s n)) (nI t)) from by simp +decide only [aWhose, hx, hw, hy, ct, cn, if_true, if_false, Bool.and_true, Bool.true_and, Bool.and_self, Bool.false_and, Bool.and_false, Bool.false_eq_true]] at hQ
          refine lm_G_sg 5 (pc' := 87) (L' := [some (.ref 64), some (.int (nI t)), some (.int (nI n)), some (.int 1), some (.int (humS F (sHu (hrsS F nl s n)) (nI t)))]) (S' := [.int 0, .ref 90, .ref 64]) (σ' := lm_T M2 v G) rfl trivial ?_
          refine lm_G_ca (j := 178) (as := [.ref 64, .ref 90, .int 0]) (rest := []) rfl (Or.inl rfl) (Nat.le_of_ble_eq_true rfl) (Nat.le_of_ble_eq_true rfl) (Nat.le_of_ble_eq_true rfl) (Nat.le_of_ble_eq_true rfl) rfl ?_
          refine t_unpack hF t2 (br_hrs n) (fun M9 t9 => ?_)
          show lm_G X (d + 6) 213 106 0 0 90 [some (.ref 64), some (.int (nI t)), some (.int (nI n)), some (.int 1), some (.int (humS F (sHu (hrsS F nl s n)) (nI t)))] [] (lm_T M9 v G) Q
          refine lm_G_sg 1 (pc' := 92) (L' := [some (.ref 64), some (.int (nI t)), some (.int (nI n)), some (.int 1), some (.int (humS F (sHu (hrsS F nl s n)) (nI t)))]) (S' := [.int (humS F (sHu (hrsS F nl s n)) (nI t))]) (σ' := lm_T M9 v G) rfl trivial ?_
          exact lm_G_re rfl trivial (Nat.zero_le _) (Nat.zero_le _) (hQ _ t9.1 t9.2.1 t9.2.2.2.1)
set_option maxRecDepth 10000 in
theorem c_gets {X : lm_X} {d v : Nat} {M : Nat → Nat → Int32} {G : Nat → Nat → Int64} {Q : lm_O → lm_S → Prop} {F : Fa} {s : Sc} {x y : Int32} (hF : okF F) (h : RC 28 M F s) (hs : okS F s) (hl : M 28 12 = -1) (hQ : ∀ M1, Fr frQ M M1 → Q (cO (aGets F s x y)) (lm_T M1 v G)) : lm_Q X (d + 6) 101 [.ref 0, .int x, .int y] (lm_T M v G) Q := by
  have hn := hF.n
  have hm := hF.m
  show lm_G X (d + 6) 101 106 0 0 0 [some (.ref 0), some (.int x), some (.int y), none] [] (lm_T M v G) Q
  refine lm_G_sg 2 (pc' := 2) (L' := [some (.ref 0), some (.int x), some (.int y), none]) (S' := [.int x, .ref 0]) (σ' := lm_T M v G) rfl trivial ?_
  refine lm_G_ca (j := 133) (as := [.ref 0, .int x]) (rest := []) rfl (Or.inl rfl) (Nat.le_of_ble_eq_true rfl) (Nat.le_of_ble_eq_true rfl) (Nat.le_of_ble_eq_true rfl) (Nat.le_of_ble_eq_true rfl) rfl ?_
  refine c_isPerson hF h ?_
  show lm_G X (d + 6) 101 106 0 0 5 [some (.ref 0), some (.int x), some (.int y), none] [.int (b2i (isP (fN F) x))] (lm_T M v G) Q
  refine lm_G_br (b := (b2i (isP (fN F) x)) = 0) (t := 20) (S' := []) rfl (fun hx => ?_) (fun hx => ?_)
  ·
    replace hx := b2i_0 hx
    refine lm_G_sg 1 (pc' := 21) (L' := [some (.ref 0), some (.int x), some (.int y), none]) (S' := [.int 0]) (σ' := lm_T M v G) rfl trivial ?_
    rw [show aGets F s x y = .inr false from by simp +decide only [aGets, hx, if_true, if_false, Bool.and_true, Bool.true_and, Bool.and_self, Bool.false_and, Bool.and_false, Bool.false_eq_true]] at hQ
    refine lm_G_ca (j := 137) (as := [.int 0]) (rest := []) rfl (Or.inl rfl) (Nat.le_of_ble_eq_true rfl) (Nat.le_of_ble_eq_true rfl) (Nat.le_of_ble_eq_true rfl) (Nat.le_of_ble_eq_true rfl) rfl ?_
    exact c_mustExistF ⟨by decide, rfl, hQ M (Fr_rf _ _)⟩
  ·
    replace hx := b2i_1 hx
    refine lm_G_sg 2 (pc' := 10) (L' := [some (.ref 0), some (.int x), some (.int y), none]) (S' := [.int y, .ref 0]) (σ' := lm_T M v G) rfl trivial ?_
    refine lm_G_ca (j := 134) (as := [.ref 0, .int y]) (rest := []) rfl (Or.inl rfl) (Nat.le_of_ble_eq_true rfl) (Nat.le_of_ble_eq_true rfl) (Nat.le_of_ble_eq_true rfl) (Nat.le_of_ble_eq_true rfl) rfl ?_
    refine c_isTune hF h ?_
    show lm_G X (d + 6) 101 106 0 0 13 [some (.ref 0), some (.int x), some (.int y), none] [.int (b2i (isP (fM F) y))] (lm_T M v G) Q
    refine lm_G_br (b := (b2i (isP (fM F) y)) = 0) (t := 20) (S' := []) rfl (fun hy => ?_) (fun hy => ?_)
    ·
      replace hy := b2i_0 hy
      refine lm_G_sg 1 (pc' := 21) (L' := [some (.ref 0), some (.int x), some (.int y), none]) (S' := [.int 0]) (σ' := lm_T M v G) rfl trivial ?_
      rw [show aGets F s x y = .inr false from by simp +decide only [aGets, hy, hx, if_true, if_false, Bool.and_true, Bool.true_and, Bool.and_self, Bool.false_and, Bool.and_false, Bool.false_eq_true]] at hQ
      refine lm_G_ca (j := 137) (as := [.int 0]) (rest := []) rfl (Or.inl rfl) (Nat.le_of_ble_eq_true rfl) (Nat.le_of_ble_eq_true rfl) (Nat.le_of_ble_eq_true rfl) (Nat.le_of_ble_eq_true rfl) rfl ?_
      exact c_mustExistF ⟨by decide, rfl, hQ M (Fr_rf _ _)⟩
    ·
      replace hy := b2i_1 hy
      refine lm_G_sg 2 (pc' := 21) (L' := [some (.ref 0), some (.int x), some (.int y), none]) (S' := [.int 1]) (σ' := lm_T M v G) rfl trivial ?_
      refine lm_G_ca (j := 137) (as := [.int 1]) (rest := []) rfl (Or.inl rfl) (Nat.le_of_ble_eq_true rfl) (Nat.le_of_ble_eq_true rfl) (Nat.le_of_ble_eq_true rfl) (Nat.le_of_ble_eq_true rfl) rfl ?_
      refine c_mustExistT ?_
      show lm_G X (d + 6) 101 106 1 6 24 [some (.ref 0), some (.int x), some (.int y), none] [] (lm_T M v G) Q
      obtain ⟨p, hp, rfl⟩ := isP_nI hx (by omega)
      have cp : (nI p).toNatClampNeg = p := nI_clamp (by omega)
      obtain ⟨t, ht, rfl⟩ := isP_nI hy (by omega)
      have ct : (nI t).toNatClampNeg = t := nI_clamp (by omega)
      rw [show aGets F s (nI p) (nI t) = .inl (fiS (fGets F s (nI p) t) 61) from by simp +decide only [aGets, hx, hy, ct, if_true, if_false, Bool.and_true, Bool.true_and, Bool.and_self, Bool.false_and, Bool.and_false, Bool.false_eq_true]] at hQ
      refine lm_G_sg 1 (pc' := 25) (L' := [some (.ref 0), some (.int (nI p)), some (.int (nI t)), none]) (S' := [.ref 0]) (σ' := lm_T M v G) rfl trivial ?_
      refine lm_G_ca (j := 132) (as := [.ref 0]) (rest := []) rfl (Or.inl rfl) (Nat.le_of_ble_eq_true rfl) (Nat.le_of_ble_eq_true rfl) (Nat.le_of_ble_eq_true rfl) (Nat.le_of_ble_eq_true rfl) rfl ?_
      refine u_start hF h (Fr_rf _ _) hl (fun M1 t1 e1 => ?_)
      show lm_G X (d + 6) 101 106 1 6 28 [some (.ref 0), some (.int (nI p)), some (.int (nI t)), none] [] (lm_T M1 v G) Q
      refine lm_G_sg 2 (pc' := 30) (L' := [some (.ref 0), some (.int (nI p)), some (.int (nI t)), some (.int 0)]) (S' := []) (σ' := lm_T M1 v G) rfl trivial ?_
      refine lm_ind (α := (Nat → Fn)) (St := fun (j : Nat) zz => (fun (M2 : Nat → Fn) => lm_G X (d + 6) 101 106 1 6 30 [some (.ref 0), some (.int (nI p)), some (.int (nI t)), some (.int (nI j))] [] (lm_T M2 v G) Q) zz) (Inv := fun (j : Nat) zz => (fun (M2 : Nat → Fn) => fstS (fGets F s (nI p) t) j = none ∧ TC M F M2 (hrsS F nl s j)) zz) (61) (fun j zz hj hI ih => ?_) (fun zz hI => ?_) (0) M1 (by omega) ?_
      ·
        revert ih hI
        revert zz
        intro M2 hI ih
        replace hI : fstS (fGets F s (nI p) t) j = none ∧ TC M F M2 (hrsS F nl s j) := hI
        replace ih : ∀ (M2 : Nat → Fn) (_ : fstS (fGets F s (nI p) t) (j + 1) = none ∧ TC M F M2 (hrsS F nl s (j + 1))), lm_G X (d + 6) 101 106 1 6 30 [some (.ref 0), some (.int (nI p)), some (.int (nI t)), some (.int (nI (j + 1)))] [] (lm_T M2 v G) Q := fun M2 q => ih M2 q
        show lm_G X (d + 6) 101 106 1 6 30 [some (.ref 0), some (.int (nI p)), some (.int (nI t)), some (.int (nI j))] [] (lm_T M2 v G) Q
        obtain ⟨i1, t2⟩ := hI
        refine lm_G_sg 2 (pc' := 33) (L' := [some (.ref 0), some (.int (nI p)), some (.int (nI t)), some (.int (nI j))]) (S' := [.int 60, .int (nI j)]) (σ' := lm_T M2 v G) rfl trivial ?_
        refine lm_G_br (b := 60 < (nI j)) (t := 64) (S' := []) rfl (fun hc => absurd hc (nI_nlt (a := 60) (by omega) (by omega))) (fun hc => ?_)
        refine lm_G_sg 5 (pc' := 45) (L' := [some (.ref 0), some (.int (nI p)), some (.int (nI t)), some (.int (nI j))]) (S' := [.int (M2 45 (nI t).toNatClampNeg)]) (σ' := lm_T M2 v G) rfl ⟨(vp_in_nI (by omega) (by omega)), trivial, trivial⟩ ?_
        rw [show (nI t).toNatClampNeg = t from nI_clamp (by omega)]
        rw [show M2 45 t = sOw (hrsS F nl s j) t from t2.1.ow t (by omega)]
        refine lm_G_sg 1 (pc' := 46) (L' := [some (.ref 0), some (.int (nI p)), some (.int (nI t)), some (.int (nI j))]) (S' := [.int (nI p), .int (sOw (hrsS F nl s j) t)]) (σ' := lm_T M2 v G) rfl trivial ?_
        refine lm_G_br (b := ¬ (sOw (hrsS F nl s j) t) = (nI p)) (t := 51) (S' := []) rfl (fun h5 => ?_) (fun h5 => ?_)
        rotate_left
        ·
          refine lm_G_sg 1 (pc' := 50) (L' := [some (.ref 0), some (.int (nI p)), some (.int (nI t)), some (.int (nI j))]) (S' := [.int (nI j)]) (σ' := lm_T M2 v G) rfl trivial ?_
          have e := fi_some (n := 61) (f := (fGets F s (nI p) t)) ((fst_nx i1).trans (if_pos (decide_eq_true (Classical.not_not.mp h5)))) (by omega)
          rw [e] at hQ
          exact lm_G_re rfl trivial (Nat.le_of_ble_eq_true rfl) (Nat.le_of_ble_eq_true rfl) (hQ _ t2.2.1)
        ·
          refine lm_G_sg 2 (pc' := 55) (L' := [some (.ref 0), some (.int (nI p)), some (.int (nI t)), some (.int (nI j))]) (S' := [.ref 38]) (σ' := lm_T M2 v G) rfl trivial ?_
          refine lm_G_ca (j := 74) (as := [.ref 38]) (rest := []) rfl (Or.inl rfl) (Nat.le_of_ble_eq_true rfl) (Nat.le_of_ble_eq_true rfl) (Nat.le_of_ble_eq_true rfl) (Nat.le_of_ble_eq_true rfl) rfl ?_
          refine u_passHour hF t2 (ok_hrs hs j) (fun M3 t3 e3 => ?_)
          show lm_G X (d + 6) 101 106 1 6 58 [some (.ref 0), some (.int (nI p)), some (.int (nI t)), some (.int (nI j))] [] (lm_T M3 v G) Q
          refine lm_G_sg 1 (pc' := 61) (L' := [some (.ref 0), some (.int (nI p)), some (.int (nI t)), some (.int ((nI j) + 1))]) (S' := []) (σ' := lm_T M3 v G) rfl trivial ?_
          rw [nI_1]
          refine lm_G_sg 1 (pc' := 30) (L' := [some (.ref 0), some (.int (nI p)), some (.int (nI t)), some (.int (nI (j + 1)))]) (S' := []) (σ' := lm_T M3 v G) rfl trivial ?_
          exact ih _ (⟨by rw [fst_nx i1, show (fGets F s (nI p) t) j = false from decide_eq_false h5]; rfl, t3⟩)
      ·
        revert hI
        revert zz
        intro M2 hI
        replace hI : fstS (fGets F s (nI p) t) 61 = none ∧ TC M F M2 (hrsS F nl s 61) := hI
        show lm_G X (d + 6) 101 106 1 6 30 [some (.ref 0), some (.int (nI p)), some (.int (nI t)), some (.int (nI 61))] [] (lm_T M2 v G) Q
        obtain ⟨i1, t2⟩ := hI
        refine lm_G_sg 2 (pc' := 33) (L' := [some (.ref 0), some (.int (nI p)), some (.int (nI t)), some (.int (nI 61))]) (S' := [.int 60, .int (nI 61)]) (σ' := lm_T M2 v G) rfl trivial ?_
        refine lm_G_br (b := 60 < (nI 61)) (t := 64) (S' := []) rfl (fun hc => ?_) (fun hc => absurd (nI_lt (a := 60) (by omega) (by omega)) hc)
        refine lm_G_sg 1 (pc' := 65) (L' := [some (.ref 0), some (.int (nI p)), some (.int (nI t)), some (.int (nI 61))]) (S' := [.int (-1)]) (σ' := lm_T M2 v G) rfl trivial ?_
        rw [fi_none i1] at hQ
        exact lm_G_re rfl trivial (Nat.le_of_ble_eq_true rfl) (Nat.le_of_ble_eq_true rfl) (hQ _ t2.2.1)
      ·
        try dsimp only
        exact ⟨rfl, t1⟩
set_option maxRecDepth 10000 in
theorem m_gets {X : lm_X} {d v : Nat} {M : Nat → Nat → Int32} {G : Nat → Nat → Int64} {Q : lm_O → lm_S → Prop} {F : Fa} {s : Sc} {x y : Int32} (hF : okF F) (h : RM M F s) (hs : okS F s) (hl : M 64 42 = 0) (hQ : ∀ M1, RM M1 F s → FrN M M1 → M1 64 4 = cd (aGets F s x y) → Q (.inl (some (.int (vl (aGets F s x y))))) (lm_T M1 v G)) : lm_Q X (d + 5) 214 [.ref 64, .int x, .int y] (lm_T M v G) Q := by
  have hn := hF.n
  have hm := hF.m
  show lm_G X (d + 5) 214 106 0 0 0 [some (.ref 64), some (.int x), some (.int y), none, none] [] (lm_T M v G) Q
  refine lm_G_sg 3 (pc' := 5) (L' := [some (.ref 64), some (.int x), some (.int y), none, none]) (S' := []) (σ' := lm_T (lm_wr M 64 4 0) v G) rfl ⟨trivial, trivial, trivial⟩ ?_
  have h0 : RM (lm_wr M 64 4 0) F s := RM_taken h 4 (by decide) 0
  have f0 : FrN M (lm_wr M 64 4 0) := FrN_w64 (FrN_rf _) (by decide)
  have c0 : (lm_wr M 64 4 0) 64 4 = 0 := wr_same
  have l0 : (lm_wr M 64 4 0) 64 42 = 0 := (wr_at (by decide)).trans hl
  revert h0 f0 c0 l0
  generalize lm_wr M 64 4 0 = M0
  intro h0 f0 c0 l0
  refine lm_G_sg 2 (pc' := 7) (L' := [some (.ref 64), some (.int x), some (.int y), none, none]) (S' := [.int x, .ref 64]) (σ' := lm_T M0 v G) rfl trivial ?_
  refine lm_G_ca (j := 145) (as := [.ref 64, .int x]) (rest := []) rfl (Or.inl rfl) (Nat.le_of_ble_eq_true rfl) (Nat.le_of_ble_eq_true rfl) (Nat.le_of_ble_eq_true rfl) (Nat.le_of_ble_eq_true rfl) rfl ?_
  refine m_isPerson hF h0 ?_
  show lm_G X (d + 5) 214 106 0 0 10 [some (.ref 64), some (.int x), some (.int y), none, none] [.int (b2i (isP (fN F) x))] (lm_T M0 v G) Q
  refine lm_G_br (b := (b2i (isP (fN F) x)) = 0) (t := 21) (S' := []) rfl (fun hx => ?_) (fun hx => ?_)
  ·
    replace hx := b2i_0 hx
    refine lm_G_sg 2 (pc' := 23) (L' := [some (.ref 64), some (.int x), some (.int y), none, none]) (S' := [.int 1, .ref 64]) (σ' := lm_T M0 v G) rfl trivial ?_
    refine lm_G_ca (j := 141) (as := [.ref 64, .int 1]) (rest := []) rfl (Or.inl rfl) (Nat.le_of_ble_eq_true rfl) (Nat.le_of_ble_eq_true rfl) (Nat.le_of_ble_eq_true rfl) (Nat.le_of_ble_eq_true rfl) rfl ?_
    refine m_fail ?_
    show lm_G X (d + 5) 214 106 0 0 26 [some (.ref 64), some (.int x), some (.int y), none, none] [.int 0] (lm_T (lm_wr M0 64 4 1) v G) Q
    rw [show aGets F s x y = .inr false from by simp +decide only [aGets, hx, if_true, if_false, Bool.and_true, Bool.true_and, Bool.and_self, Bool.false_and, Bool.and_false, Bool.false_eq_true]] at hQ
    exact lm_G_re rfl trivial (Nat.zero_le _) (Nat.zero_le _) (hQ _ (RM_taken h0 4 (by decide) 1) (FrN_w64 f0 (by decide)) wr_same)
  ·
    replace hx := b2i_1 hx
    refine lm_G_sg 2 (pc' := 15) (L' := [some (.ref 64), some (.int x), some (.int y), none, none]) (S' := [.int y, .ref 64]) (σ' := lm_T M0 v G) rfl trivial ?_
    refine lm_G_ca (j := 146) (as := [.ref 64, .int y]) (rest := []) rfl (Or.inl rfl) (Nat.le_of_ble_eq_true rfl) (Nat.le_of_ble_eq_true rfl) (Nat.le_of_ble_eq_true rfl) (Nat.le_of_ble_eq_true rfl) rfl ?_
    refine m_isTune hF h0 ?_
    show lm_G X (d + 5) 214 106 0 0 18 [some (.ref 64), some (.int x), some (.int y), none, none] [.int (b2i (isP (fM F) y))] (lm_T M0 v G) Q
    refine lm_G_br (b := ¬ (b2i (isP (fM F) y)) = 0) (t := 27) (S' := []) rfl (fun hy => ?_) (fun hy => ?_)
    rotate_left
    ·
      replace hy := b2i_0 (Classical.not_not.mp hy)
      refine lm_G_sg 2 (pc' := 23) (L' := [some (.ref 64), some (.int x), some (.int y), none, none]) (S' := [.int 1, .ref 64]) (σ' := lm_T M0 v G) rfl trivial ?_
      refine lm_G_ca (j := 141) (as := [.ref 64, .int 1]) (rest := []) rfl (Or.inl rfl) (Nat.le_of_ble_eq_true rfl) (Nat.le_of_ble_eq_true rfl) (Nat.le_of_ble_eq_true rfl) (Nat.le_of_ble_eq_true rfl) rfl ?_
      refine m_fail ?_
      show lm_G X (d + 5) 214 106 0 0 26 [some (.ref 64), some (.int x), some (.int y), none, none] [.int 0] (lm_T (lm_wr M0 64 4 1) v G) Q
      rw [show aGets F s x y = .inr false from by simp +decide only [aGets, hy, hx, if_true, if_false, Bool.and_true, Bool.true_and, Bool.and_self, Bool.false_and, Bool.and_false, Bool.false_eq_true]] at hQ
      exact lm_G_re rfl trivial (Nat.zero_le _) (Nat.zero_le _) (hQ _ (RM_taken h0 4 (by decide) 1) (FrN_w64 f0 (by decide)) wr_same)
    ·
      replace hy := b2i_1 hy
      obtain ⟨p, hp, rfl⟩ := isP_nI hx (by omega)
      have cp : (nI p).toNatClampNeg = p := nI_clamp (by omega)
      obtain ⟨t, ht, rfl⟩ := isP_nI hy (by omega)
      have ct : (nI t).toNatClampNeg = t := nI_clamp (by omega)
      rw [show aGets F s (nI p) (nI t) = .inl (fiS (fGets F s (nI p) t) 61) from by simp +decide only [aGets, hx, hy, ct, if_true, if_false, Bool.and_true, Bool.true_and, Bool.and_self, Bool.false_and, Bool.and_false, Bool.false_eq_true]] at hQ
      refine lm_G_sg 4 (pc' := 33) (L' := [some (.ref 64), some (.int (nI p)), some (.int (nI t)), none, none]) (S' := [.int 0, .ref 90, .ref 64]) (σ' := lm_T M0 v G) rfl trivial ?_
      refine lm_G_ca (j := 177) (as := [.ref 64, .ref 90, .int 0]) (rest := []) rfl (Or.inl rfl) (Nat.le_of_ble_eq_true rfl) (Nat.le_of_ble_eq_true rfl) (Nat.le_of_ble_eq_true rfl) (Nat.le_of_ble_eq_true rfl) rfl ?_
      refine t_pack hF h0 f0 c0 l0 (fun M1 t1 => ?_)
      show lm_G X (d + 5) 214 106 0 0 36 [some (.ref 64), some (.int (nI p)), some (.int (nI t)), none, none] [] (lm_T M1 v G) Q
      refine lm_G_sg 4 (pc' := 41) (L' := [some (.ref 64), some (.int (nI p)), some (.int (nI t)), some (.int (-1)), some (.int 0)]) (S' := []) (σ' := lm_T M1 v G) rfl trivial ?_
      have fin : ∀ (M2 : Nat → Fn) (z : Int32) (S : Sc) (t2 : TM M F s M2 S) (eb : sBr S = sBr s) (ez : z = fiS (fGets F s (nI p) t) 61), lm_G X (d + 5) 214 106 0 0 76 [some (.ref 64), some (.int (nI p)), some (.int (nI t)), some (.int z), none] [] (lm_T M2 v G) Q := by
        intro M2 z S t2 eb ez
        rw [← ez] at hQ
        refine lm_G_sg 4 (pc' := 82) (L' := [some (.ref 64), some (.int (nI p)), some (.int (nI t)), some (.int z), none]) (S' := [.int 0, .ref 90, .ref 64]) (σ' := lm_T M2 v G) rfl trivial ?_
        refine lm_G_ca (j := 178) (as := [.ref 64, .ref 90, .int 0]) (rest := []) rfl (Or.inl rfl) (Nat.le_of_ble_eq_true rfl) (Nat.le_of_ble_eq_true rfl) (Nat.le_of_ble_eq_true rfl) (Nat.le_of_ble_eq_true rfl) rfl ?_
        refine t_unpack hF t2 (eb) (fun M9 t9 => ?_)
        show lm_G X (d + 5) 214 106 0 0 85 [some (.ref 64), some (.int (nI p)), some (.int (nI t)), some (.int z), none] [] (lm_T M9 v G) Q
        refine lm_G_sg 1 (pc' := 86) (L' := [some (.ref 64), some (.int (nI p)), some (.int (nI t)), some (.int z), none]) (S' := [.int z]) (σ' := lm_T M9 v G) rfl trivial ?_
        exact lm_G_re rfl trivial (Nat.zero_le _) (Nat.zero_le _) (hQ _ t9.1 t9.2.1 t9.2.2.2.1)
      refine lm_ind (α := (Nat → Fn) × Int32) (St := fun (j : Nat) zz => (fun (M2 : Nat → Fn) (z : Int32) => lm_G X (d + 5) 214 106 0 0 41 [some (.ref 64), some (.int (nI p)), some (.int (nI t)), some (.int z), some (.int (nI j))] [] (lm_T M2 v G) Q) zz.1 zz.2) (Inv := fun (j : Nat) zz => (fun (M2 : Nat → Fn) (z : Int32) => (z = -1 ∧ fstS (fGets F s (nI p) t) j = none ∨ ¬ z = -1 ∧ z = fiS (fGets F s (nI p) t) 61) ∧ TM M F s M2 (hrsS F nl s j)) zz.1 zz.2) (61) (fun j zz hj hI ih => ?_) (fun zz hI => ?_) (0) (M1, -1) (by omega) ?_
      ·
        obtain ⟨M2, z⟩ := zz
        replace hI : (z = -1 ∧ fstS (fGets F s (nI p) t) j = none ∨ ¬ z = -1 ∧ z = fiS (fGets F s (nI p) t) 61) ∧ TM M F s M2 (hrsS F nl s j) := hI
        replace ih : ∀ (M2 : Nat → Fn) (z : Int32) (_ : (z = -1 ∧ fstS (fGets F s (nI p) t) (j + 1) = none ∨ ¬ z = -1 ∧ z = fiS (fGets F s (nI p) t) 61) ∧ TM M F s M2 (hrsS F nl s (j + 1))), lm_G X (d + 5) 214 106 0 0 41 [some (.ref 64), some (.int (nI p)), some (.int (nI t)), some (.int z), some (.int (nI (j + 1)))] [] (lm_T M2 v G) Q := fun M2 z q => ih (M2, z) q
        show lm_G X (d + 5) 214 106 0 0 41 [some (.ref 64), some (.int (nI p)), some (.int (nI t)), some (.int z), some (.int (nI j))] [] (lm_T M2 v G) Q
        obtain ⟨i1, t2⟩ := hI
        refine lm_G_sg 2 (pc' := 45) (L' := [some (.ref 64), some (.int (nI p)), some (.int (nI t)), some (.int z), some (.int (nI j))]) (S' := [.int 60, .int (nI j)]) (σ' := lm_T M2 v G) rfl trivial ?_
        refine lm_G_br (b := 60 < (nI j)) (t := 76) (S' := []) rfl (fun hc => absurd hc (nI_nlt (a := 60) (by omega) (by omega))) (fun hc => ?_)
        refine lm_G_sg 2 (pc' := 50) (L' := [some (.ref 64), some (.int (nI p)), some (.int (nI t)), some (.int z), some (.int (nI j))]) (S' := [.int (-1), .int z]) (σ' := lm_T M2 v G) rfl trivial ?_
        refine lm_G_br (b := ¬ z = (-1)) (t := 76) (S' := []) rfl (fun h5 => ?_) (fun h5 => ?_)
        ·
          refine lm_G_jk (L := [some (.ref 64), some (.int (nI p)), some (.int (nI t)), some (.int z), none]) ⟨rfl, rfl, rfl, rfl, trivial⟩ ?_
          exact fin _ _ _ t2 (br_hrs j) ((i1.resolve_left (fun w => h5 w.1)).2)
        ·
          have ei := (i1.resolve_right (fun w => w.1 (Classical.not_not.mp h5))).2
          refine lm_G_sg 4 (pc' := 59) (L' := [some (.ref 64), some (.int (nI p)), some (.int (nI t)), some (.int z), some (.int (nI j))]) (S' := [.int (M2 81 (nI t).toNatClampNeg)]) (σ' := lm_T M2 v G) rfl ⟨(vp_in_nI (by omega) (by omega)), trivial, trivial⟩ ?_
          rw [show (nI t).toNatClampNeg = t from nI_clamp (by omega)]
          rw [show M2 81 t = sOw (hrsS F nl s j) t from t2.1.ow t (by omega)]
          refine lm_G_sg 1 (pc' := 60) (L' := [some (.ref 64), some (.int (nI p)), some (.int (nI t)), some (.int z), some (.int (nI j))]) (S' := [.int (nI p), .int (sOw (hrsS F nl s j) t)]) (σ' := lm_T M2 v G) rfl trivial ?_
          refine lm_G_br (b := ¬ (sOw (hrsS F nl s j) t) = (nI p)) (t := 66) (S' := []) rfl (fun h6 => ?_) (fun h6 => ?_)
          ·
            refine lm_G_sg 1 (pc' := 67) (L' := [some (.ref 64), some (.int (nI p)), some (.int (nI t)), some (.int z), some (.int (nI j))]) (S' := [.ref 64]) (σ' := lm_T M2 v G) rfl trivial ?_
            refine lm_G_ca (j := 193) (as := [.ref 64]) (rest := []) rfl (Or.inl rfl) (Nat.le_of_ble_eq_true rfl) (Nat.le_of_ble_eq_true rfl) (Nat.le_of_ble_eq_true rfl) (Nat.le_of_ble_eq_true rfl) rfl ?_
            refine t_anHour hF t2 (ok_hrs hs j) (fun M3 t3 e3 => ?_)
            show lm_G X (d + 5) 214 106 0 0 70 [some (.ref 64), some (.int (nI p)), some (.int (nI t)), some (.int z), some (.int (nI j))] [] (lm_T M3 v G) Q
            refine lm_G_sg 1 (pc' := 73) (L' := [some (.ref 64), some (.int (nI p)), some (.int (nI t)), some (.int z), some (.int ((nI j) + 1))]) (S' := []) (σ' := lm_T M3 v G) rfl trivial ?_
            rw [nI_1]
            refine lm_G_sg 1 (pc' := 41) (L' := [some (.ref 64), some (.int (nI p)), some (.int (nI t)), some (.int z), some (.int (nI (j + 1)))]) (S' := []) (σ' := lm_T M3 v G) rfl trivial ?_
            exact ih _ _ (⟨Or.inl ⟨Classical.not_not.mp h5, by rw [fst_nx ei, show (fGets F s (nI p) t) j = false from decide_eq_false h6]; rfl⟩, t3⟩)
          ·
            refine lm_G_sg 3 (pc' := 67) (L' := [some (.ref 64), some (.int (nI p)), some (.int (nI t)), some (.int (nI j)), some (.int (nI j))]) (S' := [.ref 64]) (σ' := lm_T M2 v G) rfl trivial ?_
            refine lm_G_ca (j := 193) (as := [.ref 64]) (rest := []) rfl (Or.inl rfl) (Nat.le_of_ble_eq_true rfl) (Nat.le_of_ble_eq_true rfl) (Nat.le_of_ble_eq_true rfl) (Nat.le_of_ble_eq_true rfl) rfl ?_
            refine t_anHour hF t2 (ok_hrs hs j) (fun M3 t3 e3 => ?_)
            show lm_G X (d + 5) 214 106 0 0 70 [some (.ref 64), some (.int (nI p)), some (.int (nI t)), some (.int (nI j)), some (.int (nI j))] [] (lm_T M3 v G) Q
            refine lm_G_sg 1 (pc' := 73) (L' := [some (.ref 64), some (.int (nI p)), some (.int (nI t)), some (.int (nI j)), some (.int ((nI j) + 1))]) (S' := []) (σ' := lm_T M3 v G) rfl trivial ?_
            rw [nI_1]
            refine lm_G_sg 1 (pc' := 41) (L' := [some (.ref 64), some (.int (nI p)), some (.int (nI t)), some (.int (nI j)), some (.int (nI (j + 1)))]) (S' := []) (σ' := lm_T M3 v G) rfl trivial ?_
            exact ih _ _ (⟨Or.inr ⟨nI_m1 (by omega), (fi_some (n := 61) (f := (fGets F s (nI p) t)) ((fst_nx ei).trans (if_pos (decide_eq_true (Classical.not_not.mp h6)))) (by omega)).symm⟩, t3⟩)
      ·
        obtain ⟨M2, z⟩ := zz
        replace hI : (z = -1 ∧ fstS (fGets F s (nI p) t) 61 = none ∨ ¬ z = -1 ∧ z = fiS (fGets F s (nI p) t) 61) ∧ TM M F s M2 (hrsS F nl s 61) := hI
        show lm_G X (d + 5) 214 106 0 0 41 [some (.ref 64), some (.int (nI p)), some (.int (nI t)), some (.int z), some (.int (nI 61))] [] (lm_T M2 v G) Q
        obtain ⟨i1, t2⟩ := hI
        refine lm_G_sg 2 (pc' := 45) (L' := [some (.ref 64), some (.int (nI p)), some (.int (nI t)), some (.int z), some (.int (nI 61))]) (S' := [.int 60, .int (nI 61)]) (σ' := lm_T M2 v G) rfl trivial ?_
        refine lm_G_br (b := 60 < (nI 61)) (t := 76) (S' := []) rfl (fun hc => ?_) (fun hc => absurd (nI_lt (a := 60) (by omega) (by omega)) hc)
        refine lm_G_jk (L := [some (.ref 64), some (.int (nI p)), some (.int (nI t)), some (.int z), none]) ⟨rfl, rfl, rfl, rfl, trivial⟩ ?_
        exact fin _ _ _ t2 (br_hrs 61) (by rcases i1 with ⟨q, w⟩ | ⟨_, w⟩; exact q.trans (fi_none w).symm; exact w)
      ·
        try dsimp only
        exact ⟨Or.inl ⟨rfl, rfl⟩, t1⟩
set_option maxRecDepth 10000 in
theorem c_silent {X : lm_X} {d v : Nat} {M : Nat → Nat → Int32} {G : Nat → Nat → Int64} {Q : lm_O → lm_S → Prop} {F : Fa} {s : Sc} {x y : Int32} (hF : okF F) (h : RC 28 M F s) (hs : okS F s) (hl : M 28 12 = -1) (hQ : ∀ M1, Fr frQ M M1 → Q (cO (aSil F s x y)) (lm_T M1 v G)) : lm_Q X (d + 6) 102 [.ref 0, .int x, .int y] (lm_T M v G) Q := by
  have hn := hF.n
  have hm := hF.m
  show lm_G X (d + 6) 102 106 0 0 0 [some (.ref 0), some (.int x), some (.int y), none, none] [] (lm_T M v G) Q
  refine lm_G_sg 2 (pc' := 2) (L' := [some (.ref 0), some (.int x), some (.int y), none, none]) (S' := [.int x, .ref 0]) (σ' := lm_T M v G) rfl trivial ?_
  refine lm_G_ca (j := 134) (as := [.ref 0, .int x]) (rest := []) rfl (Or.inl rfl) (Nat.le_of_ble_eq_true rfl) (Nat.le_of_ble_eq_true rfl) (Nat.le_of_ble_eq_true rfl) (Nat.le_of_ble_eq_true rfl) rfl ?_
  refine c_isTune hF h ?_
  show lm_G X (d + 6) 102 106 0 0 5 [some (.ref 0), some (.int x), some (.int y), none, none] [.int (b2i (isP (fM F) x))] (lm_T M v G) Q
  rcases Bool.eq_false_or_eq_true (isP (fM F) x) with hx | hx
  rotate_left
  ·
    rw [hx]
    show lm_G X (d + 6) 102 106 0 0 5 [some (.ref 0), some (.int x), some (.int y), none, none] [.int 0] (lm_T M v G) Q
    rw [show aSil F s x y = .inr false from by simp +decide only [aSil, hx, if_true, if_false, Bool.and_true, Bool.true_and, Bool.and_self, Bool.false_and, Bool.and_false, Bool.false_eq_true]] at hQ
    refine lm_G_ca (j := 137) (as := [.int 0]) (rest := []) rfl (Or.inl rfl) (Nat.le_of_ble_eq_true rfl) (Nat.le_of_ble_eq_true rfl) (Nat.le_of_ble_eq_true rfl) (Nat.le_of_ble_eq_true rfl) rfl ?_
    exact c_mustExistF ⟨by decide, rfl, hQ M (Fr_rf _ _)⟩
  ·
    rw [hx]
    show lm_G X (d + 6) 102 106 0 0 5 [some (.ref 0), some (.int x), some (.int y), none, none] [.int 1] (lm_T M v G) Q
    refine lm_G_ca (j := 137) (as := [.int 1]) (rest := []) rfl (Or.inl rfl) (Nat.le_of_ble_eq_true rfl) (Nat.le_of_ble_eq_true rfl) (Nat.le_of_ble_eq_true rfl) (Nat.le_of_ble_eq_true rfl) rfl ?_
    refine c_mustExistT ?_
    show lm_G X (d + 6) 102 106 1 6 8 [some (.ref 0), some (.int x), some (.int y), none, none] [] (lm_T M v G) Q
    refine lm_G_sg 3 (pc' := 12) (L' := [some (.ref 0), some (.int x), some (.int y), none, none]) (S' := [.int 60, .int 1, .int y]) (σ' := lm_T M v G) rfl trivial ?_
    refine lm_G_ca (j := 136) (as := [.int y, .int 1, .int 60]) (rest := []) rfl (Or.inl rfl) (Nat.le_of_ble_eq_true rfl) (Nat.le_of_ble_eq_true rfl) (Nat.le_of_ble_eq_true rfl) (Nat.le_of_ble_eq_true rfl) rfl ?_
    refine c_isWithin ?_
    show lm_G X (d + 6) 102 106 1 6 15 [some (.ref 0), some (.int x), some (.int y), none, none] [.int (b2i (inR y 1 60))] (lm_T M v G) Q
    rcases Bool.eq_false_or_eq_true (inR y 1 60) with hy | hy
    rotate_left
    ·
      rw [hy]
      show lm_G X (d + 6) 102 106 1 6 15 [some (.ref 0), some (.int x), some (.int y), none, none] [.int 0] (lm_T M v G) Q
      rw [show aSil F s x y = .inr true from by simp +decide only [aSil, hy, hx, if_true, if_false, Bool.and_true, Bool.true_and, Bool.and_self, Bool.false_and, Bool.and_false, Bool.false_eq_true]] at hQ
      refine lm_G_ca (j := 138) (as := [.int 0]) (rest := []) rfl (Or.inl rfl) (Nat.le_of_ble_eq_true rfl) (Nat.le_of_ble_eq_true rfl) (Nat.le_of_ble_eq_true rfl) (Nat.le_of_ble_eq_true rfl) rfl ?_
      exact c_mustFitF ⟨by decide, rfl, hQ M (Fr_rf _ _)⟩
    ·
      rw [hy]
      show lm_G X (d + 6) 102 106 1 6 15 [some (.ref 0), some (.int x), some (.int y), none, none] [.int 1] (lm_T M v G) Q
      refine lm_G_ca (j := 138) (as := [.int 1]) (rest := []) rfl (Or.inl rfl) (Nat.le_of_ble_eq_true rfl) (Nat.le_of_ble_eq_true rfl) (Nat.le_of_ble_eq_true rfl) (Nat.le_of_ble_eq_true rfl) rfl ?_
      refine c_mustFitT ?_
      show lm_G X (d + 6) 102 106 2 12 18 [some (.ref 0), some (.int x), some (.int y), none, none] [] (lm_T M v G) Q
      obtain ⟨t, ht, rfl⟩ := isP_nI hx (by omega)
      have ct : (nI t).toNatClampNeg = t := nI_clamp (by omega)
      obtain ⟨n, gn, hn, rfl⟩ := inR_nI1 (n := 60) (by decide) hy
      have cn : (nI n).toNatClampNeg = n := nI_clamp (by omega)
      rw [show aSil F s (nI t) (nI n) = .inl (ctS (fSil F s (nI t)) n) from by simp +decide only [aSil, hx, hy, cn, if_true, if_false, Bool.and_true, Bool.true_and, Bool.and_self, Bool.false_and, Bool.and_false, Bool.false_eq_true]] at hQ
      refine lm_G_sg 1 (pc' := 19) (L' := [some (.ref 0), some (.int (nI t)), some (.int (nI n)), none, none]) (S' := [.ref 0]) (σ' := lm_T M v G) rfl trivial ?_
      refine lm_G_ca (j := 132) (as := [.ref 0]) (rest := []) rfl (Or.inl rfl) (Nat.le_of_ble_eq_true rfl) (Nat.le_of_ble_eq_true rfl) (Nat.le_of_ble_eq_true rfl) (Nat.le_of_ble_eq_true rfl) rfl ?_
      refine u_start hF h (Fr_rf _ _) hl (fun M1 t1 e1 => ?_)
      show lm_G X (d + 6) 102 106 2 12 22 [some (.ref 0), some (.int (nI t)), some (.int (nI n)), none, none] [] (lm_T M1 v G) Q
      refine lm_G_sg 4 (pc' := 27) (L' := [some (.ref 0), some (.int (nI t)), some (.int (nI n)), some (.int 0), some (.int 1)]) (S' := []) (σ' := lm_T M1 v G) rfl trivial ?_
      refine lm_ind (α := (Nat → Fn)) (St := fun (j : Nat) zz => (fun (M2 : Nat → Fn) => lm_G X (d + 6) 102 106 2 12 27 [some (.ref 0), some (.int (nI t)), some (.int (nI n)), some (.int (ctS (fSil F s (nI t)) j)), some (.int (nI (j + 1)))] [] (lm_T M2 v G) Q) zz) (Inv := fun (j : Nat) zz => (fun (M2 : Nat → Fn) => TC M F M2 (hrsS F nl s j)) zz) (n) (fun j zz hj hI ih => ?_) (fun zz hI => ?_) (0) M1 (by omega) ?_
      ·
        revert ih hI
        revert zz
        intro M2 hI ih
        replace hI : TC M F M2 (hrsS F nl s j) := hI
        replace ih : ∀ (M2 : Nat → Fn) (_ : TC M F M2 (hrsS F nl s (j + 1))), lm_G X (d + 6) 102 106 2 12 27 [some (.ref 0), some (.int (nI t)), some (.int (nI n)), some (.int (ctS (fSil F s (nI t)) (j + 1))), some (.int (nI ((j + 1) + 1)))] [] (lm_T M2 v G) Q := fun M2 q => ih M2 q
        show lm_G X (d + 6) 102 106 2 12 27 [some (.ref 0), some (.int (nI t)), some (.int (nI n)), some (.int (ctS (fSil F s (nI t)) j)), some (.int (nI (j + 1)))] [] (lm_T M2 v G) Q
        refine lm_G_sg 2 (pc' := 30) (L' := [some (.ref 0), some (.int (nI t)), some (.int (nI n)), some (.int (ctS (fSil F s (nI t)) j)), some (.int (nI (j + 1)))]) (S' := [.int (nI n), .int (nI (j + 1))]) (σ' := lm_T M2 v G) rfl trivial ?_
        refine lm_G_br (b := (nI n) < (nI (j + 1))) (t := 61) (S' := []) rfl (fun hc => absurd hc (nI_nlt (by omega) (by omega))) (fun hc => ?_)
        refine lm_G_sg 2 (pc' := 37) (L' := [some (.ref 0), some (.int (nI t)), some (.int (nI n)), some (.int (ctS (fSil F s (nI t)) j)), some (.int (nI (j + 1)))]) (S' := [.ref 38]) (σ' := lm_T M2 v G) rfl trivial ?_
        refine lm_G_ca (j := 74) (as := [.ref 38]) (rest := []) rfl (Or.inl rfl) (Nat.le_of_ble_eq_true rfl) (Nat.le_of_ble_eq_true rfl) (Nat.le_of_ble_eq_true rfl) (Nat.le_of_ble_eq_true rfl) rfl ?_
        refine u_passHour hF hI (ok_hrs hs j) (fun M3 t3 e3 => ?_)
        show lm_G X (d + 6) 102 106 2 12 40 [some (.ref 0), some (.int (nI t)), some (.int (nI n)), some (.int (ctS (fSil F s (nI t)) j)), some (.int (nI (j + 1)))] [] (lm_T M3 v G) Q
        refine lm_G_sg 5 (pc' := 49) (L' := [some (.ref 0), some (.int (nI t)), some (.int (nI n)), some (.int (ctS (fSil F s (nI t)) j)), some (.int (nI (j + 1)))]) (S' := [.int (M3 46 (nI t).toNatClampNeg)]) (σ' := lm_T M3 v G) rfl ⟨(vp_in_nI (by omega) (by omega)), trivial, trivial⟩ ?_
        rw [show (nI t).toNatClampNeg = t from nI_clamp (by omega)]
        rw [show M3 46 t = humS F (sHu (hrsS F nl s (j + 1))) (nI t) from t3.1.hs t (by omega)]
        refine lm_G_br (b := ¬ (humS F (sHu (hrsS F nl s (j + 1))) (nI t)) = 0) (t := 55) (S' := []) rfl (fun h5 => ?_) (fun h5 => ?_)
        ·
          refine lm_G_sg 1 (pc' := 58) (L' := [some (.ref 0), some (.int (nI t)), some (.int (nI n)), some (.int (ctS (fSil F s (nI t)) j)), some (.int ((nI (j + 1)) + 1))]) (S' := []) (σ' := lm_T M3 v G) rfl trivial ?_
          rw [nI_1]
          refine lm_G_sg 1 (pc' := 27) (L' := [some (.ref 0), some (.int (nI t)), some (.int (nI n)), some (.int (ctS (fSil F s (nI t)) j)), some (.int (nI ((j + 1) + 1)))]) (S' := []) (σ' := lm_T M3 v G) rfl trivial ?_
          rw [ct_n (f := (fSil F s (nI t))) (decide_eq_false h5)] at ih
          exact ih _ t3
        ·
          refine lm_G_sg 2 (pc' := 58) (L' := [some (.ref 0), some (.int (nI t)), some (.int (nI n)), some (.int ((ctS (fSil F s (nI t)) j) + 1)), some (.int ((nI (j + 1)) + 1))]) (S' := []) (σ' := lm_T M3 v G) rfl trivial ?_
          rw [nI_1]
          refine lm_G_sg 1 (pc' := 27) (L' := [some (.ref 0), some (.int (nI t)), some (.int (nI n)), some (.int ((ctS (fSil F s (nI t)) j) + 1)), some (.int (nI ((j + 1) + 1)))]) (S' := []) (σ' := lm_T M3 v G) rfl trivial ?_
          rw [ct_y (f := (fSil F s (nI t))) (decide_eq_true (Classical.not_not.mp h5))] at ih
          exact ih _ t3
      ·
        revert hI
        revert zz
        intro M2 hI
        replace hI : TC M F M2 (hrsS F nl s n) := hI
        show lm_G X (d + 6) 102 106 2 12 27 [some (.ref 0), some (.int (nI t)), some (.int (nI n)), some (.int (ctS (fSil F s (nI t)) n)), some (.int (nI (n + 1)))] [] (lm_T M2 v G) Q
        refine lm_G_sg 2 (pc' := 30) (L' := [some (.ref 0), some (.int (nI t)), some (.int (nI n)), some (.int (ctS (fSil F s (nI t)) n)), some (.int (nI (n + 1)))]) (S' := [.int (nI n), .int (nI (n + 1))]) (σ' := lm_T M2 v G) rfl trivial ?_
        refine lm_G_br (b := (nI n) < (nI (n + 1))) (t := 61) (S' := []) rfl (fun hc => ?_) (fun hc => absurd (nI_lt (by omega) (by omega)) hc)
        refine lm_G_sg 1 (pc' := 62) (L' := [some (.ref 0), some (.int (nI t)), some (.int (nI n)), some (.int (ctS (fSil F s (nI t)) n)), some (.int (nI (n + 1)))]) (S' := [.int (ctS (fSil F s (nI t)) n)]) (σ' := lm_T M2 v G) rfl trivial ?_
        exact lm_G_re rfl trivial (Nat.le_of_ble_eq_true rfl) (Nat.le_of_ble_eq_true rfl) (hQ _ hI.2.1)
      ·
        try dsimp only
        exact t1
set_option maxRecDepth 10000 in
theorem m_silent {X : lm_X} {d v : Nat} {M : Nat → Nat → Int32} {G : Nat → Nat → Int64} {Q : lm_O → lm_S → Prop} {F : Fa} {s : Sc} {x y : Int32} (hF : okF F) (h : RM M F s) (hs : okS F s) (hl : M 64 42 = 0) (hQ : ∀ M1, RM M1 F s → FrN M M1 → M1 64 4 = cd (aSil F s x y) → Q (.inl (some (.int (vl (aSil F s x y))))) (lm_T M1 v G)) : lm_Q X (d + 5) 215 [.ref 64, .int x, .int y] (lm_T M v G) Q := by
  have hn := hF.n
  have hm := hF.m
  show lm_G X (d + 5) 215 106 0 0 0 [some (.ref 64), some (.int x), some (.int y), none, none] [] (lm_T M v G) Q
  refine lm_G_sg 3 (pc' := 5) (L' := [some (.ref 64), some (.int x), some (.int y), none, none]) (S' := []) (σ' := lm_T (lm_wr M 64 4 0) v G) rfl ⟨trivial, trivial, trivial⟩ ?_
  have h0 : RM (lm_wr M 64 4 0) F s := RM_taken h 4 (by decide) 0
  have f0 : FrN M (lm_wr M 64 4 0) := FrN_w64 (FrN_rf _) (by decide)
  have c0 : (lm_wr M 64 4 0) 64 4 = 0 := wr_same
  have l0 : (lm_wr M 64 4 0) 64 42 = 0 := (wr_at (by decide)).trans hl
  revert h0 f0 c0 l0
  generalize lm_wr M 64 4 0 = M0
  intro h0 f0 c0 l0
  refine lm_G_sg 2 (pc' := 7) (L' := [some (.ref 64), some (.int x), some (.int y), none, none]) (S' := [.int x, .ref 64]) (σ' := lm_T M0 v G) rfl trivial ?_
  refine lm_G_ca (j := 146) (as := [.ref 64, .int x]) (rest := []) rfl (Or.inl rfl) (Nat.le_of_ble_eq_true rfl) (Nat.le_of_ble_eq_true rfl) (Nat.le_of_ble_eq_true rfl) (Nat.le_of_ble_eq_true rfl) rfl ?_
  refine m_isTune hF h0 ?_
  show lm_G X (d + 5) 215 106 0 0 10 [some (.ref 64), some (.int x), some (.int y), none, none] [.int (b2i (isP (fM F) x))] (lm_T M0 v G) Q
  refine lm_G_br (b := ¬ (b2i (isP (fM F) x)) = 0) (t := 19) (S' := []) rfl (fun hx => ?_) (fun hx => ?_)
  rotate_left
  ·
    replace hx := b2i_0 (Classical.not_not.mp hx)
    refine lm_G_sg 2 (pc' := 15) (L' := [some (.ref 64), some (.int x), some (.int y), none, none]) (S' := [.int 1, .ref 64]) (σ' := lm_T M0 v G) rfl trivial ?_
    refine lm_G_ca (j := 141) (as := [.ref 64, .int 1]) (rest := []) rfl (Or.inl rfl) (Nat.le_of_ble_eq_true rfl) (Nat.le_of_ble_eq_true rfl) (Nat.le_of_ble_eq_true rfl) (Nat.le_of_ble_eq_true rfl) rfl ?_
    refine m_fail ?_
    show lm_G X (d + 5) 215 106 0 0 18 [some (.ref 64), some (.int x), some (.int y), none, none] [.int 0] (lm_T (lm_wr M0 64 4 1) v G) Q
    rw [show aSil F s x y = .inr false from by simp +decide only [aSil, hx, if_true, if_false, Bool.and_true, Bool.true_and, Bool.and_self, Bool.false_and, Bool.and_false, Bool.false_eq_true]] at hQ
    exact lm_G_re rfl trivial (Nat.zero_le _) (Nat.zero_le _) (hQ _ (RM_taken h0 4 (by decide) 1) (FrN_w64 f0 (by decide)) wr_same)
  ·
    replace hx := b2i_1 hx
    refine lm_G_sg 4 (pc' := 25) (L' := [some (.ref 64), some (.int x), some (.int y), none, none]) (S' := [.long 60, .long 1, .long y.toInt64]) (σ' := lm_T M0 v G) rfl trivial ?_
    refine lm_G_ca (j := 142) (as := [.long y.toInt64, .long 1, .long 60]) (rest := []) rfl (Or.inl rfl) (Nat.le_of_ble_eq_true rfl) (Nat.le_of_ble_eq_true rfl) (Nat.le_of_ble_eq_true rfl) (Nat.le_of_ble_eq_true rfl) rfl ?_
    refine c_isIn ?_
    show lm_G X (d + 5) 215 106 0 0 28 [some (.ref 64), some (.int x), some (.int y), none, none] [.int (b2i (inL (y.toInt64) 1 60))] (lm_T M0 v G) Q
    rw [show inL (y.toInt64) 1 60 = inR y 1 60 from (inL_R y 1 60)]
    refine lm_G_br (b := ¬ (b2i (inR y 1 60)) = 0) (t := 37) (S' := []) rfl (fun hy => ?_) (fun hy => ?_)
    rotate_left
    ·
      replace hy := b2i_0 (Classical.not_not.mp hy)
      refine lm_G_sg 2 (pc' := 33) (L' := [some (.ref 64), some (.int x), some (.int y), none, none]) (S' := [.int 2, .ref 64]) (σ' := lm_T M0 v G) rfl trivial ?_
      refine lm_G_ca (j := 141) (as := [.ref 64, .int 2]) (rest := []) rfl (Or.inl rfl) (Nat.le_of_ble_eq_true rfl) (Nat.le_of_ble_eq_true rfl) (Nat.le_of_ble_eq_true rfl) (Nat.le_of_ble_eq_true rfl) rfl ?_
      refine m_fail ?_
      show lm_G X (d + 5) 215 106 0 0 36 [some (.ref 64), some (.int x), some (.int y), none, none] [.int 0] (lm_T (lm_wr M0 64 4 2) v G) Q
      rw [show aSil F s x y = .inr true from by simp +decide only [aSil, hy, hx, if_true, if_false, Bool.and_true, Bool.true_and, Bool.and_self, Bool.false_and, Bool.and_false, Bool.false_eq_true]] at hQ
      exact lm_G_re rfl trivial (Nat.zero_le _) (Nat.zero_le _) (hQ _ (RM_taken h0 4 (by decide) 2) (FrN_w64 f0 (by decide)) wr_same)
    ·
      replace hy := b2i_1 hy
      obtain ⟨t, ht, rfl⟩ := isP_nI hx (by omega)
      have ct : (nI t).toNatClampNeg = t := nI_clamp (by omega)
      obtain ⟨n, gn, hn, rfl⟩ := inR_nI1 (n := 60) (by decide) hy
      have cn : (nI n).toNatClampNeg = n := nI_clamp (by omega)
      rw [show aSil F s (nI t) (nI n) = .inl (ctS (fSil F s (nI t)) n) from by simp +decide only [aSil, hx, hy, cn, if_true, if_false, Bool.and_true, Bool.true_and, Bool.and_self, Bool.false_and, Bool.and_false, Bool.false_eq_true]] at hQ
      refine lm_G_sg 4 (pc' := 43) (L' := [some (.ref 64), some (.int (nI t)), some (.int (nI n)), none, none]) (S' := [.int 0, .ref 90, .ref 64]) (σ' := lm_T M0 v G) rfl trivial ?_
      refine lm_G_ca (j := 177) (as := [.ref 64, .ref 90, .int 0]) (rest := []) rfl (Or.inl rfl) (Nat.le_of_ble_eq_true rfl) (Nat.le_of_ble_eq_true rfl) (Nat.le_of_ble_eq_true rfl) (Nat.le_of_ble_eq_true rfl) rfl ?_
      refine t_pack hF h0 f0 c0 l0 (fun M1 t1 => ?_)
      show lm_G X (d + 5) 215 106 0 0 46 [some (.ref 64), some (.int (nI t)), some (.int (nI n)), none, none] [] (lm_T M1 v G) Q
      refine lm_G_sg 4 (pc' := 51) (L' := [some (.ref 64), some (.int (nI t)), some (.int (nI n)), some (.int 0), some (.int 0)]) (S' := []) (σ' := lm_T M1 v G) rfl trivial ?_
      refine lm_ind (α := (Nat → Fn)) (St := fun (j : Nat) zz => (fun (M2 : Nat → Fn) => lm_G X (d + 5) 215 106 0 0 51 [some (.ref 64), some (.int (nI t)), some (.int (nI n)), some (.int (ctS (fSil F s (nI t)) j)), some (.int (nI j))] [] (lm_T M2 v G) Q) zz) (Inv := fun (j : Nat) zz => (fun (M2 : Nat → Fn) => TM M F s M2 (hrsS F nl s j)) zz) (n) (fun j zz hj hI ih => ?_) (fun zz hI => ?_) (0) M1 (by omega) ?_
      ·
        revert ih hI
        revert zz
        intro M2 hI ih
        replace hI : TM M F s M2 (hrsS F nl s j) := hI
        replace ih : ∀ (M2 : Nat → Fn) (_ : TM M F s M2 (hrsS F nl s (j + 1))), lm_G X (d + 5) 215 106 0 0 51 [some (.ref 64), some (.int (nI t)), some (.int (nI n)), some (.int (ctS (fSil F s (nI t)) (j + 1))), some (.int (nI (j + 1)))] [] (lm_T M2 v G) Q := fun M2 q => ih M2 q
        show lm_G X (d + 5) 215 106 0 0 51 [some (.ref 64), some (.int (nI t)), some (.int (nI n)), some (.int (ctS (fSil F s (nI t)) j)), some (.int (nI j))] [] (lm_T M2 v G) Q
        refine lm_G_sg 2 (pc' := 54) (L' := [some (.ref 64), some (.int (nI t)), some (.int (nI n)), some (.int (ctS (fSil F s (nI t)) j)), some (.int (nI j))]) (S' := [.int (nI n), .int (nI j)]) (σ' := lm_T M2 v G) rfl trivial ?_
        refine lm_G_br (b := (nI n) ≤ (nI j)) (t := 83) (S' := []) rfl (fun hc => absurd hc (nI_ge hj (by omega))) (fun hc => ?_)
        refine lm_G_sg 1 (pc' := 58) (L' := [some (.ref 64), some (.int (nI t)), some (.int (nI n)), some (.int (ctS (fSil F s (nI t)) j)), some (.int (nI j))]) (S' := [.ref 64]) (σ' := lm_T M2 v G) rfl trivial ?_
        refine lm_G_ca (j := 193) (as := [.ref 64]) (rest := []) rfl (Or.inl rfl) (Nat.le_of_ble_eq_true rfl) (Nat.le_of_ble_eq_true rfl) (Nat.le_of_ble_eq_true rfl) (Nat.le_of_ble_eq_true rfl) rfl ?_
        refine t_anHour hF hI (ok_hrs hs j) (fun M3 t3 e3 => ?_)
        show lm_G X (d + 5) 215 106 0 0 61 [some (.ref 64), some (.int (nI t)), some (.int (nI n)), some (.int (ctS (fSil F s (nI t)) j)), some (.int (nI j))] [] (lm_T M3 v G) Q
        refine lm_G_sg 3 (pc' := 64) (L' := [some (.ref 64), some (.int (nI t)), some (.int (nI n)), some (.int (ctS (fSil F s (nI t)) j)), some (.int (nI j))]) (S' := [.int (nI t), .ref 64, .int (ctS (fSil F s (nI t)) j)]) (σ' := lm_T M3 v G) rfl trivial ?_
        refine lm_G_ca (j := 181) (as := [.ref 64, .int (nI t)]) (rest := [.int (ctS (fSil F s (nI t)) j)]) rfl (Or.inl rfl) (Nat.le_of_ble_eq_true rfl) (Nat.le_of_ble_eq_true rfl) (Nat.le_of_ble_eq_true rfl) (Nat.le_of_ble_eq_true rfl) rfl ?_
        refine m_whoHums hF t3.1 ?_
        show lm_G X (d + 5) 215 106 0 0 67 [some (.ref 64), some (.int (nI t)), some (.int (nI n)), some (.int (ctS (fSil F s (nI t)) j)), some (.int (nI j))] [.int (humS F (sHu (hrsS F nl s (j + 1))) (nI t)), .int (ctS (fSil F s (nI t)) j)] (lm_T M3 v G) Q
        refine lm_G_br (b := ¬ (humS F (sHu (hrsS F nl s (j + 1))) (nI t)) = 0) (t := 74) (S' := [.int (ctS (fSil F s (nI t)) j)]) rfl (fun h5 => ?_) (fun h5 => ?_)
        ·
          refine lm_G_sg 4 (pc' := 80) (L' := [some (.ref 64), some (.int (nI t)), some (.int (nI n)), some (.int ((ctS (fSil F s (nI t)) j) + 0)), some (.int ((nI j) + 1))]) (S' := []) (σ' := lm_T M3 v G) rfl trivial ?_
          rw [nI_1]
          refine lm_G_sg 1 (pc' := 51) (L' := [some (.ref 64), some (.int (nI t)), some (.int (nI n)), some (.int ((ctS (fSil F s (nI t)) j) + 0)), some (.int (nI (j + 1)))]) (S' := []) (σ' := lm_T M3 v G) rfl trivial ?_
          rw [Int32.add_zero]
          rw [ct_n (f := (fSil F s (nI t))) (decide_eq_false h5)] at ih
          exact ih _ t3
        ·
          refine lm_G_sg 5 (pc' := 80) (L' := [some (.ref 64), some (.int (nI t)), some (.int (nI n)), some (.int ((ctS (fSil F s (nI t)) j) + 1)), some (.int ((nI j) + 1))]) (S' := []) (σ' := lm_T M3 v G) rfl trivial ?_
          rw [nI_1]
          refine lm_G_sg 1 (pc' := 51) (L' := [some (.ref 64), some (.int (nI t)), some (.int (nI n)), some (.int ((ctS (fSil F s (nI t)) j) + 1)), some (.int (nI (j + 1)))]) (S' := []) (σ' := lm_T M3 v G) rfl trivial ?_
          rw [ct_y (f := (fSil F s (nI t))) (decide_eq_true (Classical.not_not.mp h5))] at ih
          exact ih _ t3
      ·
        revert hI
        revert zz
        intro M2 hI
        replace hI : TM M F s M2 (hrsS F nl s n) := hI
        show lm_G X (d + 5) 215 106 0 0 51 [some (.ref 64), some (.int (nI t)), some (.int (nI n)), some (.int (ctS (fSil F s (nI t)) n)), some (.int (nI n))] [] (lm_T M2 v G) Q
        refine lm_G_sg 2 (pc' := 54) (L' := [some (.ref 64), some (.int (nI t)), some (.int (nI n)), some (.int (ctS (fSil F s (nI t)) n)), some (.int (nI n))]) (S' := [.int (nI n), .int (nI n)]) (σ' := lm_T M2 v G) rfl trivial ?_
        refine lm_G_br (b := (nI n) ≤ (nI n)) (t := 83) (S' := []) rfl (fun hc => ?_) (fun hc => absurd (nI_le (Nat.le_refl _) (by omega)) hc)
        refine lm_G_sg 4 (pc' := 89) (L' := [some (.ref 64), some (.int (nI t)), some (.int (nI n)), some (.int (ctS (fSil F s (nI t)) n)), some (.int (nI n))]) (S' := [.int 0, .ref 90, .ref 64]) (σ' := lm_T M2 v G) rfl trivial ?_
        refine lm_G_ca (j := 178) (as := [.ref 64, .ref 90, .int 0]) (rest := []) rfl (Or.inl rfl) (Nat.le_of_ble_eq_true rfl) (Nat.le_of_ble_eq_true rfl) (Nat.le_of_ble_eq_true rfl) (Nat.le_of_ble_eq_true rfl) rfl ?_
        refine t_unpack hF hI (br_hrs n) (fun M9 t9 => ?_)
        show lm_G X (d + 5) 215 106 0 0 92 [some (.ref 64), some (.int (nI t)), some (.int (nI n)), some (.int (ctS (fSil F s (nI t)) n)), some (.int (nI n))] [] (lm_T M9 v G) Q
        refine lm_G_sg 1 (pc' := 93) (L' := [some (.ref 64), some (.int (nI t)), some (.int (nI n)), some (.int (ctS (fSil F s (nI t)) n)), some (.int (nI n))]) (S' := [.int (ctS (fSil F s (nI t)) n)]) (σ' := lm_T M9 v G) rfl trivial ?_
        exact lm_G_re rfl trivial (Nat.zero_le _) (Nat.zero_le _) (hQ _ t9.1 t9.2.1 t9.2.2.2.1)
      ·
        try dsimp only
        exact t1
set_option maxRecDepth 10000 in
theorem c_loudest {X : lm_X} {d v : Nat} {M : Nat → Nat → Int32} {G : Nat → Nat → Int64} {Q : lm_O → lm_S → Prop} {F : Fa} {s : Sc} {x : Int32} (hF : okF F) (h : RC 28 M F s) (hs : okS F s) (hl : M 28 12 = -1) (hQ : ∀ M1, Fr frQ M M1 → Q (cO1 (aLou F s x)) (lm_T M1 v G)) : lm_Q X (d + 6) 103 [.ref 0, .int x] (lm_T M v G) Q := by
  have hn := hF.n
  have hm := hF.m
  show lm_G X (d + 6) 103 106 0 0 0 [some (.ref 0), some (.int x), none, none, none, none] [] (lm_T M v G) Q
  refine lm_G_sg 3 (pc' := 4) (L' := [some (.ref 0), some (.int x), none, none, none, none]) (S' := [.int 60, .int 1, .int x]) (σ' := lm_T M v G) rfl trivial ?_
  refine lm_G_ca (j := 136) (as := [.int x, .int 1, .int 60]) (rest := []) rfl (Or.inl rfl) (Nat.le_of_ble_eq_true rfl) (Nat.le_of_ble_eq_true rfl) (Nat.le_of_ble_eq_true rfl) (Nat.le_of_ble_eq_true rfl) rfl ?_
  refine c_isWithin ?_
  show lm_G X (d + 6) 103 106 0 0 7 [some (.ref 0), some (.int x), none, none, none, none] [.int (b2i (inR x 1 60))] (lm_T M v G) Q
  rcases Bool.eq_false_or_eq_true (inR x 1 60) with hx | hx
  rotate_left
  ·
    rw [hx]
    show lm_G X (d + 6) 103 106 0 0 7 [some (.ref 0), some (.int x), none, none, none, none] [.int 0] (lm_T M v G) Q
    rw [show aLou F s x = .inr false from by simp +decide only [aLou, hx, if_true, if_false, Bool.and_true, Bool.true_and, Bool.and_self, Bool.false_and, Bool.and_false, Bool.false_eq_true]] at hQ
    refine lm_G_ca (j := 138) (as := [.int 0]) (rest := []) rfl (Or.inl rfl) (Nat.le_of_ble_eq_true rfl) (Nat.le_of_ble_eq_true rfl) (Nat.le_of_ble_eq_true rfl) (Nat.le_of_ble_eq_true rfl) rfl ?_
    exact c_mustFitF ⟨by decide, rfl, hQ M (Fr_rf _ _)⟩
  ·
    rw [hx]
    show lm_G X (d + 6) 103 106 0 0 7 [some (.ref 0), some (.int x), none, none, none, none] [.int 1] (lm_T M v G) Q
    refine lm_G_ca (j := 138) (as := [.int 1]) (rest := []) rfl (Or.inl rfl) (Nat.le_of_ble_eq_true rfl) (Nat.le_of_ble_eq_true rfl) (Nat.le_of_ble_eq_true rfl) (Nat.le_of_ble_eq_true rfl) rfl ?_
    refine c_mustFitT ?_
    show lm_G X (d + 6) 103 106 1 6 10 [some (.ref 0), some (.int x), none, none, none, none] [] (lm_T M v G) Q
    obtain ⟨n, gn, hn, rfl⟩ := inR_nI1 (n := 60) (by decide) hx
    have cn : (nI n).toNatClampNeg = n := nI_clamp (by omega)
    rw [show aLou F s (nI n) = .inl (mxS al (fLou F s) lOne (-1) n).1 from by simp +decide only [aLou, hx, cn, if_true, if_false, Bool.and_true, Bool.true_and, Bool.and_self, Bool.false_and, Bool.and_false, Bool.false_eq_true]] at hQ
    refine lm_G_sg 1 (pc' := 11) (L' := [some (.ref 0), some (.int (nI n)), none, none, none, none]) (S' := [.ref 0]) (σ' := lm_T M v G) rfl trivial ?_
    refine lm_G_ca (j := 132) (as := [.ref 0]) (rest := []) rfl (Or.inl rfl) (Nat.le_of_ble_eq_true rfl) (Nat.le_of_ble_eq_true rfl) (Nat.le_of_ble_eq_true rfl) (Nat.le_of_ble_eq_true rfl) rfl ?_
    refine u_start hF h (Fr_rf _ _) hl (fun M1 t1 e1 => ?_)
    show lm_G X (d + 6) 103 106 1 6 14 [some (.ref 0), some (.int (nI n)), none, none, none, none] [] (lm_T M1 v G) Q
    refine lm_G_sg 6 (pc' := 21) (L' := [some (.ref 0), some (.int (nI n)), some (.int (-1)), some (.int (-1)), some (.int 1), none]) (S' := []) (σ' := lm_T M1 v G) rfl trivial ?_
    refine lm_ind (α := (Nat → Fn)) (St := fun (j : Nat) zz => (fun (M2 : Nat → Fn) => lm_G X (d + 6) 103 106 1 6 21 [some (.ref 0), some (.int (nI n)), some (.int ((mxS al (fLou F s) lOne (-1) j).1)), some (.int ((mxS al (fLou F s) lOne (-1) j).2)), some (.int (nI (j + 1))), none] [] (lm_T M2 v G) Q) zz) (Inv := fun (j : Nat) zz => (fun (M2 : Nat → Fn) => TC M F M2 (hrsS F nl s j)) zz) (n) (fun j zz hj hI ih => ?_) (fun zz hI => ?_) (0) M1 (by omega) ?_
    ·
      revert ih hI
      revert zz
      intro M2 hI ih
      replace hI : TC M F M2 (hrsS F nl s j) := hI
      replace ih : ∀ (M2 : Nat → Fn) (_ : TC M F M2 (hrsS F nl s (j + 1))), lm_G X (d + 6) 103 106 1 6 21 [some (.ref 0), some (.int (nI n)), some (.int ((mxS al (fLou F s) lOne (-1) (j + 1)).1)), some (.int ((mxS al (fLou F s) lOne (-1) (j + 1)).2)), some (.int (nI ((j + 1) + 1))), none] [] (lm_T M2 v G) Q := fun M2 q => ih M2 q
      show lm_G X (d + 6) 103 106 1 6 21 [some (.ref 0), some (.int (nI n)), some (.int ((mxS al (fLou F s) lOne (-1) j).1)), some (.int ((mxS al (fLou F s) lOne (-1) j).2)), some (.int (nI (j + 1))), none] [] (lm_T M2 v G) Q
      refine lm_G_sg 2 (pc' := 24) (L' := [some (.ref 0), some (.int (nI n)), some (.int ((mxS al (fLou F s) lOne (-1) j).1)), some (.int ((mxS al (fLou F s) lOne (-1) j).2)), some (.int (nI (j + 1))), none]) (S' := [.int (nI n), .int (nI (j + 1))]) (σ' := lm_T M2 v G) rfl trivial ?_
      refine lm_G_br (b := (nI n) < (nI (j + 1))) (t := 64) (S' := []) rfl (fun hc => absurd hc (nI_nlt (by omega) (by omega))) (fun hc => ?_)
      refine lm_G_sg 2 (pc' := 31) (L' := [some (.ref 0), some (.int (nI n)), some (.int ((mxS al (fLou F s) lOne (-1) j).1)), some (.int ((mxS al (fLou F s) lOne (-1) j).2)), some (.int (nI (j + 1))), none]) (S' := [.ref 38]) (σ' := lm_T M2 v G) rfl trivial ?_
      refine lm_G_ca (j := 74) (as := [.ref 38]) (rest := []) rfl (Or.inl rfl) (Nat.le_of_ble_eq_true rfl) (Nat.le_of_ble_eq_true rfl) (Nat.le_of_ble_eq_true rfl) (Nat.le_of_ble_eq_true rfl) rfl ?_
      refine u_passHour hF hI (ok_hrs hs j) (fun M3 t3 e3 => ?_)
      show lm_G X (d + 6) 103 106 1 6 34 [some (.ref 0), some (.int (nI n)), some (.int ((mxS al (fLou F s) lOne (-1) j).1)), some (.int ((mxS al (fLou F s) lOne (-1) j).2)), some (.int (nI (j + 1))), none] [] (lm_T M3 v G) Q
      refine lm_G_sg 2 (pc' := 38) (L' := [some (.ref 0), some (.int (nI n)), some (.int ((mxS al (fLou F s) lOne (-1) j).1)), some (.int ((mxS al (fLou F s) lOne (-1) j).2)), some (.int (nI (j + 1))), none]) (S' := [.ref 38]) (σ' := lm_T M3 v G) rfl trivial ?_
      refine lm_G_ca (j := 59) (as := [.ref 38]) (rest := []) rfl (Or.inl rfl) (Nat.le_of_ble_eq_true rfl) (Nat.le_of_ble_eq_true rfl) (Nat.le_of_ble_eq_true rfl) (Nat.le_of_ble_eq_true rfl) rfl ?_
      refine c_allHummers38 (ok_hrs hs (j + 1)) hF t3.1 ?_
      show lm_G X (d + 6) 103 106 1 6 41 [some (.ref 0), some (.int (nI n)), some (.int ((mxS al (fLou F s) lOne (-1) j).1)), some (.int ((mxS al (fLou F s) lOne (-1) j).2)), some (.int (nI (j + 1))), none] [.int (msk (fun p => decide (sHu (hrsS F nl s (j + 1)) p ≠ -1)) (fN F))] (lm_T M3 v G) Q
      refine lm_G_ca (j := 244) (as := [.int (msk (fun p => decide (sHu (hrsS F nl s (j + 1)) p ≠ -1)) (fN F))]) (rest := []) rfl (Or.inl rfl) (Nat.le_of_ble_eq_true rfl) (Nat.le_of_ble_eq_true rfl) (Nat.le_of_ble_eq_true rfl) (Nat.le_of_ble_eq_true rfl) rfl ?_
      refine c_bits (msk_lt _ _ hF.n) ?_
      show lm_G X (d + 6) 103 106 1 6 44 [some (.ref 0), some (.int (nI n)), some (.int ((mxS al (fLou F s) lOne (-1) j).1)), some (.int ((mxS al (fLou F s) lOne (-1) j).2)), some (.int (nI (j + 1))), none] [.int (fLou F s j)] (lm_T M3 v G) Q
      refine lm_G_sg 3 (pc' := 49) (L' := [some (.ref 0), some (.int (nI n)), some (.int ((mxS al (fLou F s) lOne (-1) j).1)), some (.int ((mxS al (fLou F s) lOne (-1) j).2)), some (.int (nI (j + 1))), some (.int (fLou F s j))]) (S' := [.int ((mxS al (fLou F s) lOne (-1) j).2), .int (fLou F s j)]) (σ' := lm_T M3 v G) rfl trivial ?_
      refine lm_G_br (b := (fLou F s j) ≤ ((mxS al (fLou F s) lOne (-1) j).2)) (t := 58) (S' := []) rfl (fun h5 => ?_) (fun h5 => ?_)
      ·
        refine lm_G_sg 1 (pc' := 61) (L' := [some (.ref 0), some (.int (nI n)), some (.int ((mxS al (fLou F s) lOne (-1) j).1)), some (.int ((mxS al (fLou F s) lOne (-1) j).2)), some (.int ((nI (j + 1)) + 1)), some (.int (fLou F s j))]) (S' := []) (σ' := lm_T M3 v G) rfl trivial ?_
        rw [nI_1]
        refine lm_G_sg 1 (pc' := 21) (L' := [some (.ref 0), some (.int (nI n)), some (.int ((mxS al (fLou F s) lOne (-1) j).1)), some (.int ((mxS al (fLou F s) lOne (-1) j).2)), some (.int (nI ((j + 1) + 1))), some (.int (fLou F s j))]) (S' := []) (σ' := lm_T M3 v G) rfl trivial ?_
        rw [mx_n (f := fLou F s) (Int32.not_lt.mpr h5)] at ih
        refine lm_G_jk (L := [some (.ref 0), some (.int (nI n)), some (.int ((mxS al (fLou F s) lOne (-1) j).1)), some (.int ((mxS al (fLou F s) lOne (-1) j).2)), some (.int (nI ((j + 1) + 1))), none]) ⟨rfl, rfl, rfl, rfl, rfl, trivial⟩ ?_
        exact ih _ t3
      ·
        refine lm_G_sg 5 (pc' := 61) (L' := [some (.ref 0), some (.int (nI n)), some (.int (nI (j + 1))), some (.int (fLou F s j)), some (.int ((nI (j + 1)) + 1)), some (.int (fLou F s j))]) (S' := []) (σ' := lm_T M3 v G) rfl trivial ?_
        rw [nI_1]
        refine lm_G_sg 1 (pc' := 21) (L' := [some (.ref 0), some (.int (nI n)), some (.int (nI (j + 1))), some (.int (fLou F s j)), some (.int (nI ((j + 1) + 1))), some (.int (fLou F s j))]) (S' := []) (σ' := lm_T M3 v G) rfl trivial ?_
        rw [mx_y (g := al) (f := fLou F s) rfl (Int32.not_le.mp h5)] at ih
        refine lm_G_jk (L := [some (.ref 0), some (.int (nI n)), some (.int (nI (j + 1))), some (.int (fLou F s j)), some (.int (nI ((j + 1) + 1))), none]) ⟨rfl, rfl, rfl, rfl, rfl, trivial⟩ ?_
        exact ih _ t3
    ·
      revert hI
      revert zz
      intro M2 hI
      replace hI : TC M F M2 (hrsS F nl s n) := hI
      show lm_G X (d + 6) 103 106 1 6 21 [some (.ref 0), some (.int (nI n)), some (.int ((mxS al (fLou F s) lOne (-1) n).1)), some (.int ((mxS al (fLou F s) lOne (-1) n).2)), some (.int (nI (n + 1))), none] [] (lm_T M2 v G) Q
      refine lm_G_sg 2 (pc' := 24) (L' := [some (.ref 0), some (.int (nI n)), some (.int ((mxS al (fLou F s) lOne (-1) n).1)), some (.int ((mxS al (fLou F s) lOne (-1) n).2)), some (.int (nI (n + 1))), none]) (S' := [.int (nI n), .int (nI (n + 1))]) (σ' := lm_T M2 v G) rfl trivial ?_
      refine lm_G_br (b := (nI n) < (nI (n + 1))) (t := 64) (S' := []) rfl (fun hc => ?_) (fun hc => absurd (nI_lt (by omega) (by omega)) hc)
      refine lm_G_sg 1 (pc' := 65) (L' := [some (.ref 0), some (.int (nI n)), some (.int ((mxS al (fLou F s) lOne (-1) n).1)), some (.int ((mxS al (fLou F s) lOne (-1) n).2)), some (.int (nI (n + 1))), none]) (S' := [.int ((mxS al (fLou F s) lOne (-1) n).1)]) (σ' := lm_T M2 v G) rfl trivial ?_
      exact lm_G_re rfl trivial (Nat.le_of_ble_eq_true rfl) (Nat.le_of_ble_eq_true rfl) (hQ _ hI.2.1)
    ·
      try dsimp only
      exact t1
set_option maxRecDepth 10000 in
theorem m_loudest {X : lm_X} {d v : Nat} {M : Nat → Nat → Int32} {G : Nat → Nat → Int64} {Q : lm_O → lm_S → Prop} {F : Fa} {s : Sc} {x : Int32} (hF : okF F) (h : RM M F s) (hs : okS F s) (hl : M 64 42 = 0) (hQ : ∀ M1, RM M1 F s → FrN M M1 → M1 64 4 = cd (aLou F s x) → Q (.inl (some (.int (vl (aLou F s x))))) (lm_T M1 v G)) : lm_Q X (d + 5) 216 [.ref 64, .int x] (lm_T M v G) Q := by
  have hn := hF.n
  have hm := hF.m
  show lm_G X (d + 5) 216 106 0 0 0 [some (.ref 64), some (.int x), none, none, none, none] [] (lm_T M v G) Q
  refine lm_G_sg 3 (pc' := 5) (L' := [some (.ref 64), some (.int x), none, none, none, none]) (S' := []) (σ' := lm_T (lm_wr M 64 4 0) v G) rfl ⟨trivial, trivial, trivial⟩ ?_
  have h0 : RM (lm_wr M 64 4 0) F s := RM_taken h 4 (by decide) 0
  have f0 : FrN M (lm_wr M 64 4 0) := FrN_w64 (FrN_rf _) (by decide)
  have c0 : (lm_wr M 64 4 0) 64 4 = 0 := wr_same
  have l0 : (lm_wr M 64 4 0) 64 42 = 0 := (wr_at (by decide)).trans hl
  revert h0 f0 c0 l0
  generalize lm_wr M 64 4 0 = M0
  intro h0 f0 c0 l0
  refine lm_G_sg 4 (pc' := 11) (L' := [some (.ref 64), some (.int x), none, none, none, none]) (S' := [.long 60, .long 1, .long x.toInt64]) (σ' := lm_T M0 v G) rfl trivial ?_
  refine lm_G_ca (j := 142) (as := [.long x.toInt64, .long 1, .long 60]) (rest := []) rfl (Or.inl rfl) (Nat.le_of_ble_eq_true rfl) (Nat.le_of_ble_eq_true rfl) (Nat.le_of_ble_eq_true rfl) (Nat.le_of_ble_eq_true rfl) rfl ?_
  refine c_isIn ?_
  show lm_G X (d + 5) 216 106 0 0 14 [some (.ref 64), some (.int x), none, none, none, none] [.int (b2i (inL (x.toInt64) 1 60))] (lm_T M0 v G) Q
  rw [show inL (x.toInt64) 1 60 = inR x 1 60 from (inL_R x 1 60)]
  refine lm_G_br (b := ¬ (b2i (inR x 1 60)) = 0) (t := 23) (S' := []) rfl (fun hx => ?_) (fun hx => ?_)
  rotate_left
  ·
    replace hx := b2i_0 (Classical.not_not.mp hx)
    refine lm_G_sg 2 (pc' := 19) (L' := [some (.ref 64), some (.int x), none, none, none, none]) (S' := [.int 1, .ref 64]) (σ' := lm_T M0 v G) rfl trivial ?_
    refine lm_G_ca (j := 141) (as := [.ref 64, .int 1]) (rest := []) rfl (Or.inl rfl) (Nat.le_of_ble_eq_true rfl) (Nat.le_of_ble_eq_true rfl) (Nat.le_of_ble_eq_true rfl) (Nat.le_of_ble_eq_true rfl) rfl ?_
    refine m_fail ?_
    show lm_G X (d + 5) 216 106 0 0 22 [some (.ref 64), some (.int x), none, none, none, none] [.int 0] (lm_T (lm_wr M0 64 4 1) v G) Q
    rw [show aLou F s x = .inr false from by simp +decide only [aLou, hx, if_true, if_false, Bool.and_true, Bool.true_and, Bool.and_self, Bool.false_and, Bool.and_false, Bool.false_eq_true]] at hQ
    exact lm_G_re rfl trivial (Nat.zero_le _) (Nat.zero_le _) (hQ _ (RM_taken h0 4 (by decide) 1) (FrN_w64 f0 (by decide)) wr_same)
  ·
    replace hx := b2i_1 hx
    obtain ⟨n, gn, hn, rfl⟩ := inR_nI1 (n := 60) (by decide) hx
    have cn : (nI n).toNatClampNeg = n := nI_clamp (by omega)
    rw [show aLou F s (nI n) = .inl (mxS al (fLou F s) lOne (-1) n).1 from by simp +decide only [aLou, hx, cn, if_true, if_false, Bool.and_true, Bool.true_and, Bool.and_self, Bool.false_and, Bool.and_false, Bool.false_eq_true]] at hQ
    refine lm_G_sg 4 (pc' := 29) (L' := [some (.ref 64), some (.int (nI n)), none, none, none, none]) (S' := [.int 0, .ref 90, .ref 64]) (σ' := lm_T M0 v G) rfl trivial ?_
    refine lm_G_ca (j := 177) (as := [.ref 64, .ref 90, .int 0]) (rest := []) rfl (Or.inl rfl) (Nat.le_of_ble_eq_true rfl) (Nat.le_of_ble_eq_true rfl) (Nat.le_of_ble_eq_true rfl) (Nat.le_of_ble_eq_true rfl) rfl ?_
    refine t_pack hF h0 f0 c0 l0 (fun M1 t1 => ?_)
    show lm_G X (d + 5) 216 106 0 0 32 [some (.ref 64), some (.int (nI n)), none, none, none, none] [] (lm_T M1 v G) Q
    refine lm_G_sg 6 (pc' := 39) (L' := [some (.ref 64), some (.int (nI n)), some (.int (-1)), some (.int (-1)), some (.int 1), none]) (S' := []) (σ' := lm_T M1 v G) rfl trivial ?_
    refine lm_ind (α := (Nat → Fn)) (St := fun (j : Nat) zz => (fun (M2 : Nat → Fn) => lm_G X (d + 5) 216 106 0 0 39 [some (.ref 64), some (.int (nI n)), some (.int ((mxS al (fLou F s) lOne (-1) j).1)), some (.int ((mxS al (fLou F s) lOne (-1) j).2)), some (.int (nI (j + 1))), none] [] (lm_T M2 v G) Q) zz) (Inv := fun (j : Nat) zz => (fun (M2 : Nat → Fn) => TM M F s M2 (hrsS F nl s j)) zz) (n) (fun j zz hj hI ih => ?_) (fun zz hI => ?_) (0) M1 (by omega) ?_
    ·
      revert ih hI
      revert zz
      intro M2 hI ih
      replace hI : TM M F s M2 (hrsS F nl s j) := hI
      replace ih : ∀ (M2 : Nat → Fn) (_ : TM M F s M2 (hrsS F nl s (j + 1))), lm_G X (d + 5) 216 106 0 0 39 [some (.ref 64), some (.int (nI n)), some (.int ((mxS al (fLou F s) lOne (-1) (j + 1)).1)), some (.int ((mxS al (fLou F s) lOne (-1) (j + 1)).2)), some (.int (nI ((j + 1) + 1))), none] [] (lm_T M2 v G) Q := fun M2 q => ih M2 q
      show lm_G X (d + 5) 216 106 0 0 39 [some (.ref 64), some (.int (nI n)), some (.int ((mxS al (fLou F s) lOne (-1) j).1)), some (.int ((mxS al (fLou F s) lOne (-1) j).2)), some (.int (nI (j + 1))), none] [] (lm_T M2 v G) Q
      refine lm_G_sg 2 (pc' := 42) (L' := [some (.ref 64), some (.int (nI n)), some (.int ((mxS al (fLou F s) lOne (-1) j).1)), some (.int ((mxS al (fLou F s) lOne (-1) j).2)), some (.int (nI (j + 1))), none]) (S' := [.int (nI n), .int (nI (j + 1))]) (σ' := lm_T M2 v G) rfl trivial ?_
      refine lm_G_br (b := (nI n) < (nI (j + 1))) (t := 79) (S' := []) rfl (fun hc => absurd hc (nI_nlt (by omega) (by omega))) (fun hc => ?_)
      refine lm_G_sg 1 (pc' := 46) (L' := [some (.ref 64), some (.int (nI n)), some (.int ((mxS al (fLou F s) lOne (-1) j).1)), some (.int ((mxS al (fLou F s) lOne (-1) j).2)), some (.int (nI (j + 1))), none]) (S' := [.ref 64]) (σ' := lm_T M2 v G) rfl trivial ?_
      refine lm_G_ca (j := 193) (as := [.ref 64]) (rest := []) rfl (Or.inl rfl) (Nat.le_of_ble_eq_true rfl) (Nat.le_of_ble_eq_true rfl) (Nat.le_of_ble_eq_true rfl) (Nat.le_of_ble_eq_true rfl) rfl ?_
      refine t_anHour hF hI (ok_hrs hs j) (fun M3 t3 e3 => ?_)
      show lm_G X (d + 5) 216 106 0 0 49 [some (.ref 64), some (.int (nI n)), some (.int ((mxS al (fLou F s) lOne (-1) j).1)), some (.int ((mxS al (fLou F s) lOne (-1) j).2)), some (.int (nI (j + 1))), none] [] (lm_T M3 v G) Q
      refine lm_G_sg 1 (pc' := 50) (L' := [some (.ref 64), some (.int (nI n)), some (.int ((mxS al (fLou F s) lOne (-1) j).1)), some (.int ((mxS al (fLou F s) lOne (-1) j).2)), some (.int (nI (j + 1))), none]) (S' := [.ref 64]) (σ' := lm_T M3 v G) rfl trivial ?_
      refine lm_G_ca (j := 182) (as := [.ref 64]) (rest := []) rfl (Or.inl rfl) (Nat.le_of_ble_eq_true rfl) (Nat.le_of_ble_eq_true rfl) (Nat.le_of_ble_eq_true rfl) (Nat.le_of_ble_eq_true rfl) rfl ?_
      refine m_allWhoHum hF t3.1 ?_
      show lm_G X (d + 5) 216 106 0 0 53 [some (.ref 64), some (.int (nI n)), some (.int ((mxS al (fLou F s) lOne (-1) j).1)), some (.int ((mxS al (fLou F s) lOne (-1) j).2)), some (.int (nI (j + 1))), none] [.int (msk (fun p => decide (sHu (hrsS F nl s (j + 1)) p ≠ -1)) (fN F))] (lm_T M3 v G) Q
      refine lm_G_ca (j := 144) (as := [.int (msk (fun p => decide (sHu (hrsS F nl s (j + 1)) p ≠ -1)) (fN F))]) (rest := []) rfl (Or.inl rfl) (Nat.le_of_ble_eq_true rfl) (Nat.le_of_ble_eq_true rfl) (Nat.le_of_ble_eq_true rfl) (Nat.le_of_ble_eq_true rfl) rfl ?_
      refine m_bits (msk_lt _ _ hF.n) ?_
      show lm_G X (d + 5) 216 106 0 0 56 [some (.ref 64), some (.int (nI n)), some (.int ((mxS al (fLou F s) lOne (-1) j).1)), some (.int ((mxS al (fLou F s) lOne (-1) j).2)), some (.int (nI (j + 1))), none] [.int (fLou F s j)] (lm_T M3 v G) Q
      refine lm_G_sg 3 (pc' := 61) (L' := [some (.ref 64), some (.int (nI n)), some (.int ((mxS al (fLou F s) lOne (-1) j).1)), some (.int ((mxS al (fLou F s) lOne (-1) j).2)), some (.int (nI (j + 1))), some (.int (fLou F s j))]) (S' := [.int ((mxS al (fLou F s) lOne (-1) j).2), .int (fLou F s j)]) (σ' := lm_T M3 v G) rfl trivial ?_
      refine lm_G_br (b := ((mxS al (fLou F s) lOne (-1) j).2) < (fLou F s j)) (t := 67) (S' := []) rfl (fun h5 => ?_) (fun h5 => ?_)
      ·
        refine lm_G_sg 5 (pc' := 76) (L' := [some (.ref 64), some (.int (nI n)), some (.int (nI (j + 1))), some (.int (fLou F s j)), some (.int ((nI (j + 1)) + 1)), some (.int (fLou F s j))]) (S' := []) (σ' := lm_T M3 v G) rfl trivial ?_
        rw [nI_1]
        refine lm_G_sg 1 (pc' := 39) (L' := [some (.ref 64), some (.int (nI n)), some (.int (nI (j + 1))), some (.int (fLou F s j)), some (.int (nI ((j + 1) + 1))), some (.int (fLou F s j))]) (S' := []) (σ' := lm_T M3 v G) rfl trivial ?_
        rw [mx_y (g := al) (f := fLou F s) rfl h5] at ih
        refine lm_G_jk (L := [some (.ref 64), some (.int (nI n)), some (.int (nI (j + 1))), some (.int (fLou F s j)), some (.int (nI ((j + 1) + 1))), none]) ⟨rfl, rfl, rfl, rfl, rfl, trivial⟩ ?_
        exact ih _ t3
      ·
        refine lm_G_sg 2 (pc' := 76) (L' := [some (.ref 64), some (.int (nI n)), some (.int ((mxS al (fLou F s) lOne (-1) j).1)), some (.int ((mxS al (fLou F s) lOne (-1) j).2)), some (.int ((nI (j + 1)) + 1)), some (.int (fLou F s j))]) (S' := []) (σ' := lm_T M3 v G) rfl trivial ?_
        rw [nI_1]
        refine lm_G_sg 1 (pc' := 39) (L' := [some (.ref 64), some (.int (nI n)), some (.int ((mxS al (fLou F s) lOne (-1) j).1)), some (.int ((mxS al (fLou F s) lOne (-1) j).2)), some (.int (nI ((j + 1) + 1))), some (.int (fLou F s j))]) (S' := []) (σ' := lm_T M3 v G) rfl trivial ?_
        rw [mx_n (f := fLou F s) h5] at ih
        refine lm_G_jk (L := [some (.ref 64), some (.int (nI n)), some (.int ((mxS al (fLou F s) lOne (-1) j).1)), some (.int ((mxS al (fLou F s) lOne (-1) j).2)), some (.int (nI ((j + 1) + 1))), none]) ⟨rfl, rfl, rfl, rfl, rfl, trivial⟩ ?_
        exact ih _ t3
    ·
      revert hI
      revert zz
      intro M2 hI
      replace hI : TM M F s M2 (hrsS F nl s n) := hI
      show lm_G X (d + 5) 216 106 0 0 39 [some (.ref 64), some (.int (nI n)), some (.int ((mxS al (fLou F s) lOne (-1) n).1)), some (.int ((mxS al (fLou F s) lOne (-1) n).2)), some (.int (nI (n + 1))), none] [] (lm_T M2 v G) Q
      refine lm_G_sg 2 (pc' := 42) (L' := [some (.ref 64), some (.int (nI n)), some (.int ((mxS al (fLou F s) lOne (-1) n).1)), some (.int ((mxS al (fLou F s) lOne (-1) n).2)), some (.int (nI (n + 1))), none]) (S' := [.int (nI n), .int (nI (n + 1))]) (σ' := lm_T M2 v G) rfl trivial ?_
      refine lm_G_br (b := (nI n) < (nI (n + 1))) (t := 79) (S' := []) rfl (fun hc => ?_) (fun hc => absurd (nI_lt (by omega) (by omega)) hc)
      refine lm_G_sg 4 (pc' := 85) (L' := [some (.ref 64), some (.int (nI n)), some (.int ((mxS al (fLou F s) lOne (-1) n).1)), some (.int ((mxS al (fLou F s) lOne (-1) n).2)), some (.int (nI (n + 1))), none]) (S' := [.int 0, .ref 90, .ref 64]) (σ' := lm_T M2 v G) rfl trivial ?_
      refine lm_G_ca (j := 178) (as := [.ref 64, .ref 90, .int 0]) (rest := []) rfl (Or.inl rfl) (Nat.le_of_ble_eq_true rfl) (Nat.le_of_ble_eq_true rfl) (Nat.le_of_ble_eq_true rfl) (Nat.le_of_ble_eq_true rfl) rfl ?_
      refine t_unpack hF hI (br_hrs n) (fun M9 t9 => ?_)
      show lm_G X (d + 5) 216 106 0 0 88 [some (.ref 64), some (.int (nI n)), some (.int ((mxS al (fLou F s) lOne (-1) n).1)), some (.int ((mxS al (fLou F s) lOne (-1) n).2)), some (.int (nI (n + 1))), none] [] (lm_T M9 v G) Q
      refine lm_G_sg 1 (pc' := 89) (L' := [some (.ref 64), some (.int (nI n)), some (.int ((mxS al (fLou F s) lOne (-1) n).1)), some (.int ((mxS al (fLou F s) lOne (-1) n).2)), some (.int (nI (n + 1))), none]) (S' := [.int ((mxS al (fLou F s) lOne (-1) n).1)]) (σ' := lm_T M9 v G) rfl trivial ?_
      exact lm_G_re rfl trivial (Nat.zero_le _) (Nat.zero_le _) (hQ _ t9.1 t9.2.1 t9.2.2.2.1)
    ·
      try dsimp only
      exact t1
set_option maxRecDepth 10000 in
theorem c_richest {X : lm_X} {d v : Nat} {M : Nat → Nat → Int32} {G : Nat → Nat → Int64} {Q : lm_O → lm_S → Prop} {F : Fa} {S : Sc} (hF : okF F) (h : RC 38 M F S) (hQ : Q (.inl (some (.int (ricS F S)))) (lm_T M v G)) : lm_Q X (d + 2) 105 [.ref 0] (lm_T M v G) Q := by
  have hn := hF.n
  have hm := hF.m
  show lm_G X (d + 2) 105 106 0 0 0 [some (.ref 0), none, none, none, none] [] (lm_T M v G) Q
  refine lm_G_sg 6 (pc' := 6) (L' := [some (.ref 0), some (.int (-1)), some (.int (-1)), some (.int 0), none]) (S' := []) (σ' := lm_T M v G) rfl trivial ?_
  refine lm_ind (α := Unit) (St := fun (j : Nat) zz => lm_G X (d + 2) 105 106 0 0 6 [some (.ref 0), some (.int ((mxS al (fRic F S) nI (-1) j).1)), some (.int ((mxS al (fRic F S) nI (-1) j).2)), some (.int (nI j)), none] [] (lm_T M v G) Q) (Inv := fun (j : Nat) zz => True) (fN F) (fun j zz hj hI ih => ?_) (fun zz hI => ?_) (0) () (by omega) ?_
  ·
    replace hI : True := hI
    replace ih : ∀ (_ : True), lm_G X (d + 2) 105 106 0 0 6 [some (.ref 0), some (.int ((mxS al (fRic F S) nI (-1) (j + 1)).1)), some (.int ((mxS al (fRic F S) nI (-1) (j + 1)).2)), some (.int (nI (j + 1))), none] [] (lm_T M v G) Q := fun q => ih () q
    show lm_G X (d + 2) 105 106 0 0 6 [some (.ref 0), some (.int ((mxS al (fRic F S) nI (-1) j).1)), some (.int ((mxS al (fRic F S) nI (-1) j).2)), some (.int (nI j)), none] [] (lm_T M v G) Q
    refine lm_G_sg 4 (pc' := 14) (L' := [some (.ref 0), some (.int ((mxS al (fRic F S) nI (-1) j).1)), some (.int ((mxS al (fRic F S) nI (-1) j).2)), some (.int (nI j)), none]) (S' := [.int (M 14 0), .int (nI j)]) (σ' := lm_T M v G) rfl trivial ?_
    rw [show M 14 0 = nI (fN F) from h.n]
    refine lm_G_br (b := (nI (fN F)) ≤ (nI j)) (t := 44) (S' := []) rfl (fun hc => absurd hc (nI_ge hj (by omega))) (fun hc => ?_)
    refine lm_G_sg 3 (pc' := 22) (L' := [some (.ref 0), some (.int ((mxS al (fRic F S) nI (-1) j).1)), some (.int ((mxS al (fRic F S) nI (-1) j).2)), some (.int (nI j)), none]) (S' := [.int (nI j), .ref 38]) (σ' := lm_T M v G) rfl trivial ?_
    refine lm_G_ca (j := 61) (as := [.ref 38, .int (nI j)]) (rest := []) rfl (Or.inl rfl) (Nat.le_of_ble_eq_true rfl) (Nat.le_of_ble_eq_true rfl) (Nat.le_of_ble_eq_true rfl) (Nat.le_of_ble_eq_true rfl) rfl ?_
    refine c_howMany38 hF h ?_
    show lm_G X (d + 2) 105 106 0 0 25 [some (.ref 0), some (.int ((mxS al (fRic F S) nI (-1) j).1)), some (.int ((mxS al (fRic F S) nI (-1) j).2)), some (.int (nI j)), none] [.int (fRic F S j)] (lm_T M v G) Q
    refine lm_G_sg 3 (pc' := 30) (L' := [some (.ref 0), some (.int ((mxS al (fRic F S) nI (-1) j).1)), some (.int ((mxS al (fRic F S) nI (-1) j).2)), some (.int (nI j)), some (.int (fRic F S j))]) (S' := [.int ((mxS al (fRic F S) nI (-1) j).2), .int (fRic F S j)]) (σ' := lm_T M v G) rfl trivial ?_
    refine lm_G_br (b := (fRic F S j) ≤ ((mxS al (fRic F S) nI (-1) j).2)) (t := 38) (S' := []) rfl (fun h5 => ?_) (fun h5 => ?_)
    ·
      refine lm_G_sg 1 (pc' := 41) (L' := [some (.ref 0), some (.int ((mxS al (fRic F S) nI (-1) j).1)), some (.int ((mxS al (fRic F S) nI (-1) j).2)), some (.int ((nI j) + 1)), some (.int (fRic F S j))]) (S' := []) (σ' := lm_T M v G) rfl trivial ?_
      rw [nI_1]
      refine lm_G_sg 1 (pc' := 6) (L' := [some (.ref 0), some (.int ((mxS al (fRic F S) nI (-1) j).1)), some (.int ((mxS al (fRic F S) nI (-1) j).2)), some (.int (nI (j + 1))), some (.int (fRic F S j))]) (S' := []) (σ' := lm_T M v G) rfl trivial ?_
      rw [mx_n (f := fRic F S) (Int32.not_lt.mpr h5)] at ih
      refine lm_G_jk (L := [some (.ref 0), some (.int ((mxS al (fRic F S) nI (-1) j).1)), some (.int ((mxS al (fRic F S) nI (-1) j).2)), some (.int (nI (j + 1))), none]) ⟨rfl, rfl, rfl, rfl, trivial⟩ ?_
      exact ih  trivial
    ·
      refine lm_G_sg 5 (pc' := 41) (L' := [some (.ref 0), some (.int (nI j)), some (.int (fRic F S j)), some (.int ((nI j) + 1)), some (.int (fRic F S j))]) (S' := []) (σ' := lm_T M v G) rfl trivial ?_
      rw [nI_1]
      refine lm_G_sg 1 (pc' := 6) (L' := [some (.ref 0), some (.int (nI j)), some (.int (fRic F S j)), some (.int (nI (j + 1))), some (.int (fRic F S j))]) (S' := []) (σ' := lm_T M v G) rfl trivial ?_
      rw [mx_y (g := al) (f := fRic F S) rfl (Int32.not_le.mp h5)] at ih
      refine lm_G_jk (L := [some (.ref 0), some (.int (nI j)), some (.int (fRic F S j)), some (.int (nI (j + 1))), none]) ⟨rfl, rfl, rfl, rfl, trivial⟩ ?_
      exact ih  trivial
  ·
    replace hI : True := hI
    show lm_G X (d + 2) 105 106 0 0 6 [some (.ref 0), some (.int ((mxS al (fRic F S) nI (-1) (fN F)).1)), some (.int ((mxS al (fRic F S) nI (-1) (fN F)).2)), some (.int (nI (fN F))), none] [] (lm_T M v G) Q
    refine lm_G_sg 4 (pc' := 14) (L' := [some (.ref 0), some (.int ((mxS al (fRic F S) nI (-1) (fN F)).1)), some (.int ((mxS al (fRic F S) nI (-1) (fN F)).2)), some (.int (nI (fN F))), none]) (S' := [.int (M 14 0), .int (nI (fN F))]) (σ' := lm_T M v G) rfl trivial ?_
    rw [show M 14 0 = nI (fN F) from h.n]
    refine lm_G_br (b := (nI (fN F)) ≤ (nI (fN F))) (t := 44) (S' := []) rfl (fun hc => ?_) (fun hc => absurd (nI_le (Nat.le_refl _) (by omega)) hc)
    refine lm_G_sg 1 (pc' := 45) (L' := [some (.ref 0), some (.int ((mxS al (fRic F S) nI (-1) (fN F)).1)), some (.int ((mxS al (fRic F S) nI (-1) (fN F)).2)), some (.int (nI (fN F))), none]) (S' := [.int ((mxS al (fRic F S) nI (-1) (fN F)).1)]) (σ' := lm_T M v G) rfl trivial ?_
    exact lm_G_re rfl trivial (Nat.zero_le _) (Nat.zero_le _) hQ
  ·
    trivial
set_option maxRecDepth 10000 in
theorem m_richest {X : lm_X} {d v : Nat} {M : Nat → Nat → Int32} {G : Nat → Nat → Int64} {Q : lm_O → lm_S → Prop} {F : Fa} {S : Sc} (hF : okF F) (h : RM M F S) (hQ : Q (.inl (some (.int (ricS F S)))) (lm_T M v G)) : lm_Q X (d + 1) 217 [.ref 64] (lm_T M v G) Q := by
  have hn := hF.n
  have hm := hF.m
  show lm_G X (d + 1) 217 106 0 0 0 [some (.ref 64), none, none] [] (lm_T M v G) Q
  refine lm_G_sg 4 (pc' := 4) (L' := [some (.ref 64), some (.int (-1)), some (.int 0)]) (S' := []) (σ' := lm_T M v G) rfl trivial ?_
  refine lm_ind (α := Unit) (St := fun (j : Nat) zz => lm_G X (d + 1) 217 106 0 0 4 [some (.ref 64), some (.int ((mxS al (fRic F S) nI (-1) j).1)), some (.int (nI j))] [] (lm_T M v G) Q) (Inv := fun (j : Nat) zz => (mxS al (fRic F S) nI (-1) j).1 = -1 ∧ (mxS al (fRic F S) nI (-1) j).2 = -1 ∧ j = 0 ∨ ¬ (mxS al (fRic F S) nI (-1) j).1 = -1 ∧ (mxS al (fRic F S) nI (-1) j).2 = cnt (ownS F (sOw S) (mxS al (fRic F S) nI (-1) j).1)) (fN F) (fun j zz hj hI ih => ?_) (fun zz hI => ?_) (0) () (by omega) ?_
  ·
    replace hI : (mxS al (fRic F S) nI (-1) j).1 = -1 ∧ (mxS al (fRic F S) nI (-1) j).2 = -1 ∧ j = 0 ∨ ¬ (mxS al (fRic F S) nI (-1) j).1 = -1 ∧ (mxS al (fRic F S) nI (-1) j).2 = cnt (ownS F (sOw S) (mxS al (fRic F S) nI (-1) j).1) := hI
    replace ih : ∀ (_ : (mxS al (fRic F S) nI (-1) (j + 1)).1 = -1 ∧ (mxS al (fRic F S) nI (-1) (j + 1)).2 = -1 ∧ (j + 1) = 0 ∨ ¬ (mxS al (fRic F S) nI (-1) (j + 1)).1 = -1 ∧ (mxS al (fRic F S) nI (-1) (j + 1)).2 = cnt (ownS F (sOw S) (mxS al (fRic F S) nI (-1) (j + 1)).1)), lm_G X (d + 1) 217 106 0 0 4 [some (.ref 64), some (.int ((mxS al (fRic F S) nI (-1) (j + 1)).1)), some (.int (nI (j + 1)))] [] (lm_T M v G) Q := fun q => ih () q
    show lm_G X (d + 1) 217 106 0 0 4 [some (.ref 64), some (.int ((mxS al (fRic F S) nI (-1) j).1)), some (.int (nI j))] [] (lm_T M v G) Q
    refine lm_G_sg 5 (pc' := 11) (L' := [some (.ref 64), some (.int ((mxS al (fRic F S) nI (-1) j).1)), some (.int (nI j))]) (S' := [.int (M 68 0), .int (nI j)]) (σ' := lm_T M v G) rfl ⟨(lm_inb_ok rfl), trivial, trivial⟩ ?_
    rw [show M 68 0 = nI (fN F) from h.n]
    refine lm_G_br (b := (nI (fN F)) ≤ (nI j)) (t := 46) (S' := []) rfl (fun hc => absurd hc (nI_ge hj (by omega))) (fun hc => ?_)
    refine lm_G_sg 2 (pc' := 16) (L' := [some (.ref 64), some (.int ((mxS al (fRic F S) nI (-1) j).1)), some (.int (nI j))]) (S' := [.int (-1), .int ((mxS al (fRic F S) nI (-1) j).1)]) (σ' := lm_T M v G) rfl trivial ?_
    refine lm_G_br (b := ((mxS al (fRic F S) nI (-1) j).1) = (-1)) (t := 38) (S' := []) rfl (fun h5 => ?_) (fun h5 => ?_)
    ·
      refine lm_G_sg 3 (pc' := 43) (L' := [some (.ref 64), some (.int (nI j)), some (.int ((nI j) + 1))]) (S' := []) (σ' := lm_T M v G) rfl trivial ?_
      rw [nI_1]
      refine lm_G_sg 1 (pc' := 4) (L' := [some (.ref 64), some (.int (nI j)), some (.int (nI (j + 1)))]) (S' := []) (σ' := lm_T M v G) rfl trivial ?_
      have eh : (mxS al (fRic F S) nI (-1) j).2 < fRic F S j := by
        rcases hI with w | w
        · rw [w.2.1]; exact cnt_pos (own_lt hF _ _)
        · exact absurd h5 w.1
      rw [mx_y (g := al) (f := fRic F S) rfl eh] at ih
      exact ih  (Or.inr ⟨nI_m1 (by omega), rfl⟩)
    ·
      have ew := (hI.resolve_left (fun w => h5 w.1)).2
      refine lm_G_sg 2 (pc' := 21) (L' := [some (.ref 64), some (.int ((mxS al (fRic F S) nI (-1) j).1)), some (.int (nI j))]) (S' := [.int (nI j), .ref 64]) (σ' := lm_T M v G) rfl trivial ?_
      refine lm_G_ca (j := 183) (as := [.ref 64, .int (nI j)]) (rest := []) rfl (Or.inl rfl) (Nat.le_of_ble_eq_true rfl) (Nat.le_of_ble_eq_true rfl) (Nat.le_of_ble_eq_true rfl) (Nat.le_of_ble_eq_true rfl) rfl ?_
      refine m_ownedBy hF h ?_
      show lm_G X (d + 1) 217 106 0 0 24 [some (.ref 64), some (.int ((mxS al (fRic F S) nI (-1) j).1)), some (.int (nI j))] [.int (ownS F (sOw S) (nI j))] (lm_T M v G) Q
      refine lm_G_ca (j := 144) (as := [.int (ownS F (sOw S) (nI j))]) (rest := []) rfl (Or.inl rfl) (Nat.le_of_ble_eq_true rfl) (Nat.le_of_ble_eq_true rfl) (Nat.le_of_ble_eq_true rfl) (Nat.le_of_ble_eq_true rfl) rfl ?_
      refine m_bits (own_lt hF _ _) ?_
      show lm_G X (d + 1) 217 106 0 0 27 [some (.ref 64), some (.int ((mxS al (fRic F S) nI (-1) j).1)), some (.int (nI j))] [.int (fRic F S j)] (lm_T M v G) Q
      refine lm_G_sg 2 (pc' := 29) (L' := [some (.ref 64), some (.int ((mxS al (fRic F S) nI (-1) j).1)), some (.int (nI j))]) (S' := [.int ((mxS al (fRic F S) nI (-1) j).1), .ref 64, .int (fRic F S j)]) (σ' := lm_T M v G) rfl trivial ?_
      refine lm_G_ca (j := 183) (as := [.ref 64, .int ((mxS al (fRic F S) nI (-1) j).1)]) (rest := [.int (fRic F S j)]) rfl (Or.inl rfl) (Nat.le_of_ble_eq_true rfl) (Nat.le_of_ble_eq_true rfl) (Nat.le_of_ble_eq_true rfl) (Nat.le_of_ble_eq_true rfl) rfl ?_
      refine m_ownedBy hF h ?_
      show lm_G X (d + 1) 217 106 0 0 32 [some (.ref 64), some (.int ((mxS al (fRic F S) nI (-1) j).1)), some (.int (nI j))] [.int (ownS F (sOw S) (mxS al (fRic F S) nI (-1) j).1), .int (fRic F S j)] (lm_T M v G) Q
      refine lm_G_ca (j := 144) (as := [.int (ownS F (sOw S) (mxS al (fRic F S) nI (-1) j).1)]) (rest := [.int (fRic F S j)]) rfl (Or.inl rfl) (Nat.le_of_ble_eq_true rfl) (Nat.le_of_ble_eq_true rfl) (Nat.le_of_ble_eq_true rfl) (Nat.le_of_ble_eq_true rfl) rfl ?_
      refine m_bits (own_lt hF _ _) ?_
      show lm_G X (d + 1) 217 106 0 0 35 [some (.ref 64), some (.int ((mxS al (fRic F S) nI (-1) j).1)), some (.int (nI j))] [.int (cnt (ownS F (sOw S) (mxS al (fRic F S) nI (-1) j).1)), .int (fRic F S j)] (lm_T M v G) Q
      rw [← ew]
      refine lm_G_br (b := (fRic F S j) ≤ ((mxS al (fRic F S) nI (-1) j).2)) (t := 40) (S' := []) rfl (fun h6 => ?_) (fun h6 => ?_)
      ·
        refine lm_G_sg 1 (pc' := 43) (L' := [some (.ref 64), some (.int ((mxS al (fRic F S) nI (-1) j).1)), some (.int ((nI j) + 1))]) (S' := []) (σ' := lm_T M v G) rfl trivial ?_
        rw [nI_1]
        refine lm_G_sg 1 (pc' := 4) (L' := [some (.ref 64), some (.int ((mxS al (fRic F S) nI (-1) j).1)), some (.int (nI (j + 1)))]) (S' := []) (σ' := lm_T M v G) rfl trivial ?_
        rw [mx_n (f := fRic F S) (Int32.not_lt.mpr h6)] at ih
        exact ih  (Or.inr ⟨h5, ew⟩)
      ·
        refine lm_G_sg 3 (pc' := 43) (L' := [some (.ref 64), some (.int (nI j)), some (.int ((nI j) + 1))]) (S' := []) (σ' := lm_T M v G) rfl trivial ?_
        rw [nI_1]
        refine lm_G_sg 1 (pc' := 4) (L' := [some (.ref 64), some (.int (nI j)), some (.int (nI (j + 1)))]) (S' := []) (σ' := lm_T M v G) rfl trivial ?_
        rw [mx_y (g := al) (f := fRic F S) rfl (Int32.not_le.mp h6)] at ih
        exact ih  (Or.inr ⟨nI_m1 (by omega), rfl⟩)
  ·
    replace hI : (mxS al (fRic F S) nI (-1) (fN F)).1 = -1 ∧ (mxS al (fRic F S) nI (-1) (fN F)).2 = -1 ∧ (fN F) = 0 ∨ ¬ (mxS al (fRic F S) nI (-1) (fN F)).1 = -1 ∧ (mxS al (fRic F S) nI (-1) (fN F)).2 = cnt (ownS F (sOw S) (mxS al (fRic F S) nI (-1) (fN F)).1) := hI
    show lm_G X (d + 1) 217 106 0 0 4 [some (.ref 64), some (.int ((mxS al (fRic F S) nI (-1) (fN F)).1)), some (.int (nI (fN F)))] [] (lm_T M v G) Q
    refine lm_G_sg 5 (pc' := 11) (L' := [some (.ref 64), some (.int ((mxS al (fRic F S) nI (-1) (fN F)).1)), some (.int (nI (fN F)))]) (S' := [.int (M 68 0), .int (nI (fN F))]) (σ' := lm_T M v G) rfl ⟨(lm_inb_ok rfl), trivial, trivial⟩ ?_
    rw [show M 68 0 = nI (fN F) from h.n]
    refine lm_G_br (b := (nI (fN F)) ≤ (nI (fN F))) (t := 46) (S' := []) rfl (fun hc => ?_) (fun hc => absurd (nI_le (Nat.le_refl _) (by omega)) hc)
    refine lm_G_sg 1 (pc' := 47) (L' := [some (.ref 64), some (.int ((mxS al (fRic F S) nI (-1) (fN F)).1)), some (.int (nI (fN F)))]) (S' := [.int ((mxS al (fRic F S) nI (-1) (fN F)).1)]) (σ' := lm_T M v G) rfl trivial ?_
    exact lm_G_re rfl trivial (Nat.zero_le _) (Nat.zero_le _) hQ
  ·
    try dsimp only
    exact Or.inl ⟨rfl, rfl, rfl⟩
set_option maxRecDepth 10000 in
theorem c_later {X : lm_X} {d v : Nat} {M : Nat → Nat → Int32} {G : Nat → Nat → Int64} {Q : lm_O → lm_S → Prop} {F : Fa} {s : Sc} {y w : Int32} (hF : okF F) (h : RC 28 M F s) (hs : okS F s) (hl : M 28 12 = -1) (hQ : ∀ M1, Fr frQ M M1 → Q (cO (aLater F s y w)) (lm_T M1 v G)) : lm_Q X (d + 7) 104 [.ref 0, .int y, .int w] (lm_T M v G) Q := by
  have hn := hF.n
  have hm := hF.m
  show lm_G X (d + 7) 104 106 0 0 0 [some (.ref 0), some (.int y), some (.int w)] [] (lm_T M v G) Q
  refine lm_G_sg 2 (pc' := 2) (L' := [some (.ref 0), some (.int y), some (.int w)]) (S' := [.int 2, .int w]) (σ' := lm_T M v G) rfl trivial ?_
  refine lm_G_ca (j := 135) (as := [.int w, .int 2]) (rest := []) rfl (Or.inl rfl) (Nat.le_of_ble_eq_true rfl) (Nat.le_of_ble_eq_true rfl) (Nat.le_of_ble_eq_true rfl) (Nat.le_of_ble_eq_true rfl) rfl ?_
  refine c_isWhat (n := 2) (by omega) ?_
  show lm_G X (d + 7) 104 106 0 0 5 [some (.ref 0), some (.int y), some (.int w)] [.int (b2i (isP 2 w))] (lm_T M v G) Q
  rcases Bool.eq_false_or_eq_true (isP 2 w) with hw | hw
  rotate_left
  ·
    rw [hw]
    show lm_G X (d + 7) 104 106 0 0 5 [some (.ref 0), some (.int y), some (.int w)] [.int 0] (lm_T M v G) Q
    rw [show aLater F s y w = .inr false from by simp +decide only [aLater, hw, if_true, if_false, Bool.and_true, Bool.true_and, Bool.and_self, Bool.false_and, Bool.and_false, Bool.false_eq_true]] at hQ
    refine lm_G_ca (j := 137) (as := [.int 0]) (rest := []) rfl (Or.inl rfl) (Nat.le_of_ble_eq_true rfl) (Nat.le_of_ble_eq_true rfl) (Nat.le_of_ble_eq_true rfl) (Nat.le_of_ble_eq_true rfl) rfl ?_
    exact c_mustExistF ⟨by decide, rfl, hQ M (Fr_rf _ _)⟩
  ·
    rw [hw]
    show lm_G X (d + 7) 104 106 0 0 5 [some (.ref 0), some (.int y), some (.int w)] [.int 1] (lm_T M v G) Q
    refine lm_G_ca (j := 137) (as := [.int 1]) (rest := []) rfl (Or.inl rfl) (Nat.le_of_ble_eq_true rfl) (Nat.le_of_ble_eq_true rfl) (Nat.le_of_ble_eq_true rfl) (Nat.le_of_ble_eq_true rfl) rfl ?_
    refine c_mustExistT ?_
    show lm_G X (d + 7) 104 106 1 6 8 [some (.ref 0), some (.int y), some (.int w)] [] (lm_T M v G) Q
    refine lm_G_sg 3 (pc' := 12) (L' := [some (.ref 0), some (.int y), some (.int w)]) (S' := [.int 60, .int 0, .int y]) (σ' := lm_T M v G) rfl trivial ?_
    refine lm_G_ca (j := 136) (as := [.int y, .int 0, .int 60]) (rest := []) rfl (Or.inl rfl) (Nat.le_of_ble_eq_true rfl) (Nat.le_of_ble_eq_true rfl) (Nat.le_of_ble_eq_true rfl) (Nat.le_of_ble_eq_true rfl) rfl ?_
    refine c_isWithin ?_
    show lm_G X (d + 7) 104 106 1 6 15 [some (.ref 0), some (.int y), some (.int w)] [.int (b2i (inR y 0 60))] (lm_T M v G) Q
    rcases Bool.eq_false_or_eq_true (inR y 0 60) with hy | hy
    rotate_left
    ·
      rw [hy]
      show lm_G X (d + 7) 104 106 1 6 15 [some (.ref 0), some (.int y), some (.int w)] [.int 0] (lm_T M v G) Q
      rw [show aLater F s y w = .inr true from by simp +decide only [aLater, hy, hw, if_true, if_false, Bool.and_true, Bool.true_and, Bool.and_self, Bool.false_and, Bool.and_false, Bool.false_eq_true]] at hQ
      refine lm_G_ca (j := 138) (as := [.int 0]) (rest := []) rfl (Or.inl rfl) (Nat.le_of_ble_eq_true rfl) (Nat.le_of_ble_eq_true rfl) (Nat.le_of_ble_eq_true rfl) (Nat.le_of_ble_eq_true rfl) rfl ?_
      exact c_mustFitF ⟨by decide, rfl, hQ M (Fr_rf _ _)⟩
    ·
      rw [hy]
      show lm_G X (d + 7) 104 106 1 6 15 [some (.ref 0), some (.int y), some (.int w)] [.int 1] (lm_T M v G) Q
      refine lm_G_ca (j := 138) (as := [.int 1]) (rest := []) rfl (Or.inl rfl) (Nat.le_of_ble_eq_true rfl) (Nat.le_of_ble_eq_true rfl) (Nat.le_of_ble_eq_true rfl) (Nat.le_of_ble_eq_true rfl) rfl ?_
      refine c_mustFitT ?_
      show lm_G X (d + 7) 104 106 2 12 18 [some (.ref 0), some (.int y), some (.int w)] [] (lm_T M v G) Q
      obtain ⟨n, hn, rfl⟩ := inR_nI (n := 60) (by decide) hy
      have cn : (nI n).toNatClampNeg = n := nI_clamp (by omega)
      refine lm_G_sg 1 (pc' := 19) (L' := [some (.ref 0), some (.int (nI n)), some (.int w)]) (S' := [.ref 0]) (σ' := lm_T M v G) rfl trivial ?_
      refine lm_G_ca (j := 132) (as := [.ref 0]) (rest := []) rfl (Or.inl rfl) (Nat.le_of_ble_eq_true rfl) (Nat.le_of_ble_eq_true rfl) (Nat.le_of_ble_eq_true rfl) (Nat.le_of_ble_eq_true rfl) rfl ?_
      refine u_start hF h (Fr_rf _ _) hl (fun M1 t1 e1 => ?_)
      show lm_G X (d + 7) 104 106 2 12 22 [some (.ref 0), some (.int (nI n)), some (.int w)] [] (lm_T M1 v G) Q
      refine lm_G_sg 3 (pc' := 27) (L' := [some (.ref 0), some (.int (nI n)), some (.int w)]) (S' := [.int (nI n), .ref 38]) (σ' := lm_T M1 v G) rfl trivial ?_
      refine lm_G_ca (j := 73) (as := [.ref 38, .int (nI n)]) (rest := []) rfl (Or.inl rfl) (Nat.le_of_ble_eq_true rfl) (Nat.le_of_ble_eq_true rfl) (Nat.le_of_ble_eq_true rfl) (Nat.le_of_ble_eq_true rfl) rfl ?_
      refine u_passHours hF t1 hs (by omega) (fun M2 t2 e2 => ?_)
      show lm_G X (d + 7) 104 106 2 12 30 [some (.ref 0), some (.int (nI n)), some (.int w)] [] (lm_T M2 v G) Q
      rw [e1, Int32.zero_add] at e2
      rcases isP_2 hw with rfl | rfl
      ·
        refine lm_G_sg 1 (pc' := 31) (L' := [some (.ref 0), some (.int (nI n)), some (.int 0)]) (S' := [.int 0]) (σ' := lm_T M2 v G) rfl trivial ?_
        refine lm_G_br (b := ¬ 0 = 0) (t := 41) (S' := []) rfl (fun hc => absurd rfl hc) (fun hc => ?_)
        refine lm_G_sg 1 (pc' := 35) (L' := [some (.ref 0), some (.int (nI n)), some (.int 0)]) (S' := [.ref 0]) (σ' := lm_T M2 v G) rfl trivial ?_
        refine lm_G_ca (j := 105) (as := [.ref 0]) (rest := []) rfl (Or.inl rfl) (Nat.le_of_ble_eq_true rfl) (Nat.le_of_ble_eq_true rfl) (Nat.le_of_ble_eq_true rfl) (Nat.le_of_ble_eq_true rfl) rfl ?_
        refine c_richest hF t2.1 ?_
        show lm_G X (d + 7) 104 106 2 12 38 [some (.ref 0), some (.int (nI n)), some (.int 0)] [.int (ricS F (hrsS F nl s n))] (lm_T M2 v G) Q
        refine lm_G_sg 1 (pc' := 48) (L' := [some (.ref 0), some (.int (nI n)), some (.int 0)]) (S' := [.int (ricS F (hrsS F nl s n))]) (σ' := lm_T M2 v G) rfl trivial ?_
        rw [show aLater F s (nI n) 0 = .inl (ricS F (hrsS F nl s n)) from by simp +decide only [aLater, hw, hy, cn, if_true, if_false, Bool.and_true, Bool.true_and, Bool.and_self, Bool.false_and, Bool.and_false, Bool.false_eq_true]] at hQ
        exact lm_G_re rfl trivial (Nat.le_of_ble_eq_true rfl) (Nat.le_of_ble_eq_true rfl) (hQ _ t2.2.1)
      ·
        refine lm_G_sg 1 (pc' := 31) (L' := [some (.ref 0), some (.int (nI n)), some (.int 1)]) (S' := [.int 1]) (σ' := lm_T M2 v G) rfl trivial ?_
        refine lm_G_br (b := ¬ 1 = 0) (t := 41) (S' := []) rfl (fun hc => ?_) (fun hc => absurd (by decide) hc)
        refine lm_G_sg 3 (pc' := 48) (L' := [some (.ref 0), some (.int (nI n)), some (.int 1)]) (S' := [.int (M2 38 13)]) (σ' := lm_T M2 v G) rfl trivial ?_
        rw [show M2 38 13 = hrsD F nl s n from e2]
        rw [show aLater F s (nI n) 1 = .inl (hrsD F nl s n) from by simp +decide only [aLater, hw, hy, cn, if_true, if_false, Bool.and_true, Bool.true_and, Bool.and_self, Bool.false_and, Bool.and_false, Bool.false_eq_true]] at hQ
        exact lm_G_re rfl trivial (Nat.le_of_ble_eq_true rfl) (Nat.le_of_ble_eq_true rfl) (hQ _ t2.2.1)
set_option maxRecDepth 10000 in
theorem m_later {X : lm_X} {d v : Nat} {M : Nat → Nat → Int32} {G : Nat → Nat → Int64} {Q : lm_O → lm_S → Prop} {F : Fa} {s : Sc} {y w : Int32} (hF : okF F) (h : RM M F s) (hs : okS F s) (hl : M 64 42 = 0) (hQ : ∀ M1, RM M1 F s → FrN M M1 → M1 64 4 = cd (aLater F s y w) → Q (.inl (some (.int (vl (aLater F s y w))))) (lm_T M1 v G)) : lm_Q X (d + 6) 218 [.ref 64, .int y, .int w] (lm_T M v G) Q := by
  have hn := hF.n
  have hm := hF.m
  show lm_G X (d + 6) 218 106 0 0 0 [some (.ref 64), some (.int y), some (.int w), none] [] (lm_T M v G) Q
  refine lm_G_sg 3 (pc' := 5) (L' := [some (.ref 64), some (.int y), some (.int w), none]) (S' := []) (σ' := lm_T (lm_wr M 64 4 0) v G) rfl ⟨trivial, trivial, trivial⟩ ?_
  have h0 : RM (lm_wr M 64 4 0) F s := RM_taken h 4 (by decide) 0
  have f0 : FrN M (lm_wr M 64 4 0) := FrN_w64 (FrN_rf _) (by decide)
  have c0 : (lm_wr M 64 4 0) 64 4 = 0 := wr_same
  have l0 : (lm_wr M 64 4 0) 64 42 = 0 := (wr_at (by decide)).trans hl
  revert h0 f0 c0 l0
  generalize lm_wr M 64 4 0 = M0
  intro h0 f0 c0 l0
  refine lm_G_sg 4 (pc' := 9) (L' := [some (.ref 64), some (.int y), some (.int w), none]) (S' := [.long 1, .long 0, .long w.toInt64]) (σ' := lm_T M0 v G) rfl trivial ?_
  refine lm_G_ca (j := 142) (as := [.long w.toInt64, .long 0, .long 1]) (rest := []) rfl (Or.inl rfl) (Nat.le_of_ble_eq_true rfl) (Nat.le_of_ble_eq_true rfl) (Nat.le_of_ble_eq_true rfl) (Nat.le_of_ble_eq_true rfl) rfl ?_
  refine c_isIn ?_
  show lm_G X (d + 6) 218 106 0 0 12 [some (.ref 64), some (.int y), some (.int w), none] [.int (b2i (inL (w.toInt64) 0 1))] (lm_T M0 v G) Q
  rw [show inL (w.toInt64) 0 1 = isP 2 w from inL_1 _]
  refine lm_G_br (b := ¬ (b2i (isP 2 w)) = 0) (t := 21) (S' := []) rfl (fun hw => ?_) (fun hw => ?_)
  rotate_left
  ·
    replace hw := b2i_0 (Classical.not_not.mp hw)
    refine lm_G_sg 2 (pc' := 17) (L' := [some (.ref 64), some (.int y), some (.int w), none]) (S' := [.int 1, .ref 64]) (σ' := lm_T M0 v G) rfl trivial ?_
    refine lm_G_ca (j := 141) (as := [.ref 64, .int 1]) (rest := []) rfl (Or.inl rfl) (Nat.le_of_ble_eq_true rfl) (Nat.le_of_ble_eq_true rfl) (Nat.le_of_ble_eq_true rfl) (Nat.le_of_ble_eq_true rfl) rfl ?_
    refine m_fail ?_
    show lm_G X (d + 6) 218 106 0 0 20 [some (.ref 64), some (.int y), some (.int w), none] [.int 0] (lm_T (lm_wr M0 64 4 1) v G) Q
    rw [show aLater F s y w = .inr false from by simp +decide only [aLater, hw, if_true, if_false, Bool.and_true, Bool.true_and, Bool.and_self, Bool.false_and, Bool.and_false, Bool.false_eq_true]] at hQ
    exact lm_G_re rfl trivial (Nat.zero_le _) (Nat.zero_le _) (hQ _ (RM_taken h0 4 (by decide) 1) (FrN_w64 f0 (by decide)) wr_same)
  ·
    replace hw := b2i_1 hw
    refine lm_G_sg 4 (pc' := 27) (L' := [some (.ref 64), some (.int y), some (.int w), none]) (S' := [.long 60, .long 0, .long y.toInt64]) (σ' := lm_T M0 v G) rfl trivial ?_
    refine lm_G_ca (j := 142) (as := [.long y.toInt64, .long 0, .long 60]) (rest := []) rfl (Or.inl rfl) (Nat.le_of_ble_eq_true rfl) (Nat.le_of_ble_eq_true rfl) (Nat.le_of_ble_eq_true rfl) (Nat.le_of_ble_eq_true rfl) rfl ?_
    refine c_isIn ?_
    show lm_G X (d + 6) 218 106 0 0 30 [some (.ref 64), some (.int y), some (.int w), none] [.int (b2i (inL (y.toInt64) 0 60))] (lm_T M0 v G) Q
    rw [show inL (y.toInt64) 0 60 = inR y 0 60 from (inL_R y 0 60)]
    refine lm_G_br (b := ¬ (b2i (inR y 0 60)) = 0) (t := 39) (S' := []) rfl (fun hy => ?_) (fun hy => ?_)
    rotate_left
    ·
      replace hy := b2i_0 (Classical.not_not.mp hy)
      refine lm_G_sg 2 (pc' := 35) (L' := [some (.ref 64), some (.int y), some (.int w), none]) (S' := [.int 2, .ref 64]) (σ' := lm_T M0 v G) rfl trivial ?_
      refine lm_G_ca (j := 141) (as := [.ref 64, .int 2]) (rest := []) rfl (Or.inl rfl) (Nat.le_of_ble_eq_true rfl) (Nat.le_of_ble_eq_true rfl) (Nat.le_of_ble_eq_true rfl) (Nat.le_of_ble_eq_true rfl) rfl ?_
      refine m_fail ?_
      show lm_G X (d + 6) 218 106 0 0 38 [some (.ref 64), some (.int y), some (.int w), none] [.int 0] (lm_T (lm_wr M0 64 4 2) v G) Q
      rw [show aLater F s y w = .inr true from by simp +decide only [aLater, hy, hw, if_true, if_false, Bool.and_true, Bool.true_and, Bool.and_self, Bool.false_and, Bool.and_false, Bool.false_eq_true]] at hQ
      exact lm_G_re rfl trivial (Nat.zero_le _) (Nat.zero_le _) (hQ _ (RM_taken h0 4 (by decide) 2) (FrN_w64 f0 (by decide)) wr_same)
    ·
      replace hy := b2i_1 hy
      obtain ⟨n, hn, rfl⟩ := inR_nI (n := 60) (by decide) hy
      have cn : (nI n).toNatClampNeg = n := nI_clamp (by omega)
      refine lm_G_sg 4 (pc' := 45) (L' := [some (.ref 64), some (.int (nI n)), some (.int w), none]) (S' := [.int 0, .ref 90, .ref 64]) (σ' := lm_T M0 v G) rfl trivial ?_
      refine lm_G_ca (j := 177) (as := [.ref 64, .ref 90, .int 0]) (rest := []) rfl (Or.inl rfl) (Nat.le_of_ble_eq_true rfl) (Nat.le_of_ble_eq_true rfl) (Nat.le_of_ble_eq_true rfl) (Nat.le_of_ble_eq_true rfl) rfl ?_
      refine t_pack hF h0 f0 c0 l0 (fun M1 t1 => ?_)
      show lm_G X (d + 6) 218 106 0 0 48 [some (.ref 64), some (.int (nI n)), some (.int w), none] [] (lm_T M1 v G) Q
      refine lm_G_sg 5 (pc' := 55) (L' := [some (.ref 64), some (.int (nI n)), some (.int w), none]) (S' := [.int (nI n), .ref 64]) (σ' := lm_T (lm_wr M1 64 41 0) v G) rfl ⟨trivial, trivial, trivial⟩ ?_
      have t3 : TM M F s (lm_wr M1 64 41 0) s := TM_w64 t1 (Or.inl rfl)
      have e3 : (lm_wr M1 64 41 0) 64 41 = 0 := wr_same
      revert t3 e3
      generalize lm_wr M1 64 41 0 = M3
      intro t3 e3
      refine lm_G_ca (j := 194) (as := [.ref 64, .int (nI n)]) (rest := []) rfl (Or.inl rfl) (Nat.le_of_ble_eq_true rfl) (Nat.le_of_ble_eq_true rfl) (Nat.le_of_ble_eq_true rfl) (Nat.le_of_ble_eq_true rfl) rfl ?_
      refine t_goOn hF t3 hs (by omega) (fun M2 t2 e2 => ?_)
      show lm_G X (d + 6) 218 106 0 0 58 [some (.ref 64), some (.int (nI n)), some (.int w), none] [] (lm_T M2 v G) Q
      rw [e3, Int32.zero_add] at e2
      rcases isP_2 hw with rfl | rfl
      ·
        refine lm_G_sg 1 (pc' := 59) (L' := [some (.ref 64), some (.int (nI n)), some (.int 0), none]) (S' := [.int 0]) (σ' := lm_T M2 v G) rfl trivial ?_
        refine lm_G_br (b := ¬ 0 = 0) (t := 69) (S' := []) rfl (fun hc => absurd rfl hc) (fun hc => ?_)
        refine lm_G_sg 1 (pc' := 63) (L' := [some (.ref 64), some (.int (nI n)), some (.int 0), none]) (S' := [.ref 64]) (σ' := lm_T M2 v G) rfl trivial ?_
        refine lm_G_ca (j := 217) (as := [.ref 64]) (rest := []) rfl (Or.inl rfl) (Nat.le_of_ble_eq_true rfl) (Nat.le_of_ble_eq_true rfl) (Nat.le_of_ble_eq_true rfl) (Nat.le_of_ble_eq_true rfl) rfl ?_
        refine m_richest hF t2.1 ?_
        show lm_G X (d + 6) 218 106 0 0 66 [some (.ref 64), some (.int (nI n)), some (.int 0), none] [.int (ricS F (hrsS F nl s n))] (lm_T M2 v G) Q
        rw [show aLater F s (nI n) 0 = .inl (ricS F (hrsS F nl s n)) from by simp +decide only [aLater, hw, hy, cn, if_true, if_false, Bool.and_true, Bool.true_and, Bool.and_self, Bool.false_and, Bool.and_false, Bool.false_eq_true]] at hQ
        refine lm_G_sg 6 (pc' := 80) (L' := [some (.ref 64), some (.int (nI n)), some (.int 0), some (.int (ricS F (hrsS F nl s n)))]) (S' := [.int 0, .ref 90, .ref 64]) (σ' := lm_T M2 v G) rfl trivial ?_
        refine lm_G_ca (j := 178) (as := [.ref 64, .ref 90, .int 0]) (rest := []) rfl (Or.inl rfl) (Nat.le_of_ble_eq_true rfl) (Nat.le_of_ble_eq_true rfl) (Nat.le_of_ble_eq_true rfl) (Nat.le_of_ble_eq_true rfl) rfl ?_
        refine t_unpack hF t2 (br_hrs n) (fun M9 t9 => ?_)
        show lm_G X (d + 6) 218 106 0 0 83 [some (.ref 64), some (.int (nI n)), some (.int 0), some (.int (ricS F (hrsS F nl s n)))] [] (lm_T M9 v G) Q
        refine lm_G_sg 1 (pc' := 84) (L' := [some (.ref 64), some (.int (nI n)), some (.int 0), some (.int (ricS F (hrsS F nl s n)))]) (S' := [.int (ricS F (hrsS F nl s n))]) (σ' := lm_T M9 v G) rfl trivial ?_
        exact lm_G_re rfl trivial (Nat.zero_le _) (Nat.zero_le _) (hQ _ t9.1 t9.2.1 t9.2.2.2.1)
      ·
        refine lm_G_sg 1 (pc' := 59) (L' := [some (.ref 64), some (.int (nI n)), some (.int 1), none]) (S' := [.int 1]) (σ' := lm_T M2 v G) rfl trivial ?_
        refine lm_G_br (b := ¬ 1 = 0) (t := 69) (S' := []) rfl (fun hc => ?_) (fun hc => absurd (by decide) hc)
        refine lm_G_sg 2 (pc' := 73) (L' := [some (.ref 64), some (.int (nI n)), some (.int 1), none]) (S' := [.int (M2 64 41)]) (σ' := lm_T M2 v G) rfl trivial ?_
        rw [show M2 64 41 = hrsD F nl s n from e2]
        rw [show aLater F s (nI n) 1 = .inl (hrsD F nl s n) from by simp +decide only [aLater, hw, hy, cn, if_true, if_false, Bool.and_true, Bool.true_and, Bool.and_self, Bool.false_and, Bool.and_false, Bool.false_eq_true]] at hQ
        refine lm_G_sg 5 (pc' := 80) (L' := [some (.ref 64), some (.int (nI n)), some (.int 1), some (.int (hrsD F nl s n))]) (S' := [.int 0, .ref 90, .ref 64]) (σ' := lm_T M2 v G) rfl trivial ?_
        refine lm_G_ca (j := 178) (as := [.ref 64, .ref 90, .int 0]) (rest := []) rfl (Or.inl rfl) (Nat.le_of_ble_eq_true rfl) (Nat.le_of_ble_eq_true rfl) (Nat.le_of_ble_eq_true rfl) (Nat.le_of_ble_eq_true rfl) rfl ?_
        refine t_unpack hF t2 (br_hrs n) (fun M9 t9 => ?_)
        show lm_G X (d + 6) 218 106 0 0 83 [some (.ref 64), some (.int (nI n)), some (.int 1), some (.int (hrsD F nl s n))] [] (lm_T M9 v G) Q
        refine lm_G_sg 1 (pc' := 84) (L' := [some (.ref 64), some (.int (nI n)), some (.int 1), some (.int (hrsD F nl s n))]) (S' := [.int (hrsD F nl s n)]) (σ' := lm_T M9 v G) rfl trivial ?_
        exact lm_G_re rfl trivial (Nat.zero_le _) (Nat.zero_le _) (hQ _ t9.1 t9.2.1 t9.2.2.2.1)
