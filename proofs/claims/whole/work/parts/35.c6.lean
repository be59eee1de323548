/-! ===== contracts: the model's hour, its end ===== -/
def bj1 (F : Fa) (s : Sc) (p n : Nat) : Sc := match fstS (begS F s p) n with
  | some t => hums s p (nI t)
  | none => s
def bj2 (F : Fa) (s : Sc) (p n : Nat) : Sc := match fstS (joinS F s p) n with
  | some t => hums s p (nI t)
  | none => s
theorem bj1_s {F : Fa} {s : Sc} {p n t : Nat} (h : fstS (begS F s p) n = some t) : bj1 F s p n = hums s p (nI t) := by unfold bj1; rw [h]
theorem bj1_n {F : Fa} {s : Sc} {p n : Nat} (h : fstS (begS F s p) n = none) : bj1 F s p n = s := by unfold bj1; rw [h]
theorem bj2_s {F : Fa} {s : Sc} {p n t : Nat} (h : fstS (joinS F s p) n = some t) : bj2 F s p n = hums s p (nI t) := by unfold bj2; rw [h]
theorem bj2_n {F : Fa} {s : Sc} {p n : Nat} (h : fstS (joinS F s p) n = none) : bj2 F s p n = s := by unfold bj2; rw [h]
theorem boj_1 {F : Fa} {s : Sc} {p t : Nat} (h : fstS (begS F s p) (fM F) = some t) : bojS F s p = hums s p (nI t) := by unfold bojS; rw [h]
theorem boj_2 {F : Fa} {s : Sc} {p : Nat} (h : fstS (begS F s p) (fM F) = none) : bojS F s p = bj2 F s p (fM F) := by unfold bojS bj2; rw [h]; rfl
theorem hums_at {s : Sc} {p : Nat} {t : Int32} : sHu (hums s p t) p = t := pk_us
theorem RM.hup {M : Nat → Fn} {F : Fa} {s : Sc} {p : Nat} (h : RM M F s) (hp : p < fN F) : M 82 p = sHu s p := h.hu p hp
set_option maxRecDepth 10000 in
theorem m_beginOrJoin {X : lm_X} {d v : Nat} {M : Nat → Nat → Int32} {G : Nat → Nat → Int64} {Q : lm_O → lm_S → Prop} {F : Fa} {s : Sc} {p : Nat} (hF : okF F) (h : RM M F s) (hs : okS F s) (hp : p < fN F) (h0 : sHu s p = -1) (hQ : ∀ M1, RM M1 F (bojS F s p) → FrM M M1 → M1 64 41 = M 64 41 → Q (.inl none) (lm_T M1 v G)) : lm_Q X (d + 3) 192 [.ref 64, .int (nI p)] (lm_T M v G) Q := by
  have hn := hF.n
  have hm := hF.m
  show lm_G X (d + 3) 192 106 0 0 0 [some (.ref 64), some (.int (nI p)), none] [] (lm_T M v G) Q
  have k53 : ∀ (M1 : Nat → Fn) (h1 : RM M1 F (bj1 F s p (fM F))) (f1 : FrM M M1) (t1 : M1 64 41 = M 64 41), lm_G X (d + 3) 192 106 0 0 53 [some (.ref 64), some (.int (nI p)), none] [] (lm_T M1 v G) Q := by
    intro M1 h1 f1 t1
    cases hx : fstS (begS F s p) (fM F) with
    | some u =>
      rw [bj1_s hx] at h1
      have hul := (fst_lt hx).1
      have eq := boj_1 hx
      refine lm_G_sg 7 (pc' := 62) (L' := [some (.ref 64), some (.int (nI p)), some (.int 0)]) (S' := [.int (M1 68 1), .int 0]) (σ' := lm_T M1 v G) rfl ⟨(lm_inb_ok rfl), trivial, trivial⟩ ?_
      rw [show M1 68 1 = nI (fM F) from h1.m]
      refine lm_G_br (b := (nI (fM F)) ≤ 0) (t := 97) (S' := []) rfl (fun h3 => ?_) (fun h3 => ?_)
      ·
        rw [eq] at hQ
        exact lm_G_re rfl trivial (Nat.zero_le _) (Nat.zero_le _) (hQ _ h1 f1 t1)
      ·
        refine lm_G_sg 4 (pc' := 71) (L' := [some (.ref 64), some (.int (nI p)), some (.int 0)]) (S' := [.int (M1 82 (nI p).toNatClampNeg)]) (σ' := lm_T M1 v G) rfl ⟨(vp_in_nI (by omega) (by omega)), trivial, trivial⟩ ?_
        rw [show (nI p).toNatClampNeg = p from nI_clamp (by omega)]
        rw [show M1 82 p = sHu (hums s p (nI u)) p from h1.hu p (by omega)]
        rw [hums_at]
        refine lm_G_sg 1 (pc' := 72) (L' := [some (.ref 64), some (.int (nI p)), some (.int 0)]) (S' := [.int (-1), .int (nI u)]) (σ' := lm_T M1 v G) rfl trivial ?_
        refine lm_G_br (b := ¬ (nI u) = (-1)) (t := 97) (S' := []) rfl (fun h4 => ?_) (fun h4 => absurd (Classical.not_not.mp h4) (nI_m1 (by omega)))
        rw [eq] at hQ
        exact lm_G_re rfl trivial (Nat.zero_le _) (Nat.zero_le _) (hQ _ h1 f1 t1)
    | none =>
      rw [bj1_n hx] at h1
      have eq := boj_2 hx
      refine lm_G_sg 2 (pc' := 55) (L' := [some (.ref 64), some (.int (nI p)), some (.int 0)]) (S' := []) (σ' := lm_T M1 v G) rfl trivial ?_
      refine lm_ind (α := (Nat → Fn)) (St := fun (j : Nat) zz => (fun (M2 : Nat → Fn) => lm_G X (d + 3) 192 106 0 0 55 [some (.ref 64), some (.int (nI p)), some (.int (nI j))] [] (lm_T M2 v G) Q) zz) (Inv := fun (j : Nat) zz => (fun (M2 : Nat → Fn) => RM M2 F (bj2 F s p j) ∧ FrM M M2 ∧ M2 64 41 = M 64 41) zz) (fM F) (fun j zz hj hI ih => ?_) (fun zz hI => ?_) (0) M1 (by omega) ?_
      ·
        revert ih hI
        revert zz
        intro M2 hI ih
        replace hI : RM M2 F (bj2 F s p j) ∧ FrM M M2 ∧ M2 64 41 = M 64 41 := hI
        replace ih : ∀ (M2 : Nat → Fn) (_ : RM M2 F (bj2 F s p (j + 1)) ∧ FrM M M2 ∧ M2 64 41 = M 64 41), lm_G X (d + 3) 192 106 0 0 55 [some (.ref 64), some (.int (nI p)), some (.int (nI (j + 1)))] [] (lm_T M2 v G) Q := fun M2 q => ih M2 q
        show lm_G X (d + 3) 192 106 0 0 55 [some (.ref 64), some (.int (nI p)), some (.int (nI j))] [] (lm_T M2 v G) Q
        obtain ⟨h2, f2, t2⟩ := hI
        cases hy : fstS (joinS F s p) j with
        | some u =>
          rw [bj2_s hy] at h2
          have hul := (fst_lt hy).1
          have eq2 := bj2_s (fst_some hy (Nat.le_of_lt hj))
          rw [← eq] at eq2
          refine lm_G_sg 5 (pc' := 62) (L' := [some (.ref 64), some (.int (nI p)), some (.int (nI j))]) (S' := [.int (M2 68 1), .int (nI j)]) (σ' := lm_T M2 v G) rfl ⟨(lm_inb_ok rfl), trivial, trivial⟩ ?_
          rw [show M2 68 1 = nI (fM F) from h2.m]
          refine lm_G_br (b := (nI (fM F)) ≤ (nI j)) (t := 97) (S' := []) rfl (fun hc => absurd hc (nI_ge hj (by omega))) (fun hc => ?_)
          refine lm_G_sg 4 (pc' := 71) (L' := [some (.ref 64), some (.int (nI p)), some (.int (nI j))]) (S' := [.int (M2 82 (nI p).toNatClampNeg)]) (σ' := lm_T M2 v G) rfl ⟨(vp_in_nI (by omega) (by omega)), trivial, trivial⟩ ?_
          rw [show (nI p).toNatClampNeg = p from nI_clamp (by omega)]
          rw [show M2 82 p = sHu (hums s p (nI u)) p from h2.hu p (by omega)]
          rw [hums_at]
          refine lm_G_sg 1 (pc' := 72) (L' := [some (.ref 64), some (.int (nI p)), some (.int (nI j))]) (S' := [.int (-1), .int (nI u)]) (σ' := lm_T M2 v G) rfl trivial ?_
          refine lm_G_br (b := ¬ (nI u) = (-1)) (t := 97) (S' := []) rfl (fun h4 => ?_) (fun h4 => absurd (Classical.not_not.mp h4) (nI_m1 (by omega)))
          rw [eq2] at hQ
          exact lm_G_re rfl trivial (Nat.zero_le _) (Nat.zero_le _) (hQ _ h2 f2 t2)
        | none =>
          rw [bj2_n hy] at h2
          refine lm_G_sg 5 (pc' := 62) (L' := [some (.ref 64), some (.int (nI p)), some (.int (nI j))]) (S' := [.int (M2 68 1), .int (nI j)]) (σ' := lm_T M2 v G) rfl ⟨(lm_inb_ok rfl), trivial, trivial⟩ ?_
          rw [show M2 68 1 = nI (fM F) from h2.m]
          refine lm_G_br (b := (nI (fM F)) ≤ (nI j)) (t := 97) (S' := []) rfl (fun hc => absurd hc (nI_ge hj (by omega))) (fun hc => ?_)
          refine lm_G_sg 4 (pc' := 71) (L' := [some (.ref 64), some (.int (nI p)), some (.int (nI j))]) (S' := [.int (M2 82 (nI p).toNatClampNeg)]) (σ' := lm_T M2 v G) rfl ⟨(vp_in_nI (by omega) (by omega)), trivial, trivial⟩ ?_
          rw [show (nI p).toNatClampNeg = p from nI_clamp (by omega)]
          rw [show M2 82 p = sHu s p from h2.hu p (by omega)]
          rw [h0]
          refine lm_G_sg 1 (pc' := 72) (L' := [some (.ref 64), some (.int (nI p)), some (.int (nI j))]) (S' := [.int (-1), .int (-1)]) (σ' := lm_T M2 v G) rfl trivial ?_
          refine lm_G_br (b := ¬ (-1) = (-1)) (t := 97) (S' := []) rfl (fun h4 => absurd rfl h4) (fun h4 => ?_)
          refine lm_G_sg 3 (pc' := 78) (L' := [some (.ref 64), some (.int (nI p)), some (.int (nI j))]) (S' := [.int (nI j), .int (nI p), .ref 64]) (σ' := lm_T M2 v G) rfl trivial ?_
          refine lm_G_ca (j := 188) (as := [.ref 64, .int (nI p), .int (nI j)]) (rest := []) rfl (Or.inl rfl) (Nat.le_of_ble_eq_true rfl) (Nat.le_of_ble_eq_true rfl) (Nat.le_of_ble_eq_true rfl) (Nat.le_of_ble_eq_true rfl) rfl ?_
          refine m_wouldJoin hF h2 hs hp hj (fun M3 f3 => ?_)
          show lm_G X (d + 3) 192 106 0 0 81 [some (.ref 64), some (.int (nI p)), some (.int (nI j))] [.int (b2i (joinS F s p j))] (lm_T M3 v G) Q
          have h3 := RM_A h2 f3
          have g3 : FrM M M3 := FrM_tr f2 (FrM_A f3)
          have t3 : M3 64 41 = M 64 41 := by rw [f3 64 rfl]; exact t2
          refine lm_G_br (b := (b2i (joinS F s p j)) = 0) (t := 91) (S' := []) rfl (fun h5 => ?_) (fun h5 => ?_)
          ·
            refine lm_G_sg 1 (pc' := 94) (L' := [some (.ref 64), some (.int (nI p)), some (.int ((nI j) + 1))]) (S' := []) (σ' := lm_T M3 v G) rfl trivial ?_
            rw [nI_1]
            refine lm_G_sg 1 (pc' := 55) (L' := [some (.ref 64), some (.int (nI p)), some (.int (nI (j + 1)))]) (S' := []) (σ' := lm_T M3 v G) rfl trivial ?_
            have e1 : bj2 F s p (j + 1) = s := bj2_n (by rw [fst_nx hy, b2i_0 h5]; rfl)
            rw [e1] at ih
            exact ih _ (⟨h3, g3, t3⟩)
          ·
            refine lm_G_sg 5 (pc' := 91) (L' := [some (.ref 64), some (.int (nI p)), some (.int (nI j))]) (S' := []) (σ' := lm_T (lm_wr M3 82 ((nI p).toNatClampNeg) (nI j)) v G) rfl ⟨(vp_in_nI (by omega) (by omega)), trivial, trivial⟩ ?_
            rw [show (nI p).toNatClampNeg = p from nI_clamp (by omega)]
            refine lm_G_sg 1 (pc' := 94) (L' := [some (.ref 64), some (.int (nI p)), some (.int ((nI j) + 1))]) (S' := []) (σ' := lm_T (lm_wr M3 82 p (nI j)) v G) rfl trivial ?_
            rw [nI_1]
            refine lm_G_sg 1 (pc' := 55) (L' := [some (.ref 64), some (.int (nI p)), some (.int (nI (j + 1)))]) (S' := []) (σ' := lm_T (lm_wr M3 82 p (nI j)) v G) rfl trivial ?_
            have e1 : bj2 F s p (j + 1) = hums s p (nI j) := bj2_s (by rw [fst_nx hy, b2i_1 h5]; rfl)
            rw [e1] at ih
            exact ih _ (⟨RM_hums h3 p _, FrM_wr g3 rfl (by decide), t3⟩)
      ·
        revert hI
        revert zz
        intro M2 hI
        replace hI : RM M2 F (bj2 F s p (fM F)) ∧ FrM M M2 ∧ M2 64 41 = M 64 41 := hI
        show lm_G X (d + 3) 192 106 0 0 55 [some (.ref 64), some (.int (nI p)), some (.int (nI (fM F)))] [] (lm_T M2 v G) Q
        obtain ⟨h2, f2, t2⟩ := hI
        refine lm_G_sg 5 (pc' := 62) (L' := [some (.ref 64), some (.int (nI p)), some (.int (nI (fM F)))]) (S' := [.int (M2 68 1), .int (nI (fM F))]) (σ' := lm_T M2 v G) rfl ⟨(lm_inb_ok rfl), trivial, trivial⟩ ?_
        rw [show M2 68 1 = nI (fM F) from h2.m]
        refine lm_G_br (b := (nI (fM F)) ≤ (nI (fM F))) (t := 97) (S' := []) rfl (fun hc => ?_) (fun hc => absurd (nI_le (Nat.le_refl _) (by omega)) hc)
        rw [eq] at hQ
        exact lm_G_re rfl trivial (Nat.zero_le _) (Nat.zero_le _) (hQ _ h2 f2 t2)
      ·
        try dsimp only
        exact ⟨h1, f1, t1⟩
  refine lm_G_sg 2 (pc' := 2) (L' := [some (.ref 64), some (.int (nI p)), some (.int 0)]) (S' := []) (σ' := lm_T M v G) rfl trivial ?_
  refine lm_ind (α := (Nat → Fn)) (St := fun (j : Nat) zz => (fun (M1 : Nat → Fn) => lm_G X (d + 3) 192 106 0 0 2 [some (.ref 64), some (.int (nI p)), some (.int (nI j))] [] (lm_T M1 v G) Q) zz) (Inv := fun (j : Nat) zz => (fun (M1 : Nat → Fn) => RM M1 F (bj1 F s p j) ∧ FrM M M1 ∧ M1 64 41 = M 64 41) zz) (fM F) (fun j zz hj hI ih => ?_) (fun zz hI => ?_) (0) M (by omega) ?_
  ·
    revert ih hI
    revert zz
    intro M1 hI ih
    replace hI : RM M1 F (bj1 F s p j) ∧ FrM M M1 ∧ M1 64 41 = M 64 41 := hI
    replace ih : ∀ (M1 : Nat → Fn) (_ : RM M1 F (bj1 F s p (j + 1)) ∧ FrM M M1 ∧ M1 64 41 = M 64 41), lm_G X (d + 3) 192 106 0 0 2 [some (.ref 64), some (.int (nI p)), some (.int (nI (j + 1)))] [] (lm_T M1 v G) Q := fun M1 q => ih M1 q
    show lm_G X (d + 3) 192 106 0 0 2 [some (.ref 64), some (.int (nI p)), some (.int (nI j))] [] (lm_T M1 v G) Q
    obtain ⟨h2, f2, t2⟩ := hI
    cases hy : fstS (begS F s p) j with
    | some u =>
      have h1 := h2
      rw [bj1_s hy, ← bj1_s (fst_some hy (Nat.le_of_lt hj))] at h1
      rw [bj1_s hy] at h2
      have hul := (fst_lt hy).1
      refine lm_G_sg 5 (pc' := 9) (L' := [some (.ref 64), some (.int (nI p)), some (.int (nI j))]) (S' := [.int (M1 68 1), .int (nI j)]) (σ' := lm_T M1 v G) rfl ⟨(lm_inb_ok rfl), trivial, trivial⟩ ?_
      rw [show M1 68 1 = nI (fM F) from h2.m]
      refine lm_G_br (b := (nI (fM F)) ≤ (nI j)) (t := 53) (S' := []) rfl (fun hc => absurd hc (nI_ge hj (by omega))) (fun hc => ?_)
      refine lm_G_sg 4 (pc' := 18) (L' := [some (.ref 64), some (.int (nI p)), some (.int (nI j))]) (S' := [.int (M1 82 (nI p).toNatClampNeg)]) (σ' := lm_T M1 v G) rfl ⟨(vp_in_nI (by omega) (by omega)), trivial, trivial⟩ ?_
      rw [show (nI p).toNatClampNeg = p from nI_clamp (by omega)]
      rw [show M1 82 p = sHu (hums s p (nI u)) p from h2.hu p (by omega)]
      rw [hums_at]
      refine lm_G_sg 1 (pc' := 19) (L' := [some (.ref 64), some (.int (nI p)), some (.int (nI j))]) (S' := [.int (-1), .int (nI u)]) (σ' := lm_T M1 v G) rfl trivial ?_
      refine lm_G_br (b := ¬ (nI u) = (-1)) (t := 53) (S' := []) rfl (fun h4 => ?_) (fun h4 => absurd (Classical.not_not.mp h4) (nI_m1 (by omega)))
      refine lm_G_jk (L := [some (.ref 64), some (.int (nI p)), none]) ⟨rfl, rfl, trivial⟩ ?_
      exact k53 _ h1 f2 t2
    | none =>
      rw [bj1_n hy] at h2
      refine lm_G_sg 5 (pc' := 9) (L' := [some (.ref 64), some (.int (nI p)), some (.int (nI j))]) (S' := [.int (M1 68 1), .int (nI j)]) (σ' := lm_T M1 v G) rfl ⟨(lm_inb_ok rfl), trivial, trivial⟩ ?_
      rw [show M1 68 1 = nI (fM F) from h2.m]
      refine lm_G_br (b := (nI (fM F)) ≤ (nI j)) (t := 53) (S' := []) rfl (fun hc => absurd hc (nI_ge hj (by omega))) (fun hc => ?_)
      refine lm_G_sg 4 (pc' := 18) (L' := [some (.ref 64), some (.int (nI p)), some (.int (nI j))]) (S' := [.int (M1 82 (nI p).toNatClampNeg)]) (σ' := lm_T M1 v G) rfl ⟨(vp_in_nI (by omega) (by omega)), trivial, trivial⟩ ?_
      rw [show (nI p).toNatClampNeg = p from nI_clamp (by omega)]
      rw [show M1 82 p = sHu s p from h2.hu p (by omega)]
      rw [h0]
      refine lm_G_sg 1 (pc' := 19) (L' := [some (.ref 64), some (.int (nI p)), some (.int (nI j))]) (S' := [.int (-1), .int (-1)]) (σ' := lm_T M1 v G) rfl trivial ?_
      refine lm_G_br (b := ¬ (-1) = (-1)) (t := 53) (S' := []) rfl (fun h4 => absurd rfl h4) (fun h4 => ?_)
      refine lm_G_sg 4 (pc' := 28) (L' := [some (.ref 64), some (.int (nI p)), some (.int (nI j))]) (S' := [.int (M1 81 (nI j).toNatClampNeg)]) (σ' := lm_T M1 v G) rfl ⟨(vp_in_nI (by omega) (by omega)), trivial, trivial⟩ ?_
      rw [show (nI j).toNatClampNeg = j from nI_clamp (by omega)]
      rw [show M1 81 j = sOw s j from h2.ow j (by omega)]
      refine lm_G_sg 1 (pc' := 29) (L' := [some (.ref 64), some (.int (nI p)), some (.int (nI j))]) (S' := [.int (nI p), .int (sOw s j)]) (σ' := lm_T M1 v G) rfl trivial ?_
      refine lm_G_br (b := ¬ (sOw s j) = (nI p)) (t := 47) (S' := []) rfl (fun h5 => ?_) (fun h5 => ?_)
      ·
        refine lm_G_sg 1 (pc' := 50) (L' := [some (.ref 64), some (.int (nI p)), some (.int ((nI j) + 1))]) (S' := []) (σ' := lm_T M1 v G) rfl trivial ?_
        rw [nI_1]
        refine lm_G_sg 1 (pc' := 2) (L' := [some (.ref 64), some (.int (nI p)), some (.int (nI (j + 1)))]) (S' := []) (σ' := lm_T M1 v G) rfl trivial ?_
        have e1 : bj1 F s p (j + 1) = s := bj1_n (by rw [fst_nx hy]; simp [begS, h5])
        rw [e1] at ih
        exact ih _ (⟨h2, f2, t2⟩)
      ·
        refine lm_G_sg 2 (pc' := 34) (L' := [some (.ref 64), some (.int (nI p)), some (.int (nI j))]) (S' := [.int (nI j), .ref 64]) (σ' := lm_T M1 v G) rfl trivial ?_
        refine lm_G_ca (j := 181) (as := [.ref 64, .int (nI j)]) (rest := []) rfl (Or.inl rfl) (Nat.le_of_ble_eq_true rfl) (Nat.le_of_ble_eq_true rfl) (Nat.le_of_ble_eq_true rfl) (Nat.le_of_ble_eq_true rfl) rfl ?_
        refine m_whoHums hF h2 ?_
        show lm_G X (d + 3) 192 106 0 0 37 [some (.ref 64), some (.int (nI p)), some (.int (nI j))] [.int (humS F (sHu s) (nI j))] (lm_T M1 v G) Q
        refine lm_G_br (b := ¬ (humS F (sHu s) (nI j)) = 0) (t := 47) (S' := []) rfl (fun h6 => ?_) (fun h6 => ?_)
        ·
          refine lm_G_sg 1 (pc' := 50) (L' := [some (.ref 64), some (.int (nI p)), some (.int ((nI j) + 1))]) (S' := []) (σ' := lm_T M1 v G) rfl trivial ?_
          rw [nI_1]
          refine lm_G_sg 1 (pc' := 2) (L' := [some (.ref 64), some (.int (nI p)), some (.int (nI (j + 1)))]) (S' := []) (σ' := lm_T M1 v G) rfl trivial ?_
          have e1 : bj1 F s p (j + 1) = s := bj1_n (by rw [fst_nx hy]; simp [begS, h6])
          rw [e1] at ih
          exact ih _ (⟨h2, f2, t2⟩)
        ·
          refine lm_G_sg 5 (pc' := 47) (L' := [some (.ref 64), some (.int (nI p)), some (.int (nI j))]) (S' := []) (σ' := lm_T (lm_wr M1 82 ((nI p).toNatClampNeg) (nI j)) v G) rfl ⟨(vp_in_nI (by omega) (by omega)), trivial, trivial⟩ ?_
          rw [show (nI p).toNatClampNeg = p from nI_clamp (by omega)]
          refine lm_G_sg 1 (pc' := 50) (L' := [some (.ref 64), some (.int (nI p)), some (.int ((nI j) + 1))]) (S' := []) (σ' := lm_T (lm_wr M1 82 p (nI j)) v G) rfl trivial ?_
          rw [nI_1]
          refine lm_G_sg 1 (pc' := 2) (L' := [some (.ref 64), some (.int (nI p)), some (.int (nI (j + 1)))]) (S' := []) (σ' := lm_T (lm_wr M1 82 p (nI j)) v G) rfl trivial ?_
          have e1 : bj1 F s p (j + 1) = hums s p (nI j) := bj1_s (by rw [fst_nx hy]; simp [begS, Classical.not_not.mp h5, Classical.not_not.mp h6])
          rw [e1] at ih
          exact ih _ (⟨RM_hums h2 p _, FrM_wr f2 rfl (by decide), t2⟩)
  ·
    revert hI
    revert zz
    intro M1 hI
    replace hI : RM M1 F (bj1 F s p (fM F)) ∧ FrM M M1 ∧ M1 64 41 = M 64 41 := hI
    show lm_G X (d + 3) 192 106 0 0 2 [some (.ref 64), some (.int (nI p)), some (.int (nI (fM F)))] [] (lm_T M1 v G) Q
    obtain ⟨h2, f2, t2⟩ := hI
    refine lm_G_sg 5 (pc' := 9) (L' := [some (.ref 64), some (.int (nI p)), some (.int (nI (fM F)))]) (S' := [.int (M1 68 1), .int (nI (fM F))]) (σ' := lm_T M1 v G) rfl ⟨(lm_inb_ok rfl), trivial, trivial⟩ ?_
    rw [show M1 68 1 = nI (fM F) from h2.m]
    refine lm_G_br (b := (nI (fM F)) ≤ (nI (fM F))) (t := 53) (S' := []) rfl (fun hc => ?_) (fun hc => absurd (nI_le (Nat.le_refl _) (by omega)) hc)
    refine lm_G_jk (L := [some (.ref 64), some (.int (nI p)), none]) ⟨rfl, rfl, trivial⟩ ?_
    exact k53 _ h2 f2 t2
  ·
    try dsimp only
    exact ⟨h, FrM_rf _, rfl⟩
set_option maxRecDepth 10000 in
theorem m_anHour {X : lm_X} {d v : Nat} {M : Nat → Nat → Int32} {G : Nat → Nat → Int64} {Q : lm_O → lm_S → Prop} {F : Fa} {s : Sc} {lf : Nat → Bool} (hF : okF F) (h : RM M F s) (hs : okS F s) (hl : ∀ p, p < fN F → bitW (M 64 42) p = lf p) (hQ : ∀ M1, RM M1 F (hourS F lf s) → FrM M M1 → M1 64 41 = M 64 41 + hourD F s → Q (.inl none) (lm_T M1 v G)) : lm_Q X (d + 4) 193 [.ref 64] (lm_T M v G) Q := by
  have hn := hF.n
  have hm := hF.m
  show lm_G X (d + 4) 193 106 0 0 0 [some (.ref 64), none, none] [] (lm_T M v G) Q
  refine lm_G_sg 4 (pc' := 4) (L' := [some (.ref 64), some (.int 0), some (.int 0)]) (S' := []) (σ' := lm_T M v G) rfl trivial ?_
  refine lm_ind (α := (Nat → Fn)) (St := fun (j : Nat) zz => (fun (M1 : Nat → Fn) => lm_G X (d + 4) 193 106 0 0 4 [some (.ref 64), some (.int (msk (stopW F s) j)), some (.int (nI j))] [] (lm_T M1 v G) Q) zz) (Inv := fun (j : Nat) zz => (fun (M1 : Nat → Fn) => Fr frA M M1) zz) (fN F) (fun j zz hj hI ih => ?_) (fun zz hI => ?_) (0) M (by omega) ?_
  ·
    revert ih hI
    revert zz
    intro M1 hI ih
    replace hI : Fr frA M M1 := hI
    replace ih : ∀ (M1 : Nat → Fn) (_ : Fr frA M M1), lm_G X (d + 4) 193 106 0 0 4 [some (.ref 64), some (.int (msk (stopW F s) (j + 1))), some (.int (nI (j + 1)))] [] (lm_T M1 v G) Q := fun M1 q => ih M1 q
    show lm_G X (d + 4) 193 106 0 0 4 [some (.ref 64), some (.int (msk (stopW F s) j)), some (.int (nI j))] [] (lm_T M1 v G) Q
    have h1 := RM_A h hI
    refine lm_G_sg 5 (pc' := 11) (L' := [some (.ref 64), some (.int (msk (stopW F s) j)), some (.int (nI j))]) (S' := [.int (M1 68 0), .int (nI j)]) (σ' := lm_T M1 v G) rfl ⟨(lm_inb_ok rfl), trivial, trivial⟩ ?_
    rw [show M1 68 0 = nI (fN F) from h1.n]
    refine lm_G_br (b := (nI (fN F)) ≤ (nI j)) (t := 48) (S' := []) rfl (fun hc => absurd hc (nI_ge hj (by omega))) (fun hc => ?_)
    refine lm_G_sg 5 (pc' := 21) (L' := [some (.ref 64), some (.int (msk (stopW F s) j)), some (.int (nI j))]) (S' := [.int (M1 82 (nI j).toNatClampNeg), .int (msk (stopW F s) j)]) (σ' := lm_T M1 v G) rfl ⟨(vp_in_nI (by omega) (by omega)), trivial, trivial⟩ ?_
    rw [show (nI j).toNatClampNeg = j from nI_clamp (by omega)]
    rw [show M1 82 j = sHu s j from h1.hu j (by omega)]
    refine lm_G_sg 1 (pc' := 22) (L' := [some (.ref 64), some (.int (msk (stopW F s) j)), some (.int (nI j))]) (S' := [.int (-1), .int (sHu s j), .int (msk (stopW F s) j)]) (σ' := lm_T M1 v G) rfl trivial ?_
    refine lm_G_br (b := (sHu s j) = (-1)) (t := 39) (S' := [.int (msk (stopW F s) j)]) rfl (fun h3 => ?_) (fun h3 => ?_)
    ·
      refine lm_G_sg 4 (pc' := 45) (L' := [some (.ref 64), some (.int ((msk (stopW F s) j) ||| 0)), some (.int ((nI j) + 1))]) (S' := []) (σ' := lm_T M1 v G) rfl trivial ?_
      rw [nI_1]
      refine lm_G_sg 1 (pc' := 4) (L' := [some (.ref 64), some (.int ((msk (stopW F s) j) ||| 0)), some (.int (nI (j + 1)))]) (S' := []) (σ' := lm_T M1 v G) rfl trivial ?_
      rw [or_0, ← msk_f (f := (stopW F s)) (by unfold stopW; simp [h3])]
      exact ih _ hI
    ·
      obtain ⟨t, ht, et⟩ := (hs.1 j hj).resolve_left h3
      refine lm_G_sg 2 (pc' := 27) (L' := [some (.ref 64), some (.int (msk (stopW F s) j)), some (.int (nI j))]) (S' := [.int (nI j), .ref 64, .int (msk (stopW F s) j)]) (σ' := lm_T M1 v G) rfl trivial ?_
      refine lm_G_ca (j := 187) (as := [.ref 64, .int (nI j)]) (rest := [.int (msk (stopW F s) j)]) rfl (Or.inl rfl) (Nat.le_of_ble_eq_true rfl) (Nat.le_of_ble_eq_true rfl) (Nat.le_of_ble_eq_true rfl) (Nat.le_of_ble_eq_true rfl) rfl ?_
      refine m_wouldStop hF h1 hj ht et (fun M2 f2 => ?_)
      show lm_G X (d + 4) 193 106 0 0 30 [some (.ref 64), some (.int (msk (stopW F s) j)), some (.int (nI j))] [.int (b2i (wantS F s j)), .int (msk (stopW F s) j)] (lm_T M2 v G) Q
      refine lm_G_br (b := (b2i (wantS F s j)) = 0) (t := 39) (S' := [.int (msk (stopW F s) j)]) rfl (fun h4 => ?_) (fun h4 => ?_)
      ·
        refine lm_G_sg 4 (pc' := 45) (L' := [some (.ref 64), some (.int ((msk (stopW F s) j) ||| 0)), some (.int ((nI j) + 1))]) (S' := []) (σ' := lm_T M2 v G) rfl trivial ?_
        rw [nI_1]
        refine lm_G_sg 1 (pc' := 4) (L' := [some (.ref 64), some (.int ((msk (stopW F s) j) ||| 0)), some (.int (nI (j + 1)))]) (S' := []) (σ' := lm_T M2 v G) rfl trivial ?_
        rw [or_0, ← msk_f (f := (stopW F s)) (by unfold stopW; simp [b2i_0 h4])]
        exact ih _ (Fr_tr hI f2)
      ·
        refine lm_G_sg 7 (pc' := 45) (L' := [some (.ref 64), some (.int ((msk (stopW F s) j) ||| (1 <<< ((nI j) &&& 31)))), some (.int ((nI j) + 1))]) (S' := []) (σ' := lm_T M2 v G) rfl trivial ?_
        rw [nI_1]
        refine lm_G_sg 1 (pc' := 4) (L' := [some (.ref 64), some (.int ((msk (stopW F s) j) ||| (1 <<< ((nI j) &&& 31)))), some (.int (nI (j + 1)))]) (S' := []) (σ' := lm_T M2 v G) rfl trivial ?_
        rw [← msk_t (f := (stopW F s)) (by unfold stopW; simp [b2i_1 h4, h3])]
        exact ih _ (Fr_tr hI f2)
  ·
    revert hI
    revert zz
    intro M1 hI
    replace hI : Fr frA M M1 := hI
    show lm_G X (d + 4) 193 106 0 0 4 [some (.ref 64), some (.int (msk (stopW F s) (fN F))), some (.int (nI (fN F)))] [] (lm_T M1 v G) Q
    have h1 := RM_A h hI
    refine lm_G_sg 5 (pc' := 11) (L' := [some (.ref 64), some (.int (msk (stopW F s) (fN F))), some (.int (nI (fN F)))]) (S' := [.int (M1 68 0), .int (nI (fN F))]) (σ' := lm_T M1 v G) rfl ⟨(lm_inb_ok rfl), trivial, trivial⟩ ?_
    rw [show M1 68 0 = nI (fN F) from h1.n]
    refine lm_G_br (b := (nI (fN F)) ≤ (nI (fN F))) (t := 48) (S' := []) rfl (fun hc => ?_) (fun hc => absurd (nI_le (Nat.le_refl _) (by omega)) hc)
    refine lm_G_sg 2 (pc' := 50) (L' := [some (.ref 64), some (.int (msk (stopW F s) (fN F))), some (.int (nI (fN F)))]) (S' := [.int (msk (stopW F s) (fN F)), .ref 64]) (σ' := lm_T M1 v G) rfl trivial ?_
    refine lm_G_ca (j := 191) (as := [.ref 64, .int (msk (stopW F s) (fN F))]) (rest := []) rfl (Or.inl rfl) (Nat.le_of_ble_eq_true rfl) (Nat.le_of_ble_eq_true rfl) (Nat.le_of_ble_eq_true rfl) (Nat.le_of_ble_eq_true rfl) rfl ?_
    refine m_allStop hF h1 (fun M2 h2 t2 f2 => ?_)
    show lm_G X (d + 4) 193 106 0 0 53 [some (.ref 64), some (.int (msk (stopW F s) (fN F))), some (.int (nI (fN F)))] [] (lm_T M2 v G) Q
    have hc2 := all_congr (F := F) (W := bitW (msk (stopW F s) (fN F))) (V := (stopW F s)) (fun q hq => bitW_mskn (by omega) hq) s (fM F)
    rw [hc2.1] at h2
    rw [hc2.2, hI 64 rfl] at t2
    have g2 : FrM M M2 := FrM_tr (FrM_A hI) f2
    refine lm_G_sg 2 (pc' := 55) (L' := [some (.ref 64), some (.int (msk (stopW F s) (fN F))), some (.int 0)]) (S' := []) (σ' := lm_T M2 v G) rfl trivial ?_
    refine lm_ind (α := (Nat → Fn)) (St := fun (j : Nat) zz => (fun (M3 : Nat → Fn) => lm_G X (d + 4) 193 106 0 0 55 [some (.ref 64), some (.int (msk (stopW F s) (fN F))), some (.int (nI j))] [] (lm_T M3 v G) Q) zz) (Inv := fun (j : Nat) zz => (fun (M3 : Nat → Fn) => RM M3 F (begA F (stopW F s) lf (allS F (stopW F s) s (fM F)) j) ∧ FrM M M3 ∧ M3 64 41 = M 64 41 + hourD F s) zz) (fN F) (fun j zz hj2 hI2 ih2 => ?_) (fun zz hI2 => ?_) (0) M2 (by omega) ?_
    ·
      revert ih2 hI2
      revert zz
      intro M3 hI2 ih2
      replace hI2 : RM M3 F (begA F (stopW F s) lf (allS F (stopW F s) s (fM F)) j) ∧ FrM M M3 ∧ M3 64 41 = M 64 41 + hourD F s := hI2
      replace ih2 : ∀ (M3 : Nat → Fn) (_ : RM M3 F (begA F (stopW F s) lf (allS F (stopW F s) s (fM F)) (j + 1)) ∧ FrM M M3 ∧ M3 64 41 = M 64 41 + hourD F s), lm_G X (d + 4) 193 106 0 0 55 [some (.ref 64), some (.int (msk (stopW F s) (fN F))), some (.int (nI (j + 1)))] [] (lm_T M3 v G) Q := fun M3 q => ih2 M3 q
      show lm_G X (d + 4) 193 106 0 0 55 [some (.ref 64), some (.int (msk (stopW F s) (fN F))), some (.int (nI j))] [] (lm_T M3 v G) Q
      obtain ⟨h3, f3, t3⟩ := hI2
      refine lm_G_sg 5 (pc' := 62) (L' := [some (.ref 64), some (.int (msk (stopW F s) (fN F))), some (.int (nI j))]) (S' := [.int (M3 68 0), .int (nI j)]) (σ' := lm_T M3 v G) rfl ⟨(lm_inb_ok rfl), trivial, trivial⟩ ?_
      rw [show M3 68 0 = nI (fN F) from h3.n]
      refine lm_G_br (b := (nI (fN F)) ≤ (nI j)) (t := 114) (S' := []) rfl (fun hc => absurd hc (nI_ge hj2 (by omega))) (fun hc => ?_)
      refine lm_G_sg 4 (pc' := 71) (L' := [some (.ref 64), some (.int (msk (stopW F s) (fN F))), some (.int (nI j))]) (S' := [.int (M3 82 (nI j).toNatClampNeg)]) (σ' := lm_T M3 v G) rfl ⟨(vp_in_nI (by omega) (by omega)), trivial, trivial⟩ ?_
      rw [show (nI j).toNatClampNeg = j from nI_clamp (by omega)]
      rw [show M3 82 j = sHu (begA F (stopW F s) lf (allS F (stopW F s) s (fM F)) j) j from h3.hu j (by omega)]
      refine lm_G_sg 1 (pc' := 72) (L' := [some (.ref 64), some (.int (msk (stopW F s) (fN F))), some (.int (nI j))]) (S' := [.int (-1), .int (sHu (begA F (stopW F s) lf (allS F (stopW F s) s (fM F)) j) j)]) (σ' := lm_T M3 v G) rfl trivial ?_
      refine lm_G_br (b := ¬ (sHu (begA F (stopW F s) lf (allS F (stopW F s) s (fM F)) j) j) = (-1)) (t := 108) (S' := []) rfl (fun h4 => ?_) (fun h4 => ?_)
      ·
        refine lm_G_sg 1 (pc' := 111) (L' := [some (.ref 64), some (.int (msk (stopW F s) (fN F))), some (.int ((nI j) + 1))]) (S' := []) (σ' := lm_T M3 v G) rfl trivial ?_
        rw [nI_1]
        refine lm_G_sg 1 (pc' := 55) (L' := [some (.ref 64), some (.int (msk (stopW F s) (fN F))), some (.int (nI (j + 1)))]) (S' := []) (σ' := lm_T M3 v G) rfl trivial ?_
        have e1 : begA F (stopW F s) lf (allS F (stopW F s) s (fM F)) (j + 1) = (begA F (stopW F s) lf (allS F (stopW F s) s (fM F)) j) := by
          simp only [begA]
          rw [decide_eq_false h4]
          rfl
        rw [e1] at ih2
        exact ih2 _ (⟨h3, f3, t3⟩)
      ·
        refine lm_G_sg 5 (pc' := 82) (L' := [some (.ref 64), some (.int (msk (stopW F s) (fN F))), some (.int (nI j))]) (S' := [.int (nI j), .int ((msk (stopW F s) (fN F)) ||| (M3 64 42))]) (σ' := lm_T M3 v G) rfl trivial ?_
        refine lm_G_ca (j := 143) (as := [.int ((msk (stopW F s) (fN F)) ||| (M3 64 42)), .int (nI j)]) (rest := []) rfl (Or.inl rfl) (Nat.le_of_ble_eq_true rfl) (Nat.le_of_ble_eq_true rfl) (Nat.le_of_ble_eq_true rfl) (Nat.le_of_ble_eq_true rfl) rfl ?_
        refine m_isOf ?_
        show lm_G X (d + 4) 193 106 0 0 85 [some (.ref 64), some (.int (msk (stopW F s) (fN F))), some (.int (nI j))] [.int (b2i (bitW ((msk (stopW F s) (fN F)) ||| (M3 64 42)) j))] (lm_T M3 v G) Q
        have eb : bitW ((msk (stopW F s) (fN F)) ||| (M3 64 42)) j = ((stopW F s) j || lf j) := by rw [bitW_or _ _ (by omega), bitW_mskn (by omega) hj2, f3.2 42 (by decide) (by decide), hl j hj2]
        refine lm_G_br (b := ¬ (b2i (bitW ((msk (stopW F s) (fN F)) ||| (M3 64 42)) j)) = 0) (t := 108) (S' := []) rfl (fun h5 => ?_) (fun h5 => ?_)
        ·
          refine lm_G_sg 1 (pc' := 111) (L' := [some (.ref 64), some (.int (msk (stopW F s) (fN F))), some (.int ((nI j) + 1))]) (S' := []) (σ' := lm_T M3 v G) rfl trivial ?_
          rw [nI_1]
          refine lm_G_sg 1 (pc' := 55) (L' := [some (.ref 64), some (.int (msk (stopW F s) (fN F))), some (.int (nI (j + 1)))]) (S' := []) (σ' := lm_T M3 v G) rfl trivial ?_
          have e5 := b2i_1 h5
          rw [eb] at e5
          have e1 : begA F (stopW F s) lf (allS F (stopW F s) s (fM F)) (j + 1) = (begA F (stopW F s) lf (allS F (stopW F s) s (fM F)) j) := by
            simp only [begA]
            revert e5
            cases stopW F s j <;> cases lf j <;> simp
          rw [e1] at ih2
          exact ih2 _ (⟨h3, f3, t3⟩)
        ·
          have e5 := b2i_0 (Classical.not_not.mp h5)
          rw [eb, Bool.or_eq_false_iff] at e5
          refine lm_G_sg 4 (pc' := 94) (L' := [some (.ref 64), some (.int (msk (stopW F s) (fN F))), some (.int (nI j))]) (S' := [.int (M3 84 (nI j).toNatClampNeg)]) (σ' := lm_T M3 v G) rfl ⟨(vp_in_nI (by omega) (by omega)), trivial, trivial⟩ ?_
          rw [show (nI j).toNatClampNeg = j from nI_clamp (by omega)]
          rw [show M3 84 j = sId (begA F (stopW F s) lf (allS F (stopW F s) s (fM F)) j) j from h3.id j (by omega)]
          refine lm_G_sg 4 (pc' := 100) (L' := [some (.ref 64), some (.int (msk (stopW F s) (fN F))), some (.int (nI j))]) (S' := [.int (M3 71 (nI j).toNatClampNeg), .int (sId (begA F (stopW F s) lf (allS F (stopW F s) s (fM F)) j) j)]) (σ' := lm_T M3 v G) rfl ⟨(vp_in_nI (by omega) (by omega)), trivial, trivial⟩ ?_
          rw [show (nI j).toNatClampNeg = j from nI_clamp (by omega)]
          rw [show M3 71 j = fRe F j from h3.re j (by omega)]
          refine lm_G_br (b := (sId (begA F (stopW F s) lf (allS F (stopW F s) s (fM F)) j) j) < (fRe F j)) (t := 108) (S' := []) rfl (fun h6 => ?_) (fun h6 => ?_)
          ·
            refine lm_G_sg 1 (pc' := 111) (L' := [some (.ref 64), some (.int (msk (stopW F s) (fN F))), some (.int ((nI j) + 1))]) (S' := []) (σ' := lm_T M3 v G) rfl trivial ?_
            rw [nI_1]
            refine lm_G_sg 1 (pc' := 55) (L' := [some (.ref 64), some (.int (msk (stopW F s) (fN F))), some (.int (nI (j + 1)))]) (S' := []) (σ' := lm_T M3 v G) rfl trivial ?_
            have e1 : begA F (stopW F s) lf (allS F (stopW F s) s (fM F)) (j + 1) = (begA F (stopW F s) lf (allS F (stopW F s) s (fM F)) j) := by
              simp only [begA]
              rw [decide_eq_false (Int32.not_le.mpr h6)]
              simp
            rw [e1] at ih2
            exact ih2 _ (⟨h3, f3, t3⟩)
          ·
            refine lm_G_sg 2 (pc' := 105) (L' := [some (.ref 64), some (.int (msk (stopW F s) (fN F))), some (.int (nI j))]) (S' := [.int (nI j), .ref 64]) (σ' := lm_T M3 v G) rfl trivial ?_
            refine lm_G_ca (j := 192) (as := [.ref 64, .int (nI j)]) (rest := []) rfl (Or.inl rfl) (Nat.le_of_ble_eq_true rfl) (Nat.le_of_ble_eq_true rfl) (Nat.le_of_ble_eq_true rfl) (Nat.le_of_ble_eq_true rfl) rfl ?_
            refine m_beginOrJoin hF h3 (ok_beg (ok_all hs _) _) hj2 (Classical.not_not.mp h4) (fun M4 h7 f7 t7 => ?_)
            show lm_G X (d + 4) 193 106 0 0 108 [some (.ref 64), some (.int (msk (stopW F s) (fN F))), some (.int (nI j))] [] (lm_T M4 v G) Q
            refine lm_G_sg 1 (pc' := 111) (L' := [some (.ref 64), some (.int (msk (stopW F s) (fN F))), some (.int ((nI j) + 1))]) (S' := []) (σ' := lm_T M4 v G) rfl trivial ?_
            rw [nI_1]
            refine lm_G_sg 1 (pc' := 55) (L' := [some (.ref 64), some (.int (msk (stopW F s) (fN F))), some (.int (nI (j + 1)))]) (S' := []) (σ' := lm_T M4 v G) rfl trivial ?_
            have e1 : begA F (stopW F s) lf (allS F (stopW F s) s (fM F)) (j + 1) = bojS F (begA F (stopW F s) lf (allS F (stopW F s) s (fM F)) j) j := by
              simp only [begA]
              rw [e5.1, e5.2, decide_eq_true (Classical.not_not.mp h4), decide_eq_true (Int32.not_lt.mp h6)]
              rfl
            rw [e1] at ih2
            exact ih2 _ (⟨h7, FrM_tr f3 f7, t7.trans t3⟩)
    ·
      revert hI2
      revert zz
      intro M3 hI2
      replace hI2 : RM M3 F (begA F (stopW F s) lf (allS F (stopW F s) s (fM F)) (fN F)) ∧ FrM M M3 ∧ M3 64 41 = M 64 41 + hourD F s := hI2
      show lm_G X (d + 4) 193 106 0 0 55 [some (.ref 64), some (.int (msk (stopW F s) (fN F))), some (.int (nI (fN F)))] [] (lm_T M3 v G) Q
      obtain ⟨h3, f3, t3⟩ := hI2
      refine lm_G_sg 5 (pc' := 62) (L' := [some (.ref 64), some (.int (msk (stopW F s) (fN F))), some (.int (nI (fN F)))]) (S' := [.int (M3 68 0), .int (nI (fN F))]) (σ' := lm_T M3 v G) rfl ⟨(lm_inb_ok rfl), trivial, trivial⟩ ?_
      rw [show M3 68 0 = nI (fN F) from h3.n]
      refine lm_G_br (b := (nI (fN F)) ≤ (nI (fN F))) (t := 114) (S' := []) rfl (fun hc => ?_) (fun hc => absurd (nI_le (Nat.le_refl _) (by omega)) hc)
      refine lm_G_sg 2 (pc' := 116) (L' := [some (.ref 64), some (.int (msk (stopW F s) (fN F))), some (.int 0)]) (S' := []) (σ' := lm_T M3 v G) rfl trivial ?_
      refine lm_ind (α := (Nat → Fn)) (St := fun (j : Nat) zz => (fun (M4 : Nat → Fn) => lm_G X (d + 4) 193 106 0 0 116 [some (.ref 64), some (.int (msk (stopW F s) (fN F))), some (.int (nI j))] [] (lm_T M4 v G) Q) zz) (Inv := fun (j : Nat) zz => (fun (M4 : Nat → Fn) => RM M4 F (tickS (begA F (stopW F s) lf (allS F (stopW F s) s (fM F)) (fN F)) j) ∧ FrM M M4 ∧ M4 64 41 = M 64 41 + hourD F s) zz) (fN F) (fun j zz hj3 hI3 ih3 => ?_) (fun zz hI3 => ?_) (0) M3 (by omega) ?_
      ·
        revert ih3 hI3
        revert zz
        intro M4 hI3 ih3
        replace hI3 : RM M4 F (tickS (begA F (stopW F s) lf (allS F (stopW F s) s (fM F)) (fN F)) j) ∧ FrM M M4 ∧ M4 64 41 = M 64 41 + hourD F s := hI3
        replace ih3 : ∀ (M4 : Nat → Fn) (_ : RM M4 F (tickS (begA F (stopW F s) lf (allS F (stopW F s) s (fM F)) (fN F)) (j + 1)) ∧ FrM M M4 ∧ M4 64 41 = M 64 41 + hourD F s), lm_G X (d + 4) 193 106 0 0 116 [some (.ref 64), some (.int (msk (stopW F s) (fN F))), some (.int (nI (j + 1)))] [] (lm_T M4 v G) Q := fun M4 q => ih3 M4 q
        show lm_G X (d + 4) 193 106 0 0 116 [some (.ref 64), some (.int (msk (stopW F s) (fN F))), some (.int (nI j))] [] (lm_T M4 v G) Q
        obtain ⟨h4, f4, t4⟩ := hI3
        refine lm_G_sg 5 (pc' := 123) (L' := [some (.ref 64), some (.int (msk (stopW F s) (fN F))), some (.int (nI j))]) (S' := [.int (M4 68 0), .int (nI j)]) (σ' := lm_T M4 v G) rfl ⟨(lm_inb_ok rfl), trivial, trivial⟩ ?_
        rw [show M4 68 0 = nI (fN F) from h4.n]
        refine lm_G_br (b := (nI (fN F)) ≤ (nI j)) (t := 174) (S' := []) rfl (fun hc => absurd hc (nI_ge hj3 (by omega))) (fun hc => ?_)
        refine lm_G_sg 4 (pc' := 132) (L' := [some (.ref 64), some (.int (msk (stopW F s) (fN F))), some (.int (nI j))]) (S' := [.int (M4 82 (nI j).toNatClampNeg)]) (σ' := lm_T M4 v G) rfl ⟨(vp_in_nI (by omega) (by omega)), trivial, trivial⟩ ?_
        rw [show (nI j).toNatClampNeg = j from nI_clamp (by omega)]
        rw [show M4 82 j = sHu (tickS (begA F (stopW F s) lf (allS F (stopW F s) s (fM F)) (fN F)) j) j from h4.hu j (by omega)]
        refine lm_G_sg 1 (pc' := 133) (L' := [some (.ref 64), some (.int (msk (stopW F s) (fN F))), some (.int (nI j))]) (S' := [.int (-1), .int (sHu (tickS (begA F (stopW F s) lf (allS F (stopW F s) s (fM F)) (fN F)) j) j)]) (σ' := lm_T M4 v G) rfl trivial ?_
        refine lm_G_br (b := (sHu (tickS (begA F (stopW F s) lf (allS F (stopW F s) s (fM F)) (fN F)) j) j) = (-1)) (t := 149) (S' := []) rfl (fun h5 => ?_) (fun h5 => ?_)
        ·
          refine lm_G_sg 8 (pc' := 162) (L' := [some (.ref 64), some (.int (msk (stopW F s) (fN F))), some (.int (nI j))]) (S' := [.int (M4 84 (nI j).toNatClampNeg), .int 99, .int (nI j), .ref 84]) (σ' := lm_T M4 v G) rfl ⟨(vp_in_nI (by omega) (by omega)), trivial, trivial⟩ ?_
          rw [show (nI j).toNatClampNeg = j from nI_clamp (by omega)]
          rw [show M4 84 j = sId (tickS (begA F (stopW F s) lf (allS F (stopW F s) s (fM F)) (fN F)) j) j from h4.id j (by omega)]
          refine lm_G_sg 4 (pc' := 168) (L' := [some (.ref 64), some (.int (msk (stopW F s) (fN F))), some (.int (nI j))]) (S' := []) (σ' := lm_T (lm_wr M4 84 ((nI j).toNatClampNeg) (if ((sId (tickS (begA F (stopW F s) lf (allS F (stopW F s) s (fM F)) (fN F)) j) j) + 1) < 99 then ((sId (tickS (begA F (stopW F s) lf (allS F (stopW F s) s (fM F)) (fN F)) j) j) + 1) else 99)) v G) rfl ⟨trivial, (Nat.le_of_ble_eq_true rfl), (vp_in_nI (by omega) (by omega)), trivial, trivial⟩ ?_
          rw [show (nI j).toNatClampNeg = j from nI_clamp (by omega)]
          refine lm_G_sg 1 (pc' := 171) (L' := [some (.ref 64), some (.int (msk (stopW F s) (fN F))), some (.int ((nI j) + 1))]) (S' := []) (σ' := lm_T (lm_wr M4 84 j (if ((sId (tickS (begA F (stopW F s) lf (allS F (stopW F s) s (fM F)) (fN F)) j) j) + 1) < 99 then ((sId (tickS (begA F (stopW F s) lf (allS F (stopW F s) s (fM F)) (fN F)) j) j) + 1) else 99)) v G) rfl trivial ?_
          rw [nI_1]
          refine lm_G_sg 1 (pc' := 116) (L' := [some (.ref 64), some (.int (msk (stopW F s) (fN F))), some (.int (nI (j + 1)))]) (S' := []) (σ' := lm_T (lm_wr M4 84 j (if ((sId (tickS (begA F (stopW F s) lf (allS F (stopW F s) s (fM F)) (fN F)) j) j) + 1) < 99 then ((sId (tickS (begA F (stopW F s) lf (allS F (stopW F s) s (fM F)) (fN F)) j) j) + 1) else 99)) v G) rfl trivial ?_
          exact ih3 _ (⟨RM_tick2 h4 h5, FrM_wr f4 rfl (by decide), t4⟩)
        ·
          refine lm_G_sg 5 (pc' := 143) (L' := [some (.ref 64), some (.int (msk (stopW F s) (fN F))), some (.int (nI j))]) (S' := [.int (M4 83 (nI j).toNatClampNeg), .int (nI j), .ref 83]) (σ' := lm_T M4 v G) rfl ⟨(vp_in_nI (by omega) (by omega)), trivial, trivial⟩ ?_
          rw [show (nI j).toNatClampNeg = j from nI_clamp (by omega)]
          rw [show M4 83 j = sHd (tickS (begA F (stopW F s) lf (allS F (stopW F s) s (fM F)) (fN F)) j) j from h4.hd j (by omega)]
          refine lm_G_sg 3 (pc' := 146) (L' := [some (.ref 64), some (.int (msk (stopW F s) (fN F))), some (.int (nI j))]) (S' := []) (σ' := lm_T (lm_wr M4 83 ((nI j).toNatClampNeg) ((sHd (tickS (begA F (stopW F s) lf (allS F (stopW F s) s (fM F)) (fN F)) j) j) + 1)) v G) rfl ⟨(vp_in_nI (by omega) (by omega)), trivial, trivial⟩ ?_
          rw [show (nI j).toNatClampNeg = j from nI_clamp (by omega)]
          refine lm_G_sg 2 (pc' := 171) (L' := [some (.ref 64), some (.int (msk (stopW F s) (fN F))), some (.int ((nI j) + 1))]) (S' := []) (σ' := lm_T (lm_wr M4 83 j ((sHd (tickS (begA F (stopW F s) lf (allS F (stopW F s) s (fM F)) (fN F)) j) j) + 1)) v G) rfl trivial ?_
          rw [nI_1]
          refine lm_G_sg 1 (pc' := 116) (L' := [some (.ref 64), some (.int (msk (stopW F s) (fN F))), some (.int (nI (j + 1)))]) (S' := []) (σ' := lm_T (lm_wr M4 83 j ((sHd (tickS (begA F (stopW F s) lf (allS F (stopW F s) s (fM F)) (fN F)) j) j) + 1)) v G) rfl trivial ?_
          exact ih3 _ (⟨RM_tick1 h4 h5, FrM_wr f4 rfl (by decide), t4⟩)
      ·
        revert hI3
        revert zz
        intro M4 hI3
        replace hI3 : RM M4 F (tickS (begA F (stopW F s) lf (allS F (stopW F s) s (fM F)) (fN F)) (fN F)) ∧ FrM M M4 ∧ M4 64 41 = M 64 41 + hourD F s := hI3
        show lm_G X (d + 4) 193 106 0 0 116 [some (.ref 64), some (.int (msk (stopW F s) (fN F))), some (.int (nI (fN F)))] [] (lm_T M4 v G) Q
        obtain ⟨h4, f4, t4⟩ := hI3
        refine lm_G_sg 5 (pc' := 123) (L' := [some (.ref 64), some (.int (msk (stopW F s) (fN F))), some (.int (nI (fN F)))]) (S' := [.int (M4 68 0), .int (nI (fN F))]) (σ' := lm_T M4 v G) rfl ⟨(lm_inb_ok rfl), trivial, trivial⟩ ?_
        rw [show M4 68 0 = nI (fN F) from h4.n]
        refine lm_G_br (b := (nI (fN F)) ≤ (nI (fN F))) (t := 174) (S' := []) rfl (fun hc => ?_) (fun hc => absurd (nI_le (Nat.le_refl _) (by omega)) hc)
        refine lm_G_sg 3 (pc' := 179) (L' := [some (.ref 64), some (.int (msk (stopW F s) (fN F))), some (.int (nI (fN F)))]) (S' := [.int (M4 64 36), .ref 64]) (σ' := lm_T M4 v G) rfl trivial ?_
        rw [show M4 64 36 = sHr (tickS (begA F (stopW F s) lf (allS F (stopW F s) s (fM F)) (fN F)) (fN F)) from h4.hr]
        refine lm_G_sg 3 (pc' := 184) (L' := [some (.ref 64), some (.int (msk (stopW F s) (fN F))), some (.int (nI (fN F)))]) (S' := []) (σ' := lm_T (lm_wr M4 64 36 ((sHr (tickS (begA F (stopW F s) lf (allS F (stopW F s) s (fM F)) (fN F)) (fN F))) + 1)) v G) rfl ⟨trivial, trivial, trivial⟩ ?_
        exact lm_G_re rfl trivial (Nat.zero_le _) (Nat.zero_le _) (hQ _ (RM_hour h4) (FrM_w64 f4 (Or.inl rfl)) (by rw [wr_at (by decide)]; exact t4))
      ·
        try dsimp only
        exact ⟨h3, f3, t3⟩
    ·
      try dsimp only
      exact ⟨h2, g2, t2⟩
  ·
    try dsimp only
    exact Fr_rf _ _
set_option maxRecDepth 10000 in
theorem m_goOn {X : lm_X} {d v : Nat} {M : Nat → Nat → Int32} {G : Nat → Nat → Int64} {Q : lm_O → lm_S → Prop} {F : Fa} {s : Sc} {lf : Nat → Bool} {n : Nat} (hF : okF F) (h : RM M F s) (hs : okS F s) (hl : ∀ p, p < fN F → bitW (M 64 42) p = lf p) (hn2 : n < 2 ^ 31) (hQ : ∀ M1, RM M1 F (hrsS F lf s n) → FrM M M1 → M1 64 41 = M 64 41 + hrsD F lf s n → Q (.inl none) (lm_T M1 v G)) : lm_Q X (d + 5) 194 [.ref 64, .int (nI n)] (lm_T M v G) Q := by
  have hn := hF.n
  have hm := hF.m
  show lm_G X (d + 5) 194 106 0 0 0 [some (.ref 64), some (.int (nI n)), none] [] (lm_T M v G) Q
  refine lm_G_sg 2 (pc' := 2) (L' := [some (.ref 64), some (.int (nI n)), some (.int 0)]) (S' := []) (σ' := lm_T M v G) rfl trivial ?_
  refine lm_ind (α := (Nat → Fn)) (St := fun (j : Nat) zz => (fun (M1 : Nat → Fn) => lm_G X (d + 5) 194 106 0 0 2 [some (.ref 64), some (.int (nI n)), some (.int (nI j))] [] (lm_T M1 v G) Q) zz) (Inv := fun (j : Nat) zz => (fun (M1 : Nat → Fn) => RM M1 F (hrsS F lf s j) ∧ FrM M M1 ∧ M1 64 41 = M 64 41 + hrsD F lf s j) zz) (n) (fun j zz hj hI ih => ?_) (fun zz hI => ?_) (0) M (by omega) ?_
  ·
    revert ih hI
    revert zz
    intro M1 hI ih
    replace hI : RM M1 F (hrsS F lf s j) ∧ FrM M M1 ∧ M1 64 41 = M 64 41 + hrsD F lf s j := hI
    replace ih : ∀ (M1 : Nat → Fn) (_ : RM M1 F (hrsS F lf s (j + 1)) ∧ FrM M M1 ∧ M1 64 41 = M 64 41 + hrsD F lf s (j + 1)), lm_G X (d + 5) 194 106 0 0 2 [some (.ref 64), some (.int (nI n)), some (.int (nI (j + 1)))] [] (lm_T M1 v G) Q := fun M1 q => ih M1 q
    show lm_G X (d + 5) 194 106 0 0 2 [some (.ref 64), some (.int (nI n)), some (.int (nI j))] [] (lm_T M1 v G) Q
    obtain ⟨h1, f1, t1⟩ := hI
    refine lm_G_sg 2 (pc' := 4) (L' := [some (.ref 64), some (.int (nI n)), some (.int (nI j))]) (S' := [.int (nI n), .int (nI j)]) (σ' := lm_T M1 v G) rfl trivial ?_
    refine lm_G_br (b := (nI n) ≤ (nI j)) (t := 17) (S' := []) rfl (fun hc => absurd hc (nI_ge hj (by omega))) (fun hc => ?_)
    refine lm_G_sg 1 (pc' := 8) (L' := [some (.ref 64), some (.int (nI n)), some (.int (nI j))]) (S' := [.ref 64]) (σ' := lm_T M1 v G) rfl trivial ?_
    refine lm_G_ca (j := 193) (as := [.ref 64]) (rest := []) rfl (Or.inl rfl) (Nat.le_of_ble_eq_true rfl) (Nat.le_of_ble_eq_true rfl) (Nat.le_of_ble_eq_true rfl) (Nat.le_of_ble_eq_true rfl) rfl ?_
    refine m_anHour hF h1 (ok_hrs hs _) (lf := lf) (by intro q hq; rw [f1.2 42 (by decide) (by decide)]; exact hl q hq) (fun M2 h2 f2 t2 => ?_)
    show lm_G X (d + 5) 194 106 0 0 11 [some (.ref 64), some (.int (nI n)), some (.int (nI j))] [] (lm_T M2 v G) Q
    refine lm_G_sg 1 (pc' := 14) (L' := [some (.ref 64), some (.int (nI n)), some (.int ((nI j) + 1))]) (S' := []) (σ' := lm_T M2 v G) rfl trivial ?_
    rw [nI_1]
    refine lm_G_sg 1 (pc' := 2) (L' := [some (.ref 64), some (.int (nI n)), some (.int (nI (j + 1)))]) (S' := []) (σ' := lm_T M2 v G) rfl trivial ?_
    exact ih _ (⟨h2, FrM_tr f1 f2, by rw [t2, t1, Int32.add_assoc]; rfl⟩)
  ·
    revert hI
    revert zz
    intro M1 hI
    replace hI : RM M1 F (hrsS F lf s n) ∧ FrM M M1 ∧ M1 64 41 = M 64 41 + hrsD F lf s n := hI
    show lm_G X (d + 5) 194 106 0 0 2 [some (.ref 64), some (.int (nI n)), some (.int (nI n))] [] (lm_T M1 v G) Q
    obtain ⟨h1, f1, t1⟩ := hI
    refine lm_G_sg 2 (pc' := 4) (L' := [some (.ref 64), some (.int (nI n)), some (.int (nI n))]) (S' := [.int (nI n), .int (nI n)]) (σ' := lm_T M1 v G) rfl trivial ?_
    refine lm_G_br (b := (nI n) ≤ (nI n)) (t := 17) (S' := []) rfl (fun hc => ?_) (fun hc => absurd (nI_le (Nat.le_refl _) (by omega)) hc)
    exact lm_G_re rfl trivial (Nat.zero_le _) (Nat.zero_le _) (hQ _ h1 f1 t1)
  ·
    try dsimp only
    exact ⟨h, FrM_rf _, by simp [hrsD]⟩
