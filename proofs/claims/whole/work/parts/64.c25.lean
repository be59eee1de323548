/-! ===== contracts: sights, the class ===== -/
set_option maxRecDepth 10000 in
theorem c_addSight {X : lm_X} {d v : Nat} {M : Nat → Nat → Int32} {G : Nat → Nat → Int64} {Q : lm_O → lm_S → Prop} {F : Fa} {B : Bk} {p n : Nat} {y : Int32} (hG : bkG B ≤ 8) (hb : CB 52 M F B) (hQ : (bkG B < 8 → ∀ M1, CB 52 M1 F (seB B p y n) → Fr frG2 M M1 → Q (.inl (some (.int 1))) (lm_T M1 v G)) ∧ (¬ bkG B < 8 → Q (.inl (some (.int 0))) (lm_T M v G))) : lm_Q X d 6 [.ref 52, .int (nI p), .int y, .int (nI n)] (lm_T M v G) Q := by
  show lm_G X d 6 106 0 0 0 [some (.ref 52), some (.int (nI p)), some (.int y), some (.int (nI n)), none] [] (lm_T M v G) Q
  refine lm_G_sg 2 (pc' := 4) (L' := [some (.ref 52), some (.int (nI p)), some (.int y), some (.int (nI n)), none]) (S' := [.int (M 52 4)]) (σ' := lm_T M v G) rfl trivial ?_
  rw [show M 52 4 = nI (bkG B) from hb.2.1]
  refine lm_G_sg 1 (pc' := 6) (L' := [some (.ref 52), some (.int (nI p)), some (.int y), some (.int (nI n)), none]) (S' := [.int 8, .int (nI (bkG B))]) (σ' := lm_T M v G) rfl trivial ?_
  refine lm_G_br (b := (nI (bkG B)) < 8) (t := 11) (S' := []) rfl (fun h1 => ?_) (fun h1 => ?_)
  rotate_left
  ·
    have e0 : ¬ bkG B < 8 := fun w => h1 (nI_lt (b := 8) w (by omega))
    refine lm_G_sg 1 (pc' := 10) (L' := [some (.ref 52), some (.int (nI p)), some (.int y), some (.int (nI n)), none]) (S' := [.int 0]) (σ' := lm_T M v G) rfl trivial ?_
    exact lm_G_re rfl (by decide) (Nat.zero_le _) (Nat.zero_le _) (hQ.2 e0)
  ·
    have e0 : bkG B < 8 := (nI_ltI (b := 8) (by omega) (by omega)).mp h1
    refine lm_G_sg 2 (pc' := 15) (L' := [some (.ref 52), some (.int (nI p)), some (.int y), some (.int (nI n)), none]) (S' := [.int (M 52 4)]) (σ' := lm_T M v G) rfl trivial ?_
    rw [show M 52 4 = nI (bkG B) from hb.2.1]
    refine lm_G_sg 2 (pc' := 17) (L' := [some (.ref 52), some (.int (nI p)), some (.int y), some (.int (nI n)), none]) (S' := [.int ((nI (bkG B)) * 3)]) (σ' := lm_T M v G) rfl trivial ?_
    rw [show (nI (bkG B)) * 3 = nI ((bkG B) * 3) from pk_mul (bkG B) 3]
    refine lm_G_sg 6 (pc' := 27) (L' := [some (.ref 52), some (.int (nI p)), some (.int y), some (.int (nI n)), some (.int (nI ((bkG B) * 3)))]) (S' := []) (σ' := lm_T (lm_wr M 55 ((nI ((bkG B) * 3)).toNatClampNeg) (nI p)) v G) rfl ⟨(vp_in_nI (by omega) (by omega)), trivial, trivial⟩ ?_
    rw [show (nI ((bkG B) * 3)).toNatClampNeg = ((bkG B) * 3) from nI_clamp (by omega)]
    refine lm_G_sg 5 (pc' := 35) (L' := [some (.ref 52), some (.int (nI p)), some (.int y), some (.int (nI n)), some (.int (nI ((bkG B) * 3)))]) (S' := [.int ((nI ((bkG B) * 3)) + 1), .ref 55]) (σ' := lm_T (lm_wr M 55 ((bkG B) * 3) (nI p)) v G) rfl trivial ?_
    rw [show (nI ((bkG B) * 3)) + 1 = nI (((bkG B) * 3) + 1) from nI_add ((bkG B) * 3) 1]
    refine lm_G_sg 2 (pc' := 37) (L' := [some (.ref 52), some (.int (nI p)), some (.int y), some (.int (nI n)), some (.int (nI ((bkG B) * 3)))]) (S' := []) (σ' := lm_T (lm_wr (lm_wr M 55 ((bkG B) * 3) (nI p)) 55 ((nI (((bkG B) * 3) + 1)).toNatClampNeg) y) v G) rfl ⟨(vp_in_nI (by omega) (by omega)), trivial, trivial⟩ ?_
    rw [show (nI (((bkG B) * 3) + 1)).toNatClampNeg = (((bkG B) * 3) + 1) from nI_clamp (by omega)]
    refine lm_G_sg 5 (pc' := 45) (L' := [some (.ref 52), some (.int (nI p)), some (.int y), some (.int (nI n)), some (.int (nI ((bkG B) * 3)))]) (S' := [.int ((nI ((bkG B) * 3)) + 2), .ref 55]) (σ' := lm_T (lm_wr (lm_wr M 55 ((bkG B) * 3) (nI p)) 55 (((bkG B) * 3) + 1) y) v G) rfl trivial ?_
    rw [show (nI ((bkG B) * 3)) + 2 = nI (((bkG B) * 3) + 2) from nI_add ((bkG B) * 3) 2]
    refine lm_G_sg 2 (pc' := 47) (L' := [some (.ref 52), some (.int (nI p)), some (.int y), some (.int (nI n)), some (.int (nI ((bkG B) * 3)))]) (S' := []) (σ' := lm_T (lm_wr (lm_wr (lm_wr M 55 ((bkG B) * 3) (nI p)) 55 (((bkG B) * 3) + 1) y) 55 ((nI (((bkG B) * 3) + 2)).toNatClampNeg) (nI n)) v G) rfl ⟨(vp_in_nI (by omega) (by omega)), trivial, trivial⟩ ?_
    rw [show (nI (((bkG B) * 3) + 2)).toNatClampNeg = (((bkG B) * 3) + 2) from nI_clamp (by omega)]
    refine lm_G_sg 3 (pc' := 52) (L' := [some (.ref 52), some (.int (nI p)), some (.int y), some (.int (nI n)), some (.int (nI ((bkG B) * 3)))]) (S' := [.int (M 52 4), .ref 52]) (σ' := lm_T (lm_wr (lm_wr (lm_wr M 55 ((bkG B) * 3) (nI p)) 55 (((bkG B) * 3) + 1) y) 55 (((bkG B) * 3) + 2) (nI n)) v G) rfl trivial ?_
    rw [show M 52 4 = nI (bkG B) from hb.2.1]
    refine lm_G_sg 2 (pc' := 54) (L' := [some (.ref 52), some (.int (nI p)), some (.int y), some (.int (nI n)), some (.int (nI ((bkG B) * 3)))]) (S' := [.int ((nI (bkG B)) + 1), .ref 52]) (σ' := lm_T (lm_wr (lm_wr (lm_wr M 55 ((bkG B) * 3) (nI p)) 55 (((bkG B) * 3) + 1) y) 55 (((bkG B) * 3) + 2) (nI n)) v G) rfl trivial ?_
    rw [show (nI (bkG B)) + 1 = nI ((bkG B) + 1) from nI_add (bkG B) 1]
    refine lm_G_sg 2 (pc' := 58) (L' := [some (.ref 52), some (.int (nI p)), some (.int y), some (.int (nI n)), some (.int (nI ((bkG B) * 3)))]) (S' := [.int 1]) (σ' := lm_T (lm_wr (lm_wr (lm_wr (lm_wr M 55 ((bkG B) * 3) (nI p)) 55 (((bkG B) * 3) + 1) y) 55 (((bkG B) * 3) + 2) (nI n)) 52 4 (nI ((bkG B) + 1))) v G) rfl ⟨trivial, trivial, trivial⟩ ?_
    have em : bkG B * 3 = 3 * bkG B := Nat.mul_comm _ _
    rw [em]
    exact lm_G_re rfl (by decide) (Nat.zero_le _) (Nat.zero_le _) (hQ.1 e0 _ (CB_se hb e0 rfl rfl rfl rfl (by rw [wr_row (by decide), wr_at (by omega), wr_at (by omega), wr_same]) (by rw [wr_row (by decide), wr_at (by omega), wr_same]) (by rw [wr_row (by decide), wr_same]) (fun i hi => by rw [wr_row (by decide), wr_at (by omega), wr_at (by omega), wr_at (by omega)])) (Fr_wr (Fr_wr (Fr_wr (Fr_wr (Fr_rf _ _) rfl) rfl) rfl) rfl))
set_option maxRecDepth 10000 in
theorem c_see {X : lm_X} {d v : Nat} {M : Nat → Nat → Int32} {G : Nat → Nat → Int64} {Q : lm_O → lm_S → Prop} {F : Fa} {s : Sc} {B : Bk} {x y z : Int32} (hF : okF F) (hc0 : CS M F s B) (hG : bkG B ≤ 8) (hQ : ∀ M1, CS M1 F s (seeB F B x y z) → Fr frG M M1 → Q (cO (aSee F B x y z)) (lm_T M1 v G)) : lm_Q X (d + 1) 113 [.ref 0, .int x, .int y, .int z] (lm_T M v G) Q := by
  have hn := hF.n
  have hm := hF.m
  have h := hc0.1
  show lm_G X (d + 1) 113 106 0 0 0 [some (.ref 0), some (.int x), some (.int y), some (.int z), none] [] (lm_T M v G) Q
  refine lm_G_sg 2 (pc' := 2) (L' := [some (.ref 0), some (.int x), some (.int y), some (.int z), none]) (S' := [.int x, .ref 0]) (σ' := lm_T M v G) rfl trivial ?_
  refine lm_G_ca (j := 133) (as := [.ref 0, .int x]) (rest := []) rfl (Or.inl rfl) (Nat.le_of_ble_eq_true rfl) (Nat.le_of_ble_eq_true rfl) (Nat.le_of_ble_eq_true rfl) (Nat.le_of_ble_eq_true rfl) rfl ?_
  refine c_isPerson hF h ?_
  show lm_G X (d + 1) 113 106 0 0 5 [some (.ref 0), some (.int x), some (.int y), some (.int z), none] [.int (b2i (isP (fN F) x))] (lm_T M v G) Q
  rcases Bool.eq_false_or_eq_true (isP (fN F) x) with hx | hx
  rotate_left
  ·
    rw [hx]
    show lm_G X (d + 1) 113 106 0 0 5 [some (.ref 0), some (.int x), some (.int y), some (.int z), none] [.int 0] (lm_T M v G) Q
    simp +decide only [aSee, seeB, hx, if_true, if_false, Bool.and_true, Bool.true_and, Bool.and_self, Bool.false_and, Bool.and_false, Bool.false_eq_true] at hQ
    refine lm_G_ca (j := 137) (as := [.int 0]) (rest := []) rfl (Or.inl rfl) (Nat.le_of_ble_eq_true rfl) (Nat.le_of_ble_eq_true rfl) (Nat.le_of_ble_eq_true rfl) (Nat.le_of_ble_eq_true rfl) rfl ?_
    exact c_mustExistF ⟨by decide, rfl, hQ M hc0 (Fr_rf _ _)⟩
  ·
    rw [hx]
    show lm_G X (d + 1) 113 106 0 0 5 [some (.ref 0), some (.int x), some (.int y), some (.int z), none] [.int 1] (lm_T M v G) Q
    refine lm_G_ca (j := 137) (as := [.int 1]) (rest := []) rfl (Or.inl rfl) (Nat.le_of_ble_eq_true rfl) (Nat.le_of_ble_eq_true rfl) (Nat.le_of_ble_eq_true rfl) (Nat.le_of_ble_eq_true rfl) rfl ?_
    refine c_mustExistT ?_
    show lm_G X (d + 1) 113 106 1 6 8 [some (.ref 0), some (.int x), some (.int y), some (.int z), none] [] (lm_T M v G) Q
    obtain ⟨p, hp, rfl⟩ := isP_nI hx (by omega)
    have cp : (nI p).toNatClampNeg = p := nI_clamp (by omega)
    have k56 : ∀ (hd : dSee F B y z = false), lm_G X (d + 1) 113 106 1 6 56 [some (.ref 0), some (.int (nI p)), some (.int y), some (.int z), none] [] (lm_T M v G) Q := by
      intro hd
      simp +decide only [aSee, seeB, hx, hd, if_true, if_false, Bool.and_true, Bool.true_and, Bool.and_self, Bool.false_and, Bool.and_false, Bool.false_eq_true] at hQ
      refine lm_G_sg 3 (pc' := 61) (L' := [some (.ref 0), some (.int (nI p)), some (.int y), some (.int z), none]) (S' := [.int 2, .ref 52]) (σ' := lm_T M v G) rfl trivial ?_
      refine lm_G_ca (j := 2) (as := [.ref 52, .int 2]) (rest := []) rfl (Or.inl rfl) (Nat.le_of_ble_eq_true rfl) (Nat.le_of_ble_eq_true rfl) (Nat.le_of_ble_eq_true rfl) (Nat.le_of_ble_eq_true rfl) rfl ?_
      refine c_refuse (j := 2) (by omega) ?_
      show lm_G X (d + 1) 113 106 1 6 64 [some (.ref 0), some (.int (nI p)), some (.int y), some (.int z), none] [] (lm_T (lm_wr M 56 2 (M 56 2 + 1)) v G) Q
      refine lm_G_sg 1 (pc' := 65) (L' := [some (.ref 0), some (.int (nI p)), some (.int y), some (.int z), none]) (S' := [.int (-1)]) (σ' := lm_T (lm_wr M 56 2 (M 56 2 + 1)) v G) rfl trivial ?_
      exact lm_G_re rfl trivial (Nat.le_of_ble_eq_true rfl) (Nat.le_of_ble_eq_true rfl) (hQ _ ⟨RC_fr hc0.1 (Fr_wr (p := frG2) (Fr_rf _ _) rfl) (by decide) (by decide), hc0.2.1, CB_rf hc0.2.2 (by omega)⟩ (Fr_wr (Fr_rf _ _) rfl))
    have k21 : ∀ (ey : (decide (y = -1) || isP (fM F) y) = true), lm_G X (d + 1) 113 106 1 6 21 [some (.ref 0), some (.int (nI p)), some (.int y), some (.int z), none] [] (lm_T M v G) Q := by
      intro ey
      refine lm_G_sg 3 (pc' := 25) (L' := [some (.ref 0), some (.int (nI p)), some (.int y), some (.int z), none]) (S' := [.int 20, .int 1, .int z]) (σ' := lm_T M v G) rfl trivial ?_
      refine lm_G_ca (j := 136) (as := [.int z, .int 1, .int 20]) (rest := []) rfl (Or.inl rfl) (Nat.le_of_ble_eq_true rfl) (Nat.le_of_ble_eq_true rfl) (Nat.le_of_ble_eq_true rfl) (Nat.le_of_ble_eq_true rfl) rfl ?_
      refine c_isWithin ?_
      show lm_G X (d + 1) 113 106 1 6 28 [some (.ref 0), some (.int (nI p)), some (.int y), some (.int z), none] [.int (b2i (inR z 1 20))] (lm_T M v G) Q
      refine lm_G_br (b := (b2i (inR z 1 20)) = 0) (t := 35) (S' := []) rfl (fun h2 => ?_) (fun h2 => ?_)
      ·
        refine lm_G_sg 3 (pc' := 40) (L' := [some (.ref 0), some (.int (nI p)), some (.int y), some (.int z), some (.int 0)]) (S' := [.int 0]) (σ' := lm_T M v G) rfl trivial ?_
        refine lm_G_br (b := 0 = 0) (t := 56) (S' := []) rfl (fun h3 => ?_) (fun h3 => absurd rfl h3)
        refine lm_G_jk (L := [some (.ref 0), some (.int (nI p)), some (.int y), some (.int z), none]) ⟨rfl, rfl, rfl, rfl, trivial⟩ ?_
        exact k56 (by unfold dSee; rw [b2i_0 h2, Bool.false_and, Bool.and_false])
      ·
        have hz := b2i_1 h2
        obtain ⟨n, gn, hn20, rfl⟩ := inR_nI1 (n := 20) (by decide) hz
        have cn : (nI n).toNatClampNeg = n := nI_clamp (by omega)
        refine lm_G_sg 4 (pc' := 40) (L' := [some (.ref 0), some (.int (nI p)), some (.int y), some (.int (nI n)), some (.int 1)]) (S' := [.int 1]) (σ' := lm_T M v G) rfl trivial ?_
        refine lm_G_br (b := 1 = 0) (t := 56) (S' := []) rfl (fun h3 => absurd h3 (by decide)) (fun h3 => ?_)
        refine lm_G_sg 5 (pc' := 50) (L' := [some (.ref 0), some (.int (nI p)), some (.int y), some (.int (nI n)), some (.int 1)]) (S' := [.int (nI n), .int y, .int (nI p), .ref 52]) (σ' := lm_T M v G) rfl trivial ?_
        by_cases hg : bkG B < 8
        ·
          refine lm_G_ca (j := 6) (as := [.ref 52, .int (nI p), .int y, .int (nI n)]) (rest := []) rfl (Or.inl rfl) (Nat.le_of_ble_eq_true rfl) (Nat.le_of_ble_eq_true rfl) (Nat.le_of_ble_eq_true rfl) (Nat.le_of_ble_eq_true rfl) rfl ?_
          refine c_addSight (p := p) (n := n) (y := y) hG hc0.2.2 ⟨fun _ M1 b1 f1 => ?_, fun w => absurd hg w⟩
          show lm_G X (d + 1) 113 106 1 6 53 [some (.ref 0), some (.int (nI p)), some (.int y), some (.int (nI n)), some (.int 1)] [.int 1] (lm_T M1 v G) Q
          have hd : dSee F B y (nI n) = true := by
            unfold dSee
            rw [ey, hz, decide_eq_true hg]
            rfl
          simp +decide only [aSee, seeB, hx, hd, cp, cn, if_true, if_false, Bool.and_true, Bool.true_and, Bool.and_self, Bool.false_and, Bool.and_false, Bool.false_eq_true] at hQ
          refine lm_G_br (b := ¬ 1 = 0) (t := 66) (S' := []) rfl (fun h4 => ?_) (fun h4 => absurd (by decide) h4)
          refine lm_G_sg 3 (pc' := 73) (L' := [some (.ref 0), some (.int (nI p)), some (.int y), some (.int (nI n)), some (.int 1)]) (S' := [.int (M1 52 4)]) (σ' := lm_T M1 v G) rfl trivial ?_
          rw [show M1 52 4 = nI (bkG B + 1) from b1.2.1]
          exact lm_G_re rfl trivial (Nat.le_of_ble_eq_true rfl) (Nat.le_of_ble_eq_true rfl) (hQ _ ⟨RC_fr hc0.1 f1 (by decide) (by decide), (congrFun (f1 28 rfl) 12).trans hc0.2.1, b1⟩ (Fr_mn f1 (fun _ => frGG)))
        ·
          refine lm_G_ca (j := 6) (as := [.ref 52, .int (nI p), .int y, .int (nI n)]) (rest := []) rfl (Or.inl rfl) (Nat.le_of_ble_eq_true rfl) (Nat.le_of_ble_eq_true rfl) (Nat.le_of_ble_eq_true rfl) (Nat.le_of_ble_eq_true rfl) rfl ?_
          refine c_addSight (p := p) (n := n) (y := y) hG hc0.2.2 ⟨fun w => absurd w hg, fun _ => ?_⟩
          show lm_G X (d + 1) 113 106 1 6 53 [some (.ref 0), some (.int (nI p)), some (.int y), some (.int (nI n)), some (.int 1)] [.int 0] (lm_T M v G) Q
          refine lm_G_br (b := ¬ 0 = 0) (t := 66) (S' := []) rfl (fun h4 => absurd rfl h4) (fun h4 => ?_)
          refine lm_G_jk (L := [some (.ref 0), some (.int (nI p)), some (.int y), some (.int (nI n)), none]) ⟨rfl, rfl, rfl, rfl, trivial⟩ ?_
          exact k56 (by unfold dSee; rw [decide_eq_false hg, Bool.and_false, Bool.and_false])
    refine lm_G_sg 2 (pc' := 10) (L' := [some (.ref 0), some (.int (nI p)), some (.int y), some (.int z), none]) (S' := [.int (-1), .int y]) (σ' := lm_T M v G) rfl trivial ?_
    refine lm_G_br (b := y = (-1)) (t := 21) (S' := []) rfl (fun h1 => ?_) (fun h1 => ?_)
    ·
      exact k21 (by rw [h1]; rfl)
    ·
      refine lm_G_sg 2 (pc' := 15) (L' := [some (.ref 0), some (.int (nI p)), some (.int y), some (.int z), none]) (S' := [.int y, .ref 0]) (σ' := lm_T M v G) rfl trivial ?_
      refine lm_G_ca (j := 134) (as := [.ref 0, .int y]) (rest := []) rfl (Or.inl rfl) (Nat.le_of_ble_eq_true rfl) (Nat.le_of_ble_eq_true rfl) (Nat.le_of_ble_eq_true rfl) (Nat.le_of_ble_eq_true rfl) rfl ?_
      refine c_isTune hF h ?_
      show lm_G X (d + 1) 113 106 1 6 18 [some (.ref 0), some (.int (nI p)), some (.int y), some (.int z), none] [.int (b2i (isP (fM F) y))] (lm_T M v G) Q
      refine lm_G_br (b := (b2i (isP (fM F) y)) = 0) (t := 35) (S' := []) rfl (fun h2 => ?_) (fun h2 => ?_)
      ·
        refine lm_G_sg 3 (pc' := 40) (L' := [some (.ref 0), some (.int (nI p)), some (.int y), some (.int z), some (.int 0)]) (S' := [.int 0]) (σ' := lm_T M v G) rfl trivial ?_
        refine lm_G_br (b := 0 = 0) (t := 56) (S' := []) rfl (fun h3 => ?_) (fun h3 => absurd rfl h3)
        refine lm_G_jk (L := [some (.ref 0), some (.int (nI p)), some (.int y), some (.int z), none]) ⟨rfl, rfl, rfl, rfl, trivial⟩ ?_
        exact k56 (by unfold dSee; rw [b2i_0 h2, decide_eq_false h1]; rfl)
      ·
        exact k21 (by rw [b2i_1 h2, Bool.or_true])
set_option maxRecDepth 10000 in
theorem c_lastSight {X : lm_X} {d v : Nat} {M : Nat → Nat → Int32} {G : Nat → Nat → Int64} {Q : lm_O → lm_S → Prop} {F : Fa} {B : Bk} (hb : CB 52 M F B) (hG : bkG B ≤ 8) (hs8 : ∀ i, i < bkG B → bkP B i < fN F ∧ 1 ≤ bkH B i ∧ bkH B i ≤ 20) (hQ : Q (.inl (some (.int (nI (mxN (bkH B) (bkG B)))))) (lm_T M v G)) : lm_Q X d 7 [.ref 52] (lm_T M v G) Q := by
  show lm_G X d 7 106 0 0 0 [some (.ref 52), none, none] [] (lm_T M v G) Q
  refine lm_G_sg 4 (pc' := 4) (L' := [some (.ref 52), some (.int 0), some (.int 0)]) (S' := []) (σ' := lm_T M v G) rfl trivial ?_
  refine lm_ind (α := Unit) (St := fun (j : Nat) zz => lm_G X d 7 106 0 0 4 [some (.ref 52), some (.int (nI (mxN (bkH B) j))), some (.int (nI j))] [] (lm_T M v G) Q) (Inv := fun (j : Nat) zz => True) (bkG B) (fun j zz hj hI ih => ?_) (fun zz hI => ?_) (0) () (by omega) ?_
  ·
    replace hI : True := hI
    replace ih : ∀ (_ : True), lm_G X d 7 106 0 0 4 [some (.ref 52), some (.int (nI (mxN (bkH B) (j + 1)))), some (.int (nI (j + 1)))] [] (lm_T M v G) Q := fun q => ih () q
    show lm_G X d 7 106 0 0 4 [some (.ref 52), some (.int (nI (mxN (bkH B) j))), some (.int (nI j))] [] (lm_T M v G) Q
    have m1 : mxN (bkH B) j ≤ 20 := mxN_ub (fun i hi => (hs8 i (by omega)).2.2)
    have m2 := (hs8 j hj).2.2
    refine lm_G_sg 3 (pc' := 9) (L' := [some (.ref 52), some (.int (nI (mxN (bkH B) j))), some (.int (nI j))]) (S' := [.int (M 52 4), .int (nI j)]) (σ' := lm_T M v G) rfl trivial ?_
    rw [show M 52 4 = nI (bkG B) from hb.2.1]
    refine lm_G_br (b := (nI (bkG B)) ≤ (nI j)) (t := 39) (S' := []) rfl (fun hc => absurd hc (nI_ge hj (by omega))) (fun hc => ?_)
    refine lm_G_sg 2 (pc' := 15) (L' := [some (.ref 52), some (.int (nI (mxN (bkH B) j))), some (.int (nI j))]) (S' := [.int 8, .int (nI j)]) (σ' := lm_T M v G) rfl trivial ?_
    refine lm_G_br (b := 8 ≤ (nI j)) (t := 39) (S' := []) rfl (fun hc => absurd hc (nI_ge (b := 8) (by omega) (by omega))) (fun hc => ?_)
    refine lm_G_sg 6 (pc' := 26) (L' := [some (.ref 52), some (.int (nI (mxN (bkH B) j))), some (.int (nI j))]) (S' := [.int ((nI j) * 3), .ref 55, .int (nI (mxN (bkH B) j))]) (σ' := lm_T M v G) rfl trivial ?_
    rw [show (nI j) * 3 = nI (j * 3) from pk_mul j 3]
    refine lm_G_sg 2 (pc' := 28) (L' := [some (.ref 52), some (.int (nI (mxN (bkH B) j))), some (.int (nI j))]) (S' := [.int ((nI (j * 3)) + 2), .ref 55, .int (nI (mxN (bkH B) j))]) (σ' := lm_T M v G) rfl trivial ?_
    rw [show (nI (j * 3)) + 2 = nI ((j * 3) + 2) from nI_add (j * 3) 2]
    refine lm_G_sg 1 (pc' := 29) (L' := [some (.ref 52), some (.int (nI (mxN (bkH B) j))), some (.int (nI j))]) (S' := [.int (M 55 (nI ((j * 3) + 2)).toNatClampNeg), .int (nI (mxN (bkH B) j))]) (σ' := lm_T M v G) rfl ⟨(vp_in_nI (by omega) (by omega)), trivial, trivial⟩ ?_
    rw [show (nI ((j * 3) + 2)).toNatClampNeg = ((j * 3) + 2) from nI_clamp (by omega)]
    rw [show M 55 ((j * 3) + 2) = nI (bkH B j) from (by rw [show ((j * 3) + 2) = 3 * j + 2 by omega]; exact (hb.2.2.2.1 j hj).2.2)]
    refine lm_G_sg 3 (pc' := 36) (L' := [some (.ref 52), some (.int (if (nI (mxN (bkH B) j)) < (nI (bkH B j)) then (nI (bkH B j)) else (nI (mxN (bkH B) j)))), some (.int ((nI j) + 1))]) (S' := []) (σ' := lm_T M v G) rfl ⟨trivial, (Nat.le_of_ble_eq_true rfl), trivial⟩ ?_
    rw [nI_1]
    refine lm_G_sg 1 (pc' := 4) (L' := [some (.ref 52), some (.int (if (nI (mxN (bkH B) j)) < (nI (bkH B j)) then (nI (bkH B j)) else (nI (mxN (bkH B) j)))), some (.int (nI (j + 1)))]) (S' := []) (σ' := lm_T M v G) rfl trivial ?_
    rw [show (if nI (mxN (bkH B) j) < nI (bkH B j) then nI (bkH B j) else nI (mxN (bkH B) j)) = nI (mxN (bkH B) (j + 1)) from by
      simp only [mxN]
      by_cases w : mxN (bkH B) j < bkH B j
      · rw [if_pos w, if_pos (nI_lt w (by omega))]
      · rw [if_neg w, if_neg (fun q => w ((nI_ltI (by omega) (by omega)).mp q))]]
    exact ih  trivial
  ·
    replace hI : True := hI
    show lm_G X d 7 106 0 0 4 [some (.ref 52), some (.int (nI (mxN (bkH B) (bkG B)))), some (.int (nI (bkG B)))] [] (lm_T M v G) Q
    refine lm_G_sg 3 (pc' := 9) (L' := [some (.ref 52), some (.int (nI (mxN (bkH B) (bkG B)))), some (.int (nI (bkG B)))]) (S' := [.int (M 52 4), .int (nI (bkG B))]) (σ' := lm_T M v G) rfl trivial ?_
    rw [show M 52 4 = nI (bkG B) from hb.2.1]
    refine lm_G_br (b := (nI (bkG B)) ≤ (nI (bkG B))) (t := 39) (S' := []) rfl (fun hc => ?_) (fun hc => absurd (nI_le (Nat.le_refl _) (by omega)) hc)
    refine lm_G_sg 1 (pc' := 40) (L' := [some (.ref 52), some (.int (nI (mxN (bkH B) (bkG B)))), some (.int (nI (bkG B)))]) (S' := [.int (nI (mxN (bkH B) (bkG B)))]) (σ' := lm_T M v G) rfl trivial ?_
    exact lm_G_re rfl trivial (Nat.zero_le _) (Nat.zero_le _) hQ
  ·
    trivial
set_option maxRecDepth 10000 in
theorem c_sightsAgree {X : lm_X} {d v : Nat} {M : Nat → Nat → Int32} {G : Nat → Nat → Int64} {Q : lm_O → lm_S → Prop} {F : Fa} {B : Bk} {S : Sc} {n : Nat} (hF : okF F) (h : RC 38 M F S) (hb : CB 52 M F B) (hG : bkG B ≤ 8) (hn2 : n ≤ 20) (hs8 : ∀ i, i < bkG B → bkP B i < fN F ∧ 1 ≤ bkH B i ∧ bkH B i ≤ 20) (hQ : Q (.inl (some (.int (b2i (siS B S n))))) (lm_T M v G)) : lm_Q X d 8 [.ref 52, .ref 38, .int (nI n)] (lm_T M v G) Q := by
  have hn := hF.n
  have hm := hF.m
  show lm_G X d 8 106 0 0 0 [some (.ref 52), some (.ref 38), some (.int (nI n)), none, none] [] (lm_T M v G) Q
  refine lm_G_sg 2 (pc' := 2) (L' := [some (.ref 52), some (.ref 38), some (.int (nI n)), some (.int 0), none]) (S' := []) (σ' := lm_T M v G) rfl trivial ?_
  refine lm_ind (α := Unit) (St := fun (j : Nat) zz => lm_G X d 8 106 0 0 2 [some (.ref 52), some (.ref 38), some (.int (nI n)), some (.int (nI j)), none] [] (lm_T M v G) Q) (Inv := fun (j : Nat) zz => alB (fun k => !(decide (bkH B k = n)) || decide (sHu S (bkP B k) = bkT B k)) j = true) (bkG B) (fun j zz hj hI ih => ?_) (fun zz hI => ?_) (0) () (by omega) ?_
  ·
    replace hI : alB (fun k => !(decide (bkH B k = n)) || decide (sHu S (bkP B k) = bkT B k)) j = true := hI
    replace ih : ∀ (_ : alB (fun k => !(decide (bkH B k = n)) || decide (sHu S (bkP B k) = bkT B k)) (j + 1) = true), lm_G X d 8 106 0 0 2 [some (.ref 52), some (.ref 38), some (.int (nI n)), some (.int (nI (j + 1))), none] [] (lm_T M v G) Q := fun q => ih () q
    show lm_G X d 8 106 0 0 2 [some (.ref 52), some (.ref 38), some (.int (nI n)), some (.int (nI j)), none] [] (lm_T M v G) Q
    obtain ⟨b1, b2, b3⟩ := hb.2.2.2.1 j hj
    obtain ⟨s1, s2, s3⟩ := hs8 j hj
    rw [show 3 * j = j * 3 from Nat.mul_comm _ _] at b1 b2 b3
    refine lm_G_sg 3 (pc' := 7) (L' := [some (.ref 52), some (.ref 38), some (.int (nI n)), some (.int (nI j)), none]) (S' := [.int (M 52 4), .int (nI j)]) (σ' := lm_T M v G) rfl trivial ?_
    rw [show M 52 4 = nI (bkG B) from hb.2.1]
    refine lm_G_br (b := (nI (bkG B)) ≤ (nI j)) (t := 66) (S' := []) rfl (fun hc => absurd hc (nI_ge hj (by omega))) (fun hc => ?_)
    refine lm_G_sg 2 (pc' := 13) (L' := [some (.ref 52), some (.ref 38), some (.int (nI n)), some (.int (nI j)), none]) (S' := [.int 8, .int (nI j)]) (σ' := lm_T M v G) rfl trivial ?_
    refine lm_G_br (b := 8 ≤ (nI j)) (t := 66) (S' := []) rfl (fun hc => absurd hc (nI_ge (b := 8) (by omega) (by omega))) (fun hc => ?_)
    refine lm_G_sg 3 (pc' := 19) (L' := [some (.ref 52), some (.ref 38), some (.int (nI n)), some (.int (nI j)), none]) (S' := [.int ((nI j) * 3)]) (σ' := lm_T M v G) rfl trivial ?_
    rw [show (nI j) * 3 = nI (j * 3) from pk_mul j 3]
    refine lm_G_sg 6 (pc' := 29) (L' := [some (.ref 52), some (.ref 38), some (.int (nI n)), some (.int (nI j)), some (.int (nI (j * 3)))]) (S' := [.int ((nI (j * 3)) + 2), .ref 55]) (σ' := lm_T M v G) rfl trivial ?_
    rw [show (nI (j * 3)) + 2 = nI ((j * 3) + 2) from nI_add (j * 3) 2]
    refine lm_G_sg 1 (pc' := 30) (L' := [some (.ref 52), some (.ref 38), some (.int (nI n)), some (.int (nI j)), some (.int (nI (j * 3)))]) (S' := [.int (M 55 (nI ((j * 3) + 2)).toNatClampNeg)]) (σ' := lm_T M v G) rfl ⟨(vp_in_nI (by omega) (by omega)), trivial, trivial⟩ ?_
    rw [show (nI ((j * 3) + 2)).toNatClampNeg = ((j * 3) + 2) from nI_clamp (by omega)]
    rw [show M 55 ((j * 3) + 2) = nI (bkH B j) from b3]
    refine lm_G_sg 1 (pc' := 31) (L' := [some (.ref 52), some (.ref 38), some (.int (nI n)), some (.int (nI j)), some (.int (nI (j * 3)))]) (S' := [.int (nI n), .int (nI (bkH B j))]) (σ' := lm_T M v G) rfl trivial ?_
    refine lm_G_br (b := ¬ (nI (bkH B j)) = (nI n)) (t := 60) (S' := []) rfl (fun h5 => ?_) (fun h5 => ?_)
    ·
      refine lm_G_sg 1 (pc' := 63) (L' := [some (.ref 52), some (.ref 38), some (.int (nI n)), some (.int ((nI j) + 1)), some (.int (nI (j * 3)))]) (S' := []) (σ' := lm_T M v G) rfl trivial ?_
      rw [nI_1]
      refine lm_G_sg 1 (pc' := 2) (L' := [some (.ref 52), some (.ref 38), some (.int (nI n)), some (.int (nI (j + 1))), some (.int (nI (j * 3)))]) (S' := []) (σ' := lm_T M v G) rfl trivial ?_
      refine lm_G_jk (L := [some (.ref 52), some (.ref 38), some (.int (nI n)), some (.int (nI (j + 1))), none]) ⟨rfl, rfl, rfl, rfl, trivial⟩ ?_
      exact ih  (by
              have e : ¬ bkH B j = n := fun w => h5 (by rw [w])
              simp only [alB]
              rw [hI, decide_eq_false e]
              rfl)
    ·
      have e5 : bkH B j = n := (nI_eq (by omega) (by omega)).mp (Classical.not_not.mp h5)
      refine lm_G_sg 6 (pc' := 45) (L' := [some (.ref 52), some (.ref 38), some (.int (nI n)), some (.int (nI j)), some (.int (nI (j * 3)))]) (S' := [.int (M 55 (nI (j * 3)).toNatClampNeg), .ref 42]) (σ' := lm_T M v G) rfl ⟨(vp_in_nI (by omega) (by omega)), trivial, trivial⟩ ?_
      rw [show (nI (j * 3)).toNatClampNeg = (j * 3) from nI_clamp (by omega)]
      rw [show M 55 (j * 3) = nI (bkP B j) from b1]
      refine lm_G_sg 1 (pc' := 46) (L' := [some (.ref 52), some (.ref 38), some (.int (nI n)), some (.int (nI j)), some (.int (nI (j * 3)))]) (S' := [.int (M 42 (nI (bkP B j)).toNatClampNeg)]) (σ' := lm_T M v G) rfl ⟨(vp_in_nI (by omega) (by omega)), trivial, trivial⟩ ?_
      rw [show (nI (bkP B j)).toNatClampNeg = (bkP B j) from nI_clamp (by omega)]
      rw [show M 42 (bkP B j) = sHu S (bkP B j) from h.hu (bkP B j) (by omega)]
      refine lm_G_sg 5 (pc' := 54) (L' := [some (.ref 52), some (.ref 38), some (.int (nI n)), some (.int (nI j)), some (.int (nI (j * 3)))]) (S' := [.int ((nI (j * 3)) + 1), .ref 55, .int (sHu S (bkP B j))]) (σ' := lm_T M v G) rfl trivial ?_
      rw [show (nI (j * 3)) + 1 = nI ((j * 3) + 1) from nI_add (j * 3) 1]
      refine lm_G_sg 1 (pc' := 55) (L' := [some (.ref 52), some (.ref 38), some (.int (nI n)), some (.int (nI j)), some (.int (nI (j * 3)))]) (S' := [.int (M 55 (nI ((j * 3) + 1)).toNatClampNeg), .int (sHu S (bkP B j))]) (σ' := lm_T M v G) rfl ⟨(vp_in_nI (by omega) (by omega)), trivial, trivial⟩ ?_
      rw [show (nI ((j * 3) + 1)).toNatClampNeg = ((j * 3) + 1) from nI_clamp (by omega)]
      rw [show M 55 ((j * 3) + 1) = bkT B j from b2]
      refine lm_G_br (b := (sHu S (bkP B j)) = (bkT B j)) (t := 60) (S' := []) rfl (fun h6 => ?_) (fun h6 => ?_)
      ·
        refine lm_G_sg 1 (pc' := 63) (L' := [some (.ref 52), some (.ref 38), some (.int (nI n)), some (.int ((nI j) + 1)), some (.int (nI (j * 3)))]) (S' := []) (σ' := lm_T M v G) rfl trivial ?_
        rw [nI_1]
        refine lm_G_sg 1 (pc' := 2) (L' := [some (.ref 52), some (.ref 38), some (.int (nI n)), some (.int (nI (j + 1))), some (.int (nI (j * 3)))]) (S' := []) (σ' := lm_T M v G) rfl trivial ?_
        refine lm_G_jk (L := [some (.ref 52), some (.ref 38), some (.int (nI n)), some (.int (nI (j + 1))), none]) ⟨rfl, rfl, rfl, rfl, trivial⟩ ?_
        exact ih  (by simp only [alB]; rw [hI, decide_eq_true h6, Bool.or_true]; rfl)
      ·
        rw [show siS B S n = false from al_f (f := (fun k => !(decide (bkH B k = n)) || decide (sHu S (bkP B k) = bkT B k))) hj (by rw [decide_eq_true e5, decide_eq_false h6]; rfl)] at hQ
        refine lm_G_sg 1 (pc' := 59) (L' := [some (.ref 52), some (.ref 38), some (.int (nI n)), some (.int (nI j)), some (.int (nI (j * 3)))]) (S' := [.int 0]) (σ' := lm_T M v G) rfl trivial ?_
        exact lm_G_re rfl (by decide) (Nat.zero_le _) (Nat.zero_le _) hQ
  ·
    replace hI : alB (fun k => !(decide (bkH B k = n)) || decide (sHu S (bkP B k) = bkT B k)) (bkG B) = true := hI
    show lm_G X d 8 106 0 0 2 [some (.ref 52), some (.ref 38), some (.int (nI n)), some (.int (nI (bkG B))), none] [] (lm_T M v G) Q
    refine lm_G_sg 3 (pc' := 7) (L' := [some (.ref 52), some (.ref 38), some (.int (nI n)), some (.int (nI (bkG B))), none]) (S' := [.int (M 52 4), .int (nI (bkG B))]) (σ' := lm_T M v G) rfl trivial ?_
    rw [show M 52 4 = nI (bkG B) from hb.2.1]
    refine lm_G_br (b := (nI (bkG B)) ≤ (nI (bkG B))) (t := 66) (S' := []) rfl (fun hc => ?_) (fun hc => absurd (nI_le (Nat.le_refl _) (by omega)) hc)
    rw [show siS B S n = true from hI] at hQ
    refine lm_G_sg 1 (pc' := 67) (L' := [some (.ref 52), some (.ref 38), some (.int (nI n)), some (.int (nI (bkG B))), none]) (S' := [.int 1]) (σ' := lm_T M v G) rfl trivial ?_
    exact lm_G_re rfl (by decide) (Nat.zero_le _) (Nat.zero_le _) hQ
  ·
    try dsimp only
    rfl
set_option maxRecDepth 10000 in
theorem c_trialAgrees {X : lm_X} {d v : Nat} {M : Nat → Nat → Int32} {G : Nat → Nat → Int64} {Q : lm_O → lm_S → Prop} {F : Fa} {B : Bk} {S : Sc} {M0 : Nat → Fn} {br : Fn} (hF : okF F) (t : TD M0 F M S) (hs : okS F S) (hb0 : CB 52 M0 F B) (ho : okB F br B) (hQ : ∀ M1, Fr frT M0 M1 → Q (.inl (some (.int (b2i (agS F B S))))) (lm_T M1 v G)) : lm_Q X (d + 6) 120 [.ref 0] (lm_T M v G) Q := by
  have hn := hF.n
  have hm := hF.m
  have hb : CB 52 M F B := CB_fr hb0 (t.2.1 52 rfl) (t.2.1 54 rfl) (t.2.1 55 rfl) (t.2.1 56 rfl)
  show lm_G X (d + 6) 120 106 0 0 0 [some (.ref 0), none, none] [] (lm_T M v G) Q
  have hu : mxN (bkH B) (bkG B) ≤ 20 := mxN_ub (fun i hi => (ho.2.2.2 i hi).2.2)
  have hG := ho.2.1
  rw [ag_last ho] at hQ
  refine lm_G_sg 2 (pc' := 4) (L' := [some (.ref 0), none, none]) (S' := [.ref 52]) (σ' := lm_T M v G) rfl trivial ?_
  refine lm_G_ca (j := 7) (as := [.ref 52]) (rest := []) rfl (Or.inl rfl) (Nat.le_of_ble_eq_true rfl) (Nat.le_of_ble_eq_true rfl) (Nat.le_of_ble_eq_true rfl) (Nat.le_of_ble_eq_true rfl) rfl ?_
  refine c_lastSight (F := F) hb hG ho.2.2.2 ?_
  show lm_G X (d + 6) 120 106 0 0 7 [some (.ref 0), none, none] [.int (nI (mxN (bkH B) (bkG B)))] (lm_T M v G) Q
  refine lm_G_sg 3 (pc' := 10) (L' := [some (.ref 0), some (.int (nI (mxN (bkH B) (bkG B)))), some (.int 1)]) (S' := []) (σ' := lm_T M v G) rfl trivial ?_
  refine lm_ind (α := (Nat → Fn)) (St := fun (j : Nat) zz => (fun (M1 : Nat → Fn) => lm_G X (d + 6) 120 106 0 0 10 [some (.ref 0), some (.int (nI (mxN (bkH B) (bkG B)))), some (.int (nI (j + 1)))] [] (lm_T M1 v G) Q) zz) (Inv := fun (j : Nat) zz => (fun (M1 : Nat → Fn) => TD M0 F M1 (hrsS F nl S j) ∧ alB (fun n => siS B (hrsS F nl S (n + 1)) (n + 1)) j = true) zz) (mxN (bkH B) (bkG B)) (fun j zz hj hI ih => ?_) (fun zz hI => ?_) (0) M (by omega) ?_
  ·
    revert ih hI
    revert zz
    intro M1 hI ih
    replace hI : TD M0 F M1 (hrsS F nl S j) ∧ alB (fun n => siS B (hrsS F nl S (n + 1)) (n + 1)) j = true := hI
    replace ih : ∀ (M1 : Nat → Fn) (_ : TD M0 F M1 (hrsS F nl S (j + 1)) ∧ alB (fun n => siS B (hrsS F nl S (n + 1)) (n + 1)) (j + 1) = true), lm_G X (d + 6) 120 106 0 0 10 [some (.ref 0), some (.int (nI (mxN (bkH B) (bkG B)))), some (.int (nI ((j + 1) + 1)))] [] (lm_T M1 v G) Q := fun M1 q => ih M1 q
    show lm_G X (d + 6) 120 106 0 0 10 [some (.ref 0), some (.int (nI (mxN (bkH B) (bkG B)))), some (.int (nI (j + 1)))] [] (lm_T M1 v G) Q
    obtain ⟨t1, i1⟩ := hI
    refine lm_G_sg 2 (pc' := 12) (L' := [some (.ref 0), some (.int (nI (mxN (bkH B) (bkG B)))), some (.int (nI (j + 1)))]) (S' := [.int (nI (mxN (bkH B) (bkG B))), .int (nI (j + 1))]) (σ' := lm_T M1 v G) rfl trivial ?_
    refine lm_G_br (b := (nI (mxN (bkH B) (bkG B))) < (nI (j + 1))) (t := 45) (S' := []) rfl (fun hc => absurd hc (nI_nlt (by omega) (by omega))) (fun hc => ?_)
    refine lm_G_sg 2 (pc' := 19) (L' := [some (.ref 0), some (.int (nI (mxN (bkH B) (bkG B)))), some (.int (nI (j + 1)))]) (S' := [.ref 38]) (σ' := lm_T M1 v G) rfl trivial ?_
    refine lm_G_ca (j := 74) (as := [.ref 38]) (rest := []) rfl (Or.inl rfl) (Nat.le_of_ble_eq_true rfl) (Nat.le_of_ble_eq_true rfl) (Nat.le_of_ble_eq_true rfl) (Nat.le_of_ble_eq_true rfl) rfl ?_
    refine w_passHour hF t1 (ok_hrs hs j) (fun M2 t2 => ?_)
    show lm_G X (d + 6) 120 106 0 0 22 [some (.ref 0), some (.int (nI (mxN (bkH B) (bkG B)))), some (.int (nI (j + 1)))] [] (lm_T M2 v G) Q
    have b2 : CB 52 M2 F B := CB_fr hb0 (t2.2.1 52 rfl) (t2.2.1 54 rfl) (t2.2.1 55 rfl) (t2.2.1 56 rfl)
    refine lm_G_sg 5 (pc' := 31) (L' := [some (.ref 0), some (.int (nI (mxN (bkH B) (bkG B)))), some (.int (nI (j + 1)))]) (S' := [.int (nI (j + 1)), .ref 38, .ref 52]) (σ' := lm_T M2 v G) rfl trivial ?_
    refine lm_G_ca (j := 8) (as := [.ref 52, .ref 38, .int (nI (j + 1))]) (rest := []) rfl (Or.inl rfl) (Nat.le_of_ble_eq_true rfl) (Nat.le_of_ble_eq_true rfl) (Nat.le_of_ble_eq_true rfl) (Nat.le_of_ble_eq_true rfl) rfl ?_
    refine c_sightsAgree (S := (hrsS F nl S (j + 1))) (n := j + 1) hF t2.1 b2 hG (by omega) ho.2.2.2 ?_
    show lm_G X (d + 6) 120 106 0 0 34 [some (.ref 0), some (.int (nI (mxN (bkH B) (bkG B)))), some (.int (nI (j + 1)))] [.int (b2i (siS B (hrsS F nl S (j + 1)) (j + 1)))] (lm_T M2 v G) Q
    refine lm_G_br (b := ¬ (b2i (siS B (hrsS F nl S (j + 1)) (j + 1))) = 0) (t := 39) (S' := []) rfl (fun h5 => ?_) (fun h5 => ?_)
    ·
      refine lm_G_sg 1 (pc' := 42) (L' := [some (.ref 0), some (.int (nI (mxN (bkH B) (bkG B)))), some (.int ((nI (j + 1)) + 1))]) (S' := []) (σ' := lm_T M2 v G) rfl trivial ?_
      rw [nI_1]
      refine lm_G_sg 1 (pc' := 10) (L' := [some (.ref 0), some (.int (nI (mxN (bkH B) (bkG B)))), some (.int (nI ((j + 1) + 1)))]) (S' := []) (σ' := lm_T M2 v G) rfl trivial ?_
      exact ih _ (⟨t2, by simp only [alB]; rw [i1, b2i_1 h5]; rfl⟩)
    ·
      rw [al_f (f := (fun n => siS B (hrsS F nl S (n + 1)) (n + 1))) hj (b2i_0 (Classical.not_not.mp h5))] at hQ
      refine lm_G_sg 1 (pc' := 38) (L' := [some (.ref 0), some (.int (nI (mxN (bkH B) (bkG B)))), some (.int (nI (j + 1)))]) (S' := [.int 0]) (σ' := lm_T M2 v G) rfl trivial ?_
      exact lm_G_re rfl (by decide) (Nat.zero_le _) (Nat.zero_le _) (hQ _ t2.2.1)
  ·
    revert hI
    revert zz
    intro M1 hI
    replace hI : TD M0 F M1 (hrsS F nl S (mxN (bkH B) (bkG B))) ∧ alB (fun n => siS B (hrsS F nl S (n + 1)) (n + 1)) (mxN (bkH B) (bkG B)) = true := hI
    show lm_G X (d + 6) 120 106 0 0 10 [some (.ref 0), some (.int (nI (mxN (bkH B) (bkG B)))), some (.int (nI ((mxN (bkH B) (bkG B)) + 1)))] [] (lm_T M1 v G) Q
    obtain ⟨t1, i1⟩ := hI
    refine lm_G_sg 2 (pc' := 12) (L' := [some (.ref 0), some (.int (nI (mxN (bkH B) (bkG B)))), some (.int (nI ((mxN (bkH B) (bkG B)) + 1)))]) (S' := [.int (nI (mxN (bkH B) (bkG B))), .int (nI ((mxN (bkH B) (bkG B)) + 1))]) (σ' := lm_T M1 v G) rfl trivial ?_
    refine lm_G_br (b := (nI (mxN (bkH B) (bkG B))) < (nI ((mxN (bkH B) (bkG B)) + 1))) (t := 45) (S' := []) rfl (fun hc => ?_) (fun hc => absurd (nI_lt (by omega) (by omega)) hc)
    rw [i1] at hQ
    refine lm_G_sg 1 (pc' := 46) (L' := [some (.ref 0), some (.int (nI (mxN (bkH B) (bkG B)))), some (.int (nI ((mxN (bkH B) (bkG B)) + 1)))]) (S' := [.int 1]) (σ' := lm_T M1 v G) rfl trivial ?_
    exact lm_G_re rfl (by decide) (Nat.zero_le _) (Nat.zero_le _) (hQ _ t1.2.1)
  ·
    try dsimp only
    exact ⟨t, rfl⟩
set_option maxRecDepth 10000 in
theorem c_trialWith {X : lm_X} {d v : Nat} {M : Nat → Nat → Int32} {G : Nat → Nat → Int64} {Q : lm_O → lm_S → Prop} {F : Fa} {s : Sc} {p : Nat} {x : Int32} (hF : okF F) (h : RC 28 M F s) (hl : M 28 12 = -1) (h15 : Ag (fN F) (M 15) (sBr s)) (hp : p < fN F) (hQ : ∀ M1, TD M F M1 (brS s p x) → Q (.inl (some (.int (b2i (decide (x ≠ sBr s p)))))) (lm_T M1 v G)) : lm_Q X (d + 2) 119 [.ref 0, .int (nI p), .int x] (lm_T M v G) Q := by
  have hn := hF.n
  have hm := hF.m
  show lm_G X (d + 2) 119 106 0 0 0 [some (.ref 0), some (.int (nI p)), some (.int x)] [] (lm_T M v G) Q
  refine lm_G_sg 1 (pc' := 1) (L' := [some (.ref 0), some (.int (nI p)), some (.int x)]) (S' := [.ref 0]) (σ' := lm_T M v G) rfl trivial ?_
  refine lm_G_ca (j := 132) (as := [.ref 0]) (rest := []) rfl (Or.inl rfl) (Nat.le_of_ble_eq_true rfl) (Nat.le_of_ble_eq_true rfl) (Nat.le_of_ble_eq_true rfl) (Nat.le_of_ble_eq_true rfl) rfl ?_
  refine w_start hF h hl (fun M1 t1 => ?_)
  show lm_G X (d + 2) 119 106 0 0 4 [some (.ref 0), some (.int (nI p)), some (.int x)] [] (lm_T M1 v G) Q
  refine lm_G_sg 6 (pc' := 14) (L' := [some (.ref 0), some (.int (nI p)), some (.int x)]) (S' := []) (σ' := lm_T (lm_wr M1 39 ((nI p).toNatClampNeg) x) v G) rfl ⟨(vp_in_nI (by omega) (by omega)), trivial, trivial⟩ ?_
  rw [show (nI p).toNatClampNeg = p from nI_clamp (by omega)]
  have t2 : TD M F (lm_wr M1 39 p x) (brS s p x) := TD_br t1 p x
  revert t2
  generalize lm_wr M1 39 p x = M2
  intro t2
  refine lm_G_sg 6 (pc' := 24) (L' := [some (.ref 0), some (.int (nI p)), some (.int x)]) (S' := [.int (M2 15 (nI p).toNatClampNeg), .int x]) (σ' := lm_T M2 v G) rfl ⟨(vp_in_nI (by omega) (by omega)), trivial, trivial⟩ ?_
  rw [show (nI p).toNatClampNeg = p from nI_clamp (by omega)]
  rw [show M2 15 p = sBr s p from (congrFun (t2.2.1 15 rfl) p).trans (h15 p (by omega))]
  refine lm_G_br (b := x = (sBr s p)) (t := 31) (S' := []) rfl (fun h5 => ?_) (fun h5 => ?_)
  ·
    rw [decide_eq_false (fun w => w h5)] at hQ
    refine lm_G_sg 1 (pc' := 32) (L' := [some (.ref 0), some (.int (nI p)), some (.int x)]) (S' := [.int 0]) (σ' := lm_T M2 v G) rfl trivial ?_
    exact lm_G_re rfl (by decide) (Nat.zero_le _) (Nat.zero_le _) (hQ _ t2)
  ·
    rw [decide_eq_true h5] at hQ
    refine lm_G_sg 2 (pc' := 32) (L' := [some (.ref 0), some (.int (nI p)), some (.int x)]) (S' := [.int 1]) (σ' := lm_T M2 v G) rfl trivial ?_
    exact lm_G_re rfl (by decide) (Nat.zero_le _) (Nat.zero_le _) (hQ _ t2)
set_option maxRecDepth 10000 in
theorem c_deep {X : lm_X} {d v : Nat} {M : Nat → Nat → Int32} {G : Nat → Nat → Int64} {Q : lm_O → lm_S → Prop} {F : Fa} {s : Sc} {B : Bk} {w : Int32} (hF : okF F) (hc0 : CS M F s B) (hs : okS F s) (ho : okB F (sBr s) B) (h15 : Ag (fN F) (M 15) (sBr s)) (hQ : ∀ M1, Fr frQ M M1 → Q (cO (aDeep F B s w)) (lm_T M1 v G)) : lm_Q X (d + 7) 114 [.ref 0, .int w] (lm_T M v G) Q := by
  have hn := hF.n
  have hm := hF.m
  have h := hc0.1
  have hl := hc0.2.1
  show lm_G X (d + 7) 114 106 0 0 0 [some (.ref 0), some (.int w), none, none, none, none] [] (lm_T M v G) Q
  refine lm_G_sg 2 (pc' := 2) (L' := [some (.ref 0), some (.int w), none, none, none, none]) (S' := [.int 3, .int w]) (σ' := lm_T M v G) rfl trivial ?_
  refine lm_G_ca (j := 135) (as := [.int w, .int 3]) (rest := []) rfl (Or.inl rfl) (Nat.le_of_ble_eq_true rfl) (Nat.le_of_ble_eq_true rfl) (Nat.le_of_ble_eq_true rfl) (Nat.le_of_ble_eq_true rfl) rfl ?_
  refine c_isWhat (n := 3) (by omega) ?_
  show lm_G X (d + 7) 114 106 0 0 5 [some (.ref 0), some (.int w), none, none, none, none] [.int (b2i (isP 3 w))] (lm_T M v G) Q
  rcases Bool.eq_false_or_eq_true (isP 3 w) with hw | hw
  rotate_left
  ·
    rw [hw]
    show lm_G X (d + 7) 114 106 0 0 5 [some (.ref 0), some (.int w), none, none, none, none] [.int 0] (lm_T M v G) Q
    rw [show aDeep F B s w = .inr false from by simp +decide only [aDeep, hw, if_true, if_false, Bool.and_true, Bool.true_and, Bool.and_self, Bool.false_and, Bool.and_false, Bool.false_eq_true]] at hQ
    refine lm_G_ca (j := 137) (as := [.int 0]) (rest := []) rfl (Or.inl rfl) (Nat.le_of_ble_eq_true rfl) (Nat.le_of_ble_eq_true rfl) (Nat.le_of_ble_eq_true rfl) (Nat.le_of_ble_eq_true rfl) rfl ?_
    exact c_mustExistF ⟨by decide, rfl, hQ M (Fr_rf _ _)⟩
  ·
    rw [hw]
    show lm_G X (d + 7) 114 106 0 0 5 [some (.ref 0), some (.int w), none, none, none, none] [.int 1] (lm_T M v G) Q
    refine lm_G_ca (j := 137) (as := [.int 1]) (rest := []) rfl (Or.inl rfl) (Nat.le_of_ble_eq_true rfl) (Nat.le_of_ble_eq_true rfl) (Nat.le_of_ble_eq_true rfl) (Nat.le_of_ble_eq_true rfl) rfl ?_
    refine c_mustExistT ?_
    show lm_G X (d + 7) 114 106 1 6 8 [some (.ref 0), some (.int w), none, none, none, none] [] (lm_T M v G) Q
    refine lm_G_sg 2 (pc' := 10) (L' := [some (.ref 0), some (.int w), none, none, none, none]) (S' := [.int 2, .int w]) (σ' := lm_T M v G) rfl trivial ?_
    refine lm_G_br (b := ¬ w = 2) (t := 30) (S' := []) rfl (fun h1 => ?_) (fun h1 => ?_)
    rotate_left
    ·
      obtain rfl := Classical.not_not.mp h1
      rw [show aDeep F B s 2 = .inl (b2i (agS F B s)) from by simp +decide only [aDeep, hw, if_true, if_false, Bool.and_true, Bool.true_and, Bool.and_self, Bool.false_and, Bool.and_false, Bool.false_eq_true]] at hQ
      refine lm_G_sg 1 (pc' := 14) (L' := [some (.ref 0), some (.int 2), none, none, none, none]) (S' := [.ref 0]) (σ' := lm_T M v G) rfl trivial ?_
      refine lm_G_ca (j := 132) (as := [.ref 0]) (rest := []) rfl (Or.inl rfl) (Nat.le_of_ble_eq_true rfl) (Nat.le_of_ble_eq_true rfl) (Nat.le_of_ble_eq_true rfl) (Nat.le_of_ble_eq_true rfl) rfl ?_
      refine w_start hF h hl (fun M1 t1 => ?_)
      show lm_G X (d + 7) 114 106 1 6 17 [some (.ref 0), some (.int 2), none, none, none, none] [] (lm_T M1 v G) Q
      refine lm_G_sg 1 (pc' := 18) (L' := [some (.ref 0), some (.int 2), none, none, none, none]) (S' := [.ref 0]) (σ' := lm_T M1 v G) rfl trivial ?_
      refine lm_G_ca (j := 120) (as := [.ref 0]) (rest := []) rfl (Or.inl rfl) (Nat.le_of_ble_eq_true rfl) (Nat.le_of_ble_eq_true rfl) (Nat.le_of_ble_eq_true rfl) (Nat.le_of_ble_eq_true rfl) rfl ?_
      refine c_trialAgrees (S := s) hF t1 hs hc0.2.2 ho (fun M2 f2 => ?_)
      show lm_G X (d + 7) 114 106 1 6 21 [some (.ref 0), some (.int 2), none, none, none, none] [.int (b2i (agS F B s))] (lm_T M2 v G) Q
      have g2 : Fr frQ M M2 := Fr_mn f2 (fun _ => frTQ)
      refine lm_G_br (b := (b2i (agS F B s)) = 0) (t := 28) (S' := []) rfl (fun h5 => ?_) (fun h5 => ?_)
      ·
        rw [b2i_0 h5] at hQ
        refine lm_G_sg 1 (pc' := 29) (L' := [some (.ref 0), some (.int 2), none, none, none, none]) (S' := [.int 0]) (σ' := lm_T M2 v G) rfl trivial ?_
        exact lm_G_re rfl trivial (Nat.le_of_ble_eq_true rfl) (Nat.le_of_ble_eq_true rfl) (hQ _ g2)
      ·
        rw [b2i_1 h5] at hQ
        refine lm_G_sg 2 (pc' := 29) (L' := [some (.ref 0), some (.int 2), none, none, none, none]) (S' := [.int 1]) (σ' := lm_T M2 v G) rfl trivial ?_
        exact lm_G_re rfl trivial (Nat.le_of_ble_eq_true rfl) (Nat.le_of_ble_eq_true rfl) (hQ _ g2)
    ·
      refine lm_G_sg 6 (pc' := 37) (L' := [some (.ref 0), some (.int w), some (.int 0), some (.int (-1)), some (.int 0), none]) (S' := []) (σ' := lm_T M v G) rfl trivial ?_
      refine lm_ind (α := (Nat → Fn)) (St := fun (j : Nat) zz => (fun (M1 : Nat → Fn) => lm_G X (d + 7) 114 106 1 6 37 [some (.ref 0), some (.int w), some (.int (ctS (gdS F B s) (20 * j))), some (.int (fiD (gdS F B s) (20 * j))), some (.int (nI j)), none] [] (lm_T M1 v G) Q) zz) (Inv := fun (j : Nat) zz => (fun (M1 : Nat → Fn) => Fr frQ M M1) zz) (fN F) (fun j zz hj2 hI2 ih2 => ?_) (fun zz hI2 => ?_) (0) M (by omega) ?_
      ·
        revert ih2 hI2
        revert zz
        intro M1 hI2 ih2
        replace hI2 : Fr frQ M M1 := hI2
        replace ih2 : ∀ (M1 : Nat → Fn) (_ : Fr frQ M M1), lm_G X (d + 7) 114 106 1 6 37 [some (.ref 0), some (.int w), some (.int (ctS (gdS F B s) (20 * (j + 1)))), some (.int (fiD (gdS F B s) (20 * (j + 1)))), some (.int (nI (j + 1))), none] [] (lm_T M1 v G) Q := fun M1 q => ih2 M1 q
        show lm_G X (d + 7) 114 106 1 6 37 [some (.ref 0), some (.int w), some (.int (ctS (gdS F B s) (20 * j))), some (.int (fiD (gdS F B s) (20 * j))), some (.int (nI j)), none] [] (lm_T M1 v G) Q
        refine lm_G_sg 4 (pc' := 46) (L' := [some (.ref 0), some (.int w), some (.int (ctS (gdS F B s) (20 * j))), some (.int (fiD (gdS F B s) (20 * j))), some (.int (nI j)), none]) (S' := [.int (M1 14 0), .int (nI j)]) (σ' := lm_T M1 v G) rfl trivial ?_
        rw [show M1 14 0 = nI (fN F) from (congrFun (hI2 14 rfl) 0).trans h.n]
        refine lm_G_br (b := (nI (fN F)) ≤ (nI j)) (t := 106) (S' := []) rfl (fun hc => absurd hc (nI_ge hj2 (by omega))) (fun hc => ?_)
        refine lm_G_sg 2 (pc' := 52) (L' := [some (.ref 0), some (.int w), some (.int (ctS (gdS F B s) (20 * j))), some (.int (fiD (gdS F B s) (20 * j))), some (.int (nI j)), some (.int 1)]) (S' := []) (σ' := lm_T M1 v G) rfl trivial ?_
        refine lm_ind (α := (Nat → Fn)) (St := fun (i : Nat) zz => (fun (M2 : Nat → Fn) => lm_G X (d + 7) 114 106 1 6 52 [some (.ref 0), some (.int w), some (.int (ctS (gdS F B s) (20 * j + i))), some (.int (fiD (gdS F B s) (20 * j + i))), some (.int (nI j)), some (.int (nI (i + 1)))] [] (lm_T M2 v G) Q) zz) (Inv := fun (i : Nat) zz => (fun (M2 : Nat → Fn) => Fr frQ M M2) zz) (20) (fun i zz hj3 hI3 ih3 => ?_) (fun zz hI3 => ?_) (0) M1 (by omega) ?_
        ·
          revert ih3 hI3
          revert zz
          intro M2 hI3 ih3
          replace hI3 : Fr frQ M M2 := hI3
          replace ih3 : ∀ (M2 : Nat → Fn) (_ : Fr frQ M M2), lm_G X (d + 7) 114 106 1 6 52 [some (.ref 0), some (.int w), some (.int (ctS (gdS F B s) (20 * j + (i + 1)))), some (.int (fiD (gdS F B s) (20 * j + (i + 1)))), some (.int (nI j)), some (.int (nI ((i + 1) + 1)))] [] (lm_T M2 v G) Q := fun M2 q => ih3 M2 q
          show lm_G X (d + 7) 114 106 1 6 52 [some (.ref 0), some (.int w), some (.int (ctS (gdS F B s) (20 * j + i))), some (.int (fiD (gdS F B s) (20 * j + i))), some (.int (nI j)), some (.int (nI (i + 1)))] [] (lm_T M2 v G) Q
          refine lm_G_sg 2 (pc' := 56) (L' := [some (.ref 0), some (.int w), some (.int (ctS (gdS F B s) (20 * j + i))), some (.int (fiD (gdS F B s) (20 * j + i))), some (.int (nI j)), some (.int (nI (i + 1)))]) (S' := [.int 20, .int (nI (i + 1))]) (σ' := lm_T M2 v G) rfl trivial ?_
          refine lm_G_br (b := 20 < (nI (i + 1))) (t := 100) (S' := []) rfl (fun hc => absurd hc (nI_nlt (a := 20) (by omega) (by omega))) (fun hc => ?_)
          refine lm_G_sg 3 (pc' := 64) (L' := [some (.ref 0), some (.int w), some (.int (ctS (gdS F B s) (20 * j + i))), some (.int (fiD (gdS F B s) (20 * j + i))), some (.int (nI j)), some (.int (nI (i + 1)))]) (S' := [.int (nI (i + 1)), .int (nI j), .ref 0]) (σ' := lm_T M2 v G) rfl trivial ?_
          refine lm_G_ca (j := 119) (as := [.ref 0, .int (nI j), .int (nI (i + 1))]) (rest := []) rfl (Or.inl rfl) (Nat.le_of_ble_eq_true rfl) (Nat.le_of_ble_eq_true rfl) (Nat.le_of_ble_eq_true rfl) (Nat.le_of_ble_eq_true rfl) rfl ?_
          refine c_trialWith (s := s) hF (RC_Q h hI3) (by rw [hI3 28 rfl]; exact hl) (by rw [hI3 15 rfl]; exact h15) hj2 (fun M3 t3 => ?_)
          show lm_G X (d + 7) 114 106 1 6 67 [some (.ref 0), some (.int w), some (.int (ctS (gdS F B s) (20 * j + i))), some (.int (fiD (gdS F B s) (20 * j + i))), some (.int (nI j)), some (.int (nI (i + 1)))] [.int (b2i (decide (nI (i + 1) ≠ sBr s j)))] (lm_T M3 v G) Q
          obtain ⟨ep, ev⟩ := pj_eq (j := j) hj3
          refine lm_G_br (b := (b2i (decide (nI (i + 1) ≠ sBr s j))) = 0) (t := 94) (S' := []) rfl (fun h5 => ?_) (fun h5 => ?_)
          ·
            have eg : (gdS F B s) (20 * j + i) = false := by
              unfold gdS
              rw [ep, ev, b2i_0 h5]
              rfl
            have f3 : Fr frQ M M3 := Fr_tr hI3 (Fr_mn t3.2.1 (fun _ => frTQ))
            have r3 : M3 62 = M2 62 := t3.2.1 62 rfl
            refine lm_G_sg 1 (pc' := 97) (L' := [some (.ref 0), some (.int w), some (.int (ctS (gdS F B s) (20 * j + i))), some (.int (fiD (gdS F B s) (20 * j + i))), some (.int (nI j)), some (.int ((nI (i + 1)) + 1))]) (S' := []) (σ' := lm_T M3 v G) rfl trivial ?_
            rw [nI_1]
            refine lm_G_sg 1 (pc' := 52) (L' := [some (.ref 0), some (.int w), some (.int (ctS (gdS F B s) (20 * j + i))), some (.int (fiD (gdS F B s) (20 * j + i))), some (.int (nI j)), some (.int (nI ((i + 1) + 1)))]) (S' := []) (σ' := lm_T M3 v G) rfl trivial ?_
            rw [show 20 * j + (i + 1) = 20 * j + i + 1 from rfl, ct_n eg, fd_n eg] at ih3
            exact ih3 _ f3
          ·
            refine lm_G_sg 1 (pc' := 71) (L' := [some (.ref 0), some (.int w), some (.int (ctS (gdS F B s) (20 * j + i))), some (.int (fiD (gdS F B s) (20 * j + i))), some (.int (nI j)), some (.int (nI (i + 1)))]) (S' := [.ref 0]) (σ' := lm_T M3 v G) rfl trivial ?_
            refine lm_G_ca (j := 120) (as := [.ref 0]) (rest := []) rfl (Or.inl rfl) (Nat.le_of_ble_eq_true rfl) (Nat.le_of_ble_eq_true rfl) (Nat.le_of_ble_eq_true rfl) (Nat.le_of_ble_eq_true rfl) rfl ?_
            refine c_trialAgrees (S := brS s j (nI (i + 1))) hF t3 (ok_br hs _ _) (CB_fr hc0.2.2 (hI3 52 rfl) (hI3 54 rfl) (hI3 55 rfl) (hI3 56 rfl)) ho (fun M4 f4 => ?_)
            show lm_G X (d + 7) 114 106 1 6 74 [some (.ref 0), some (.int w), some (.int (ctS (gdS F B s) (20 * j + i))), some (.int (fiD (gdS F B s) (20 * j + i))), some (.int (nI j)), some (.int (nI (i + 1)))] [.int (b2i (agS F B (brS s j (nI (i + 1)))))] (lm_T M4 v G) Q
            have g4 : Fr frQ M M4 := Fr_tr hI3 (Fr_mn f4 (fun _ => frTQ))
            have r4 : M4 62 = M2 62 := f4 62 rfl
            refine lm_G_br (b := (b2i (agS F B (brS s j (nI (i + 1))))) = 0) (t := 94) (S' := []) rfl (fun h6 => ?_) (fun h6 => ?_)
            ·
              have eg : (gdS F B s) (20 * j + i) = false := by
                unfold gdS
                rw [ep, ev, b2i_0 h6, Bool.and_false]
              refine lm_G_sg 1 (pc' := 97) (L' := [some (.ref 0), some (.int w), some (.int (ctS (gdS F B s) (20 * j + i))), some (.int (fiD (gdS F B s) (20 * j + i))), some (.int (nI j)), some (.int ((nI (i + 1)) + 1))]) (S' := []) (σ' := lm_T M4 v G) rfl trivial ?_
              rw [nI_1]
              refine lm_G_sg 1 (pc' := 52) (L' := [some (.ref 0), some (.int w), some (.int (ctS (gdS F B s) (20 * j + i))), some (.int (fiD (gdS F B s) (20 * j + i))), some (.int (nI j)), some (.int (nI ((i + 1) + 1)))]) (S' := []) (σ' := lm_T M4 v G) rfl trivial ?_
              rw [show 20 * j + (i + 1) = 20 * j + i + 1 from rfl, ct_n eg, fd_n eg] at ih3
              exact ih3 _ g4
            ·
              have eg : (gdS F B s) (20 * j + i) = true := by
                unfold gdS
                rw [ep, ev, b2i_1 h5, b2i_1 h6]
                rfl
              rw [show 20 * j + (i + 1) = 20 * j + i + 1 from rfl, ct_y eg] at ih3
              refine lm_G_sg 3 (pc' := 82) (L' := [some (.ref 0), some (.int w), some (.int ((ctS (gdS F B s) (20 * j + i)) + 1)), some (.int (fiD (gdS F B s) (20 * j + i))), some (.int (nI j)), some (.int (nI (i + 1)))]) (S' := [.int (-1), .int (fiD (gdS F B s) (20 * j + i))]) (σ' := lm_T M4 v G) rfl trivial ?_
              refine lm_G_br (b := ¬ (fiD (gdS F B s) (20 * j + i)) = (-1)) (t := 94) (S' := []) rfl (fun h7 => ?_) (fun h7 => ?_)
              ·
                refine lm_G_sg 1 (pc' := 97) (L' := [some (.ref 0), some (.int w), some (.int ((ctS (gdS F B s) (20 * j + i)) + 1)), some (.int (fiD (gdS F B s) (20 * j + i))), some (.int (nI j)), some (.int ((nI (i + 1)) + 1))]) (S' := []) (σ' := lm_T M4 v G) rfl trivial ?_
                rw [nI_1]
                refine lm_G_sg 1 (pc' := 52) (L' := [some (.ref 0), some (.int w), some (.int ((ctS (gdS F B s) (20 * j + i)) + 1)), some (.int (fiD (gdS F B s) (20 * j + i))), some (.int (nI j)), some (.int (nI ((i + 1) + 1)))]) (S' := []) (σ' := lm_T M4 v G) rfl trivial ?_
                rw [fd_k h7] at ih3
                exact ih3 _ g4
              ·
                refine lm_G_sg 3 (pc' := 90) (L' := [some (.ref 0), some (.int w), some (.int ((ctS (gdS F B s) (20 * j + i)) + 1)), some (.int (fiD (gdS F B s) (20 * j + i))), some (.int (nI j)), some (.int (nI (i + 1)))]) (S' := [.int (100 * (nI j))]) (σ' := lm_T M4 v G) rfl trivial ?_
                rw [show 100 * (nI j) = nI (100 * j) from pk_mul 100 j]
                refine lm_G_sg 2 (pc' := 93) (L' := [some (.ref 0), some (.int w), some (.int ((ctS (gdS F B s) (20 * j + i)) + 1)), some (.int (fiD (gdS F B s) (20 * j + i))), some (.int (nI j)), some (.int (nI (i + 1)))]) (S' := [.int ((nI (100 * j)) + (nI (i + 1)))]) (σ' := lm_T M4 v G) rfl trivial ?_
                rw [show (nI (100 * j)) + (nI (i + 1)) = nI ((100 * j) + (i + 1)) from nI_add (100 * j) (i + 1)]
                refine lm_G_sg 2 (pc' := 97) (L' := [some (.ref 0), some (.int w), some (.int ((ctS (gdS F B s) (20 * j + i)) + 1)), some (.int (nI ((100 * j) + (i + 1)))), some (.int (nI j)), some (.int ((nI (i + 1)) + 1))]) (S' := []) (σ' := lm_T M4 v G) rfl trivial ?_
                rw [nI_1]
                refine lm_G_sg 1 (pc' := 52) (L' := [some (.ref 0), some (.int w), some (.int ((ctS (gdS F B s) (20 * j + i)) + 1)), some (.int (nI ((100 * j) + (i + 1)))), some (.int (nI j)), some (.int (nI ((i + 1) + 1)))]) (S' := []) (σ' := lm_T M4 v G) rfl trivial ?_
                rw [fd_y eg (Classical.not_not.mp h7) (by omega), show cdS (20 * j + i) = 100 * j + (i + 1) from by unfold cdS; rw [ep, ev]] at ih3
                exact ih3 _ g4
        ·
          revert hI3
          revert zz
          intro M2 hI3
          replace hI3 : Fr frQ M M2 := hI3
          show lm_G X (d + 7) 114 106 1 6 52 [some (.ref 0), some (.int w), some (.int (ctS (gdS F B s) (20 * j + 20))), some (.int (fiD (gdS F B s) (20 * j + 20))), some (.int (nI j)), some (.int (nI (20 + 1)))] [] (lm_T M2 v G) Q
          refine lm_G_sg 2 (pc' := 56) (L' := [some (.ref 0), some (.int w), some (.int (ctS (gdS F B s) (20 * j + 20))), some (.int (fiD (gdS F B s) (20 * j + 20))), some (.int (nI j)), some (.int (nI (20 + 1)))]) (S' := [.int 20, .int (nI (20 + 1))]) (σ' := lm_T M2 v G) rfl trivial ?_
          refine lm_G_br (b := 20 < (nI (20 + 1))) (t := 100) (S' := []) rfl (fun hc => ?_) (fun hc => absurd (nI_lt (a := 20) (by omega) (by omega)) hc)
          refine lm_G_sg 1 (pc' := 103) (L' := [some (.ref 0), some (.int w), some (.int (ctS (gdS F B s) (20 * j + 20))), some (.int (fiD (gdS F B s) (20 * j + 20))), some (.int ((nI j) + 1)), some (.int (nI (20 + 1)))]) (S' := []) (σ' := lm_T M2 v G) rfl trivial ?_
          rw [nI_1]
          refine lm_G_sg 1 (pc' := 37) (L' := [some (.ref 0), some (.int w), some (.int (ctS (gdS F B s) (20 * j + 20))), some (.int (fiD (gdS F B s) (20 * j + 20))), some (.int (nI (j + 1))), some (.int (nI (20 + 1)))]) (S' := []) (σ' := lm_T M2 v G) rfl trivial ?_
          refine lm_G_jk (L := [some (.ref 0), some (.int w), some (.int (ctS (gdS F B s) (20 * j + 20))), some (.int (fiD (gdS F B s) (20 * j + 20))), some (.int (nI (j + 1))), none]) ⟨rfl, rfl, rfl, rfl, rfl, trivial⟩ ?_
          exact ih2 _ hI3
        ·
          try dsimp only
          exact hI2
      ·
        revert hI2
        revert zz
        intro M1 hI2
        replace hI2 : Fr frQ M M1 := hI2
        show lm_G X (d + 7) 114 106 1 6 37 [some (.ref 0), some (.int w), some (.int (ctS (gdS F B s) (20 * (fN F)))), some (.int (fiD (gdS F B s) (20 * (fN F)))), some (.int (nI (fN F))), none] [] (lm_T M1 v G) Q
        refine lm_G_sg 4 (pc' := 46) (L' := [some (.ref 0), some (.int w), some (.int (ctS (gdS F B s) (20 * (fN F)))), some (.int (fiD (gdS F B s) (20 * (fN F)))), some (.int (nI (fN F))), none]) (S' := [.int (M1 14 0), .int (nI (fN F))]) (σ' := lm_T M1 v G) rfl trivial ?_
        rw [show M1 14 0 = nI (fN F) from (congrFun (hI2 14 rfl) 0).trans h.n]
        refine lm_G_br (b := (nI (fN F)) ≤ (nI (fN F))) (t := 106) (S' := []) rfl (fun hc => ?_) (fun hc => absurd (nI_le (Nat.le_refl _) (by omega)) hc)
        refine lm_G_sg 1 (pc' := 107) (L' := [some (.ref 0), some (.int w), some (.int (ctS (gdS F B s) (20 * (fN F)))), some (.int (fiD (gdS F B s) (20 * (fN F)))), some (.int (nI (fN F))), none]) (S' := [.int w]) (σ' := lm_T M1 v G) rfl trivial ?_
        rcases isP_3 hw with rfl | rfl | rfl
        ·
          refine lm_G_br (b := ¬ 0 = 0) (t := 114) (S' := []) rfl (fun hc => absurd rfl hc) (fun hc => ?_)
          refine lm_G_sg 2 (pc' := 115) (L' := [some (.ref 0), some (.int 0), some (.int (ctS (gdS F B s) (20 * (fN F)))), some (.int (fiD (gdS F B s) (20 * (fN F)))), some (.int (nI (fN F))), none]) (S' := [.int (ctS (gdS F B s) (20 * (fN F)))]) (σ' := lm_T M1 v G) rfl trivial ?_
          rw [show aDeep F B s 0 = .inl (ctS (gdS F B s) (20 * fN F)) from by simp +decide only [aDeep, hw, if_true, if_false, Bool.and_true, Bool.true_and, Bool.and_self, Bool.false_and, Bool.and_false, Bool.false_eq_true]] at hQ
          exact lm_G_re rfl trivial (Nat.le_of_ble_eq_true rfl) (Nat.le_of_ble_eq_true rfl) (hQ _ hI2)
        ·
          refine lm_G_br (b := ¬ 1 = 0) (t := 114) (S' := []) rfl (fun hc => ?_) (fun hc => absurd (by decide) hc)
          refine lm_G_sg 1 (pc' := 115) (L' := [some (.ref 0), some (.int 1), some (.int (ctS (gdS F B s) (20 * (fN F)))), some (.int (fiD (gdS F B s) (20 * (fN F)))), some (.int (nI (fN F))), none]) (S' := [.int (fiD (gdS F B s) (20 * (fN F)))]) (σ' := lm_T M1 v G) rfl trivial ?_
          rw [show aDeep F B s 1 = .inl (fiD (gdS F B s) (20 * fN F)) from by simp +decide only [aDeep, hw, if_true, if_false, Bool.and_true, Bool.true_and, Bool.and_self, Bool.false_and, Bool.and_false, Bool.false_eq_true]] at hQ
          exact lm_G_re rfl trivial (Nat.le_of_ble_eq_true rfl) (Nat.le_of_ble_eq_true rfl) (hQ _ hI2)
        ·
          exact absurd rfl h1
      ·
        try dsimp only
        exact Fr_rf _ _
set_option maxRecDepth 10000 in
theorem c_addUnlike {X : lm_X} {d v : Nat} {M : Nat → Nat → Int32} {G : Nat → Nat → Int64} {Q : lm_O → lm_S → Prop} {F : Fa} {S : Sc} (hF : okF F) (h : RC 38 M F S) (hQ : ∀ M1, (∀ q, q < fN F → M1 62 q = M 62 q ||| bit1 (sHu S q + 1)) → Fr (frO 62) M M1 → Q (.inl none) (lm_T M1 v G)) : lm_Q X d 118 [.ref 0] (lm_T M v G) Q := by
  have hn := hF.n
  have hm := hF.m
  show lm_G X d 118 106 0 0 0 [some (.ref 0), none] [] (lm_T M v G) Q
  refine lm_G_sg 2 (pc' := 2) (L' := [some (.ref 0), some (.int 0)]) (S' := []) (σ' := lm_T M v G) rfl trivial ?_
  refine lm_ind (α := (Nat → Fn)) (St := fun (j : Nat) zz => (fun (M1 : Nat → Fn) => lm_G X d 118 106 0 0 2 [some (.ref 0), some (.int (nI j))] [] (lm_T M1 v G) Q) zz) (Inv := fun (j : Nat) zz => (fun (M1 : Nat → Fn) => (∀ q, q < fN F → M1 62 q = if q < j then M 62 q ||| bit1 (sHu S q + 1) else M 62 q) ∧ Fr (frO 62) M M1) zz) (fN F) (fun j zz hj hI ih => ?_) (fun zz hI => ?_) (0) M (by omega) ?_
  ·
    revert ih hI
    revert zz
    intro M1 hI ih
    replace hI : (∀ q, q < fN F → M1 62 q = if q < j then M 62 q ||| bit1 (sHu S q + 1) else M 62 q) ∧ Fr (frO 62) M M1 := hI
    replace ih : ∀ (M1 : Nat → Fn) (_ : (∀ q, q < fN F → M1 62 q = if q < (j + 1) then M 62 q ||| bit1 (sHu S q + 1) else M 62 q) ∧ Fr (frO 62) M M1), lm_G X d 118 106 0 0 2 [some (.ref 0), some (.int (nI (j + 1)))] [] (lm_T M1 v G) Q := fun M1 q => ih M1 q
    show lm_G X d 118 106 0 0 2 [some (.ref 0), some (.int (nI j))] [] (lm_T M1 v G) Q
    obtain ⟨i1, i2⟩ := hI
    refine lm_G_sg 4 (pc' := 10) (L' := [some (.ref 0), some (.int (nI j))]) (S' := [.int (M1 14 0), .int (nI j)]) (σ' := lm_T M1 v G) rfl trivial ?_
    rw [show M1 14 0 = nI (fN F) from (congrFun (i2 14 rfl) 0).trans h.n]
    refine lm_G_br (b := (nI (fN F)) ≤ (nI j)) (t := 41) (S' := []) rfl (fun hc => absurd hc (nI_ge hj (by omega))) (fun hc => ?_)
    refine lm_G_sg 5 (pc' := 20) (L' := [some (.ref 0), some (.int (nI j))]) (S' := [.int (M1 62 (nI j).toNatClampNeg), .int (nI j), .ref 62]) (σ' := lm_T M1 v G) rfl ⟨(vp_in_nI (by omega) (by omega)), trivial, trivial⟩ ?_
    rw [show (nI j).toNatClampNeg = j from nI_clamp (by omega)]
    rw [show M1 62 j = M 62 j from (i1 j hj).trans (if_neg (Nat.lt_irrefl _))]
    refine lm_G_sg 6 (pc' := 30) (L' := [some (.ref 0), some (.int (nI j))]) (S' := [.int (M1 42 (nI j).toNatClampNeg), .int 1, .int (M 62 j), .int (nI j), .ref 62]) (σ' := lm_T M1 v G) rfl ⟨(vp_in_nI (by omega) (by omega)), trivial, trivial⟩ ?_
    rw [show (nI j).toNatClampNeg = j from nI_clamp (by omega)]
    rw [show M1 42 j = sHu S j from (congrFun (i2 42 rfl) j).trans (h.hu j (by omega))]
    refine lm_G_sg 5 (pc' := 35) (L' := [some (.ref 0), some (.int (nI j))]) (S' := []) (σ' := lm_T (lm_wr M1 62 ((nI j).toNatClampNeg) ((M 62 j) ||| ((1 : Int32) <<< (((sHu S j) + 1) &&& 31)))) v G) rfl ⟨(vp_in_nI (by omega) (by omega)), trivial, trivial⟩ ?_
    rw [show (nI j).toNatClampNeg = j from nI_clamp (by omega)]
    refine lm_G_sg 1 (pc' := 38) (L' := [some (.ref 0), some (.int ((nI j) + 1))]) (S' := []) (σ' := lm_T (lm_wr M1 62 j ((M 62 j) ||| ((1 : Int32) <<< (((sHu S j) + 1) &&& 31)))) v G) rfl trivial ?_
    rw [nI_1]
    refine lm_G_sg 1 (pc' := 2) (L' := [some (.ref 0), some (.int (nI (j + 1)))]) (S' := []) (σ' := lm_T (lm_wr M1 62 j ((M 62 j) ||| ((1 : Int32) <<< (((sHu S j) + 1) &&& 31)))) v G) rfl trivial ?_
    exact ih _ (⟨fun q hq => if e : q = j then (by rw [e, wr_same, if_pos (Nat.lt_succ_self _)]) else (by rw [wr_at e, i1 q hq]; by_cases w : q < j; rw [if_pos w, if_pos (by omega)]; rw [if_neg w, if_neg (by omega)]), Fr_wr i2 rfl⟩)
  ·
    revert hI
    revert zz
    intro M1 hI
    replace hI : (∀ q, q < fN F → M1 62 q = if q < (fN F) then M 62 q ||| bit1 (sHu S q + 1) else M 62 q) ∧ Fr (frO 62) M M1 := hI
    show lm_G X d 118 106 0 0 2 [some (.ref 0), some (.int (nI (fN F)))] [] (lm_T M1 v G) Q
    obtain ⟨i1, i2⟩ := hI
    refine lm_G_sg 4 (pc' := 10) (L' := [some (.ref 0), some (.int (nI (fN F)))]) (S' := [.int (M1 14 0), .int (nI (fN F))]) (σ' := lm_T M1 v G) rfl trivial ?_
    rw [show M1 14 0 = nI (fN F) from (congrFun (i2 14 rfl) 0).trans h.n]
    refine lm_G_br (b := (nI (fN F)) ≤ (nI (fN F))) (t := 41) (S' := []) rfl (fun hc => ?_) (fun hc => absurd (nI_le (Nat.le_refl _) (by omega)) hc)
    exact lm_G_re rfl trivial (Nat.zero_le _) (Nat.zero_le _) (hQ _ (fun q hq => (i1 q hq).trans (if_pos hq)) i2)
  ·
    try dsimp only
    exact ⟨fun q hq => (if_neg (Nat.not_lt_zero _)).symm, Fr_rf _ _⟩
theorem frQO {a r : Nat} (ha : frQ a = false) (hr : frQ r = true) : frO r a = false := by
  unfold frO
  rw [beq_eq_false_iff_ne]
  intro e
  rw [e, hr] at ha
  cases ha
set_option maxRecDepth 10000 in
theorem c_gather {X : lm_X} {d v : Nat} {M : Nat → Nat → Int32} {G : Nat → Nat → Int64} {Q : lm_O → lm_S → Prop} {F : Fa} {s : Sc} {B : Bk} (hF : okF F) (hc0 : CS M F s B) (hs : okS F s) (ho : okB F (sBr s) B) (h15 : Ag (fN F) (M 15) (sBr s)) (hQ : ∀ M1, (∀ q, q < fN F → M1 62 q = unS F B s q (20 * fN F)) → Fr frQ M M1 → Q (.inl none) (lm_T M1 v G)) : lm_Q X (d + 7) 117 [.ref 0] (lm_T M v G) Q := by
  have hn := hF.n
  have hm := hF.m
  have h := hc0.1
  have hl := hc0.2.1
  show lm_G X (d + 7) 117 106 0 0 0 [some (.ref 0), none, none] [] (lm_T M v G) Q
  refine lm_G_sg 2 (pc' := 2) (L' := [some (.ref 0), some (.int 0), none]) (S' := []) (σ' := lm_T M v G) rfl trivial ?_
  refine lm_ind (α := (Nat → Fn)) (St := fun (j : Nat) zz => (fun (M1 : Nat → Fn) => lm_G X (d + 7) 117 106 0 0 2 [some (.ref 0), some (.int (nI j)), none] [] (lm_T M1 v G) Q) zz) (Inv := fun (j : Nat) zz => (fun (M1 : Nat → Fn) => (∀ q, q < j → M1 62 q = 0) ∧ Fr frQ M M1) zz) (8) (fun j zz hj hI ih => ?_) (fun zz hI => ?_) (0) M (by omega) ?_
  ·
    revert ih hI
    revert zz
    intro M1 hI ih
    replace hI : (∀ q, q < j → M1 62 q = 0) ∧ Fr frQ M M1 := hI
    replace ih : ∀ (M1 : Nat → Fn) (_ : (∀ q, q < (j + 1) → M1 62 q = 0) ∧ Fr frQ M M1), lm_G X (d + 7) 117 106 0 0 2 [some (.ref 0), some (.int (nI (j + 1))), none] [] (lm_T M1 v G) Q := fun M1 q => ih M1 q
    show lm_G X (d + 7) 117 106 0 0 2 [some (.ref 0), some (.int (nI j)), none] [] (lm_T M1 v G) Q
    obtain ⟨i1, i2⟩ := hI
    refine lm_G_sg 2 (pc' := 5) (L' := [some (.ref 0), some (.int (nI j)), none]) (S' := [.int 8, .int (nI j)]) (σ' := lm_T M1 v G) rfl trivial ?_
    refine lm_G_br (b := 8 ≤ (nI j)) (t := 21) (S' := []) rfl (fun hc => absurd hc (nI_ge (b := 8) hj (by omega))) (fun hc => ?_)
    refine lm_G_sg 5 (pc' := 15) (L' := [some (.ref 0), some (.int (nI j)), none]) (S' := []) (σ' := lm_T (lm_wr M1 62 ((nI j).toNatClampNeg) 0) v G) rfl ⟨(vp_in_nI (by omega) (by omega)), trivial, trivial⟩ ?_
    rw [show (nI j).toNatClampNeg = j from nI_clamp (by omega)]
    refine lm_G_sg 1 (pc' := 18) (L' := [some (.ref 0), some (.int ((nI j) + 1)), none]) (S' := []) (σ' := lm_T (lm_wr M1 62 j 0) v G) rfl trivial ?_
    rw [nI_1]
    refine lm_G_sg 1 (pc' := 2) (L' := [some (.ref 0), some (.int (nI (j + 1))), none]) (S' := []) (σ' := lm_T (lm_wr M1 62 j 0) v G) rfl trivial ?_
    exact ih _ (⟨fun q hq => if e : q = j then (by rw [e]; exact wr_same) else (by rw [wr_at e]; exact i1 q (by omega)), Fr_wr i2 rfl⟩)
  ·
    revert hI
    revert zz
    intro M1 hI
    replace hI : (∀ q, q < 8 → M1 62 q = 0) ∧ Fr frQ M M1 := hI
    show lm_G X (d + 7) 117 106 0 0 2 [some (.ref 0), some (.int (nI 8)), none] [] (lm_T M1 v G) Q
    obtain ⟨i1, i2⟩ := hI
    refine lm_G_sg 2 (pc' := 5) (L' := [some (.ref 0), some (.int (nI 8)), none]) (S' := [.int 8, .int (nI 8)]) (σ' := lm_T M1 v G) rfl trivial ?_
    refine lm_G_br (b := 8 ≤ (nI 8)) (t := 21) (S' := []) rfl (fun hc => ?_) (fun hc => absurd (nI_le (a := 8) (Nat.le_refl _) (by omega)) hc)
    refine lm_G_sg 2 (pc' := 23) (L' := [some (.ref 0), some (.int 0), none]) (S' := []) (σ' := lm_T M1 v G) rfl trivial ?_
    refine lm_ind (α := (Nat → Fn)) (St := fun (j : Nat) zz => (fun (M2 : Nat → Fn) => lm_G X (d + 7) 117 106 0 0 23 [some (.ref 0), some (.int (nI j)), none] [] (lm_T M2 v G) Q) zz) (Inv := fun (j : Nat) zz => (fun (M2 : Nat → Fn) => (∀ q, q < fN F → M2 62 q = unS F B s q (20 * j)) ∧ Fr frQ M M2) zz) (fN F) (fun j zz hj2 hI2 ih2 => ?_) (fun zz hI2 => ?_) (0) M1 (by omega) ?_
    ·
      revert ih2 hI2
      revert zz
      intro M2 hI2 ih2
      replace hI2 : (∀ q, q < fN F → M2 62 q = unS F B s q (20 * j)) ∧ Fr frQ M M2 := hI2
      replace ih2 : ∀ (M2 : Nat → Fn) (_ : (∀ q, q < fN F → M2 62 q = unS F B s q (20 * (j + 1))) ∧ Fr frQ M M2), lm_G X (d + 7) 117 106 0 0 23 [some (.ref 0), some (.int (nI (j + 1))), none] [] (lm_T M2 v G) Q := fun M2 q => ih2 M2 q
      show lm_G X (d + 7) 117 106 0 0 23 [some (.ref 0), some (.int (nI j)), none] [] (lm_T M2 v G) Q
      obtain ⟨k1, k2⟩ := hI2
      refine lm_G_sg 4 (pc' := 31) (L' := [some (.ref 0), some (.int (nI j)), none]) (S' := [.int (M2 14 0), .int (nI j)]) (σ' := lm_T M2 v G) rfl trivial ?_
      rw [show M2 14 0 = nI (fN F) from (congrFun (k2 14 rfl) 0).trans h.n]
      refine lm_G_br (b := (nI (fN F)) ≤ (nI j)) (t := 89) (S' := []) rfl (fun hc => absurd hc (nI_ge hj2 (by omega))) (fun hc => ?_)
      refine lm_G_sg 2 (pc' := 36) (L' := [some (.ref 0), some (.int (nI j)), some (.int 1)]) (S' := []) (σ' := lm_T M2 v G) rfl trivial ?_
      refine lm_ind (α := (Nat → Fn)) (St := fun (i : Nat) zz => (fun (M5 : Nat → Fn) => lm_G X (d + 7) 117 106 0 0 36 [some (.ref 0), some (.int (nI j)), some (.int (nI (i + 1)))] [] (lm_T M5 v G) Q) zz) (Inv := fun (i : Nat) zz => (fun (M5 : Nat → Fn) => (∀ q, q < fN F → M5 62 q = unS F B s q (20 * j + i)) ∧ Fr frQ M M5) zz) (20) (fun i zz hj3 hI3 ih3 => ?_) (fun zz hI3 => ?_) (0) M2 (by omega) ?_
      ·
        revert ih3 hI3
        revert zz
        intro M5 hI3 ih3
        replace hI3 : (∀ q, q < fN F → M5 62 q = unS F B s q (20 * j + i)) ∧ Fr frQ M M5 := hI3
        replace ih3 : ∀ (M5 : Nat → Fn) (_ : (∀ q, q < fN F → M5 62 q = unS F B s q (20 * j + (i + 1))) ∧ Fr frQ M M5), lm_G X (d + 7) 117 106 0 0 36 [some (.ref 0), some (.int (nI j)), some (.int (nI ((i + 1) + 1)))] [] (lm_T M5 v G) Q := fun M5 q => ih3 M5 q
        show lm_G X (d + 7) 117 106 0 0 36 [some (.ref 0), some (.int (nI j)), some (.int (nI (i + 1)))] [] (lm_T M5 v G) Q
        obtain ⟨l1, l2⟩ := hI3
        refine lm_G_sg 2 (pc' := 39) (L' := [some (.ref 0), some (.int (nI j)), some (.int (nI (i + 1)))]) (S' := [.int 20, .int (nI (i + 1))]) (σ' := lm_T M5 v G) rfl trivial ?_
        refine lm_G_br (b := 20 < (nI (i + 1))) (t := 83) (S' := []) rfl (fun hc => absurd hc (nI_nlt (a := 20) (by omega) (by omega))) (fun hc => ?_)
        refine lm_G_sg 3 (pc' := 45) (L' := [some (.ref 0), some (.int (nI j)), some (.int (nI (i + 1)))]) (S' := [.int (nI (i + 1)), .int (nI j), .ref 0]) (σ' := lm_T M5 v G) rfl trivial ?_
        refine lm_G_ca (j := 119) (as := [.ref 0, .int (nI j), .int (nI (i + 1))]) (rest := []) rfl (Or.inl rfl) (Nat.le_of_ble_eq_true rfl) (Nat.le_of_ble_eq_true rfl) (Nat.le_of_ble_eq_true rfl) (Nat.le_of_ble_eq_true rfl) rfl ?_
        refine c_trialWith (s := s) hF (RC_Q h l2) (by rw [l2 28 rfl]; exact hl) (by rw [l2 15 rfl]; exact h15) hj2 (fun M3 t3 => ?_)
        show lm_G X (d + 7) 117 106 0 0 48 [some (.ref 0), some (.int (nI j)), some (.int (nI (i + 1)))] [.int (b2i (decide (nI (i + 1) ≠ sBr s j)))] (lm_T M3 v G) Q
        obtain ⟨ep, ev⟩ := pj_eq (j := j) hj3
        refine lm_G_br (b := (b2i (decide (nI (i + 1) ≠ sBr s j))) = 0) (t := 77) (S' := []) rfl (fun h5 => ?_) (fun h5 => ?_)
        ·
          have eg : (gdS F B s) (20 * j + i) = false := by
            unfold gdS
            rw [ep, ev, b2i_0 h5]
            rfl
          have f3 : Fr frQ M M3 := Fr_tr l2 (Fr_mn t3.2.1 (fun _ => frTQ))
          have r3 : M3 62 = M5 62 := t3.2.1 62 rfl
          refine lm_G_sg 1 (pc' := 80) (L' := [some (.ref 0), some (.int (nI j)), some (.int ((nI (i + 1)) + 1))]) (S' := []) (σ' := lm_T M3 v G) rfl trivial ?_
          rw [nI_1]
          refine lm_G_sg 1 (pc' := 36) (L' := [some (.ref 0), some (.int (nI j)), some (.int (nI ((i + 1) + 1)))]) (S' := []) (σ' := lm_T M3 v G) rfl trivial ?_
          exact ih3 _ (⟨fun q hq => by rw [r3, l1 q hq]; exact (un_n eg).symm, f3⟩)
        ·
          refine lm_G_sg 1 (pc' := 52) (L' := [some (.ref 0), some (.int (nI j)), some (.int (nI (i + 1)))]) (S' := [.ref 0]) (σ' := lm_T M3 v G) rfl trivial ?_
          refine lm_G_ca (j := 120) (as := [.ref 0]) (rest := []) rfl (Or.inl rfl) (Nat.le_of_ble_eq_true rfl) (Nat.le_of_ble_eq_true rfl) (Nat.le_of_ble_eq_true rfl) (Nat.le_of_ble_eq_true rfl) rfl ?_
          refine c_trialAgrees (S := brS s j (nI (i + 1))) hF t3 (ok_br hs _ _) (CB_fr hc0.2.2 (l2 52 rfl) (l2 54 rfl) (l2 55 rfl) (l2 56 rfl)) ho (fun M4 f4 => ?_)
          show lm_G X (d + 7) 117 106 0 0 55 [some (.ref 0), some (.int (nI j)), some (.int (nI (i + 1)))] [.int (b2i (agS F B (brS s j (nI (i + 1)))))] (lm_T M4 v G) Q
          have g4 : Fr frQ M M4 := Fr_tr l2 (Fr_mn f4 (fun _ => frTQ))
          have r4 : M4 62 = M5 62 := f4 62 rfl
          refine lm_G_br (b := (b2i (agS F B (brS s j (nI (i + 1))))) = 0) (t := 77) (S' := []) rfl (fun h6 => ?_) (fun h6 => ?_)
          ·
            have eg : (gdS F B s) (20 * j + i) = false := by
              unfold gdS
              rw [ep, ev, b2i_0 h6, Bool.and_false]
            refine lm_G_sg 1 (pc' := 80) (L' := [some (.ref 0), some (.int (nI j)), some (.int ((nI (i + 1)) + 1))]) (S' := []) (σ' := lm_T M4 v G) rfl trivial ?_
            rw [nI_1]
            refine lm_G_sg 1 (pc' := 36) (L' := [some (.ref 0), some (.int (nI j)), some (.int (nI ((i + 1) + 1)))]) (S' := []) (σ' := lm_T M4 v G) rfl trivial ?_
            exact ih3 _ (⟨fun q hq => by rw [r4, l1 q hq]; exact (un_n eg).symm, g4⟩)
          ·
            have eg : (gdS F B s) (20 * j + i) = true := by
              unfold gdS
              rw [ep, ev, b2i_1 h5, b2i_1 h6]
              rfl
            refine lm_G_sg 3 (pc' := 61) (L' := [some (.ref 0), some (.int (nI j)), some (.int (nI (i + 1)))]) (S' := [.int (nI (i + 1)), .int (nI j), .ref 0]) (σ' := lm_T M4 v G) rfl trivial ?_
            refine lm_G_ca (j := 119) (as := [.ref 0, .int (nI j), .int (nI (i + 1))]) (rest := []) rfl (Or.inl rfl) (Nat.le_of_ble_eq_true rfl) (Nat.le_of_ble_eq_true rfl) (Nat.le_of_ble_eq_true rfl) (Nat.le_of_ble_eq_true rfl) rfl ?_
            refine c_trialWith (s := s) hF (RC_Q h g4) (by rw [g4 28 rfl]; exact hl) (by rw [g4 15 rfl]; exact h15) hj2 (fun M6 t6 => ?_)
            show lm_G X (d + 7) 117 106 0 0 64 [some (.ref 0), some (.int (nI j)), some (.int (nI (i + 1)))] [.int (b2i (decide (nI (i + 1) ≠ sBr s j)))] (lm_T M6 v G) Q
            refine lm_G_sg 4 (pc' := 70) (L' := [some (.ref 0), some (.int (nI j)), some (.int (nI (i + 1)))]) (S' := [.int 5, .ref 38]) (σ' := lm_T M6 v G) rfl trivial ?_
            refine lm_G_ca (j := 73) (as := [.ref 38, .int 5]) (rest := []) rfl (Or.inl rfl) (Nat.le_of_ble_eq_true rfl) (Nat.le_of_ble_eq_true rfl) (Nat.le_of_ble_eq_true rfl) (Nat.le_of_ble_eq_true rfl) rfl ?_
            refine w_passHours (n := 5) hF t6 (ok_br hs _ _) (by omega) (fun M7 t7 => ?_)
            show lm_G X (d + 7) 117 106 0 0 73 [some (.ref 0), some (.int (nI j)), some (.int (nI (i + 1)))] [] (lm_T M7 v G) Q
            refine lm_G_sg 1 (pc' := 74) (L' := [some (.ref 0), some (.int (nI j)), some (.int (nI (i + 1)))]) (S' := [.ref 0]) (σ' := lm_T M7 v G) rfl trivial ?_
            refine lm_G_ca (j := 118) (as := [.ref 0]) (rest := []) rfl (Or.inl rfl) (Nat.le_of_ble_eq_true rfl) (Nat.le_of_ble_eq_true rfl) (Nat.le_of_ble_eq_true rfl) (Nat.le_of_ble_eq_true rfl) rfl ?_
            refine c_addUnlike (S := hrsS F nl (brS s j (nI (i + 1))) 5) hF t7.1 (fun M8 u8 f8 => ?_)
            show lm_G X (d + 7) 117 106 0 0 77 [some (.ref 0), some (.int (nI j)), some (.int (nI (i + 1)))] [] (lm_T M8 v G) Q
            refine lm_G_sg 1 (pc' := 80) (L' := [some (.ref 0), some (.int (nI j)), some (.int ((nI (i + 1)) + 1))]) (S' := []) (σ' := lm_T M8 v G) rfl trivial ?_
            rw [nI_1]
            refine lm_G_sg 1 (pc' := 36) (L' := [some (.ref 0), some (.int (nI j)), some (.int (nI ((i + 1) + 1)))]) (S' := []) (σ' := lm_T M8 v G) rfl trivial ?_
            exact ih3 _ (⟨fun q hq => by
                          rw [u8 q hq, t7.2.1 62 rfl, r4, l1 q hq]
                          show _ = unS F B s q (20 * j + i + 1)
                          rw [un_y eg, ep, ev], Fr_tr (Fr_tr g4 (Fr_mn t7.2.1 (fun _ => frTQ))) (Fr_mn f8 (fun a ha => frQO ha rfl))⟩)
      ·
        revert hI3
        revert zz
        intro M5 hI3
        replace hI3 : (∀ q, q < fN F → M5 62 q = unS F B s q (20 * j + 20)) ∧ Fr frQ M M5 := hI3
        show lm_G X (d + 7) 117 106 0 0 36 [some (.ref 0), some (.int (nI j)), some (.int (nI (20 + 1)))] [] (lm_T M5 v G) Q
        obtain ⟨l1, l2⟩ := hI3
        refine lm_G_sg 2 (pc' := 39) (L' := [some (.ref 0), some (.int (nI j)), some (.int (nI (20 + 1)))]) (S' := [.int 20, .int (nI (20 + 1))]) (σ' := lm_T M5 v G) rfl trivial ?_
        refine lm_G_br (b := 20 < (nI (20 + 1))) (t := 83) (S' := []) rfl (fun hc => ?_) (fun hc => absurd (nI_lt (a := 20) (by omega) (by omega)) hc)
        refine lm_G_sg 1 (pc' := 86) (L' := [some (.ref 0), some (.int ((nI j) + 1)), some (.int (nI (20 + 1)))]) (S' := []) (σ' := lm_T M5 v G) rfl trivial ?_
        rw [nI_1]
        refine lm_G_sg 1 (pc' := 23) (L' := [some (.ref 0), some (.int (nI (j + 1))), some (.int (nI (20 + 1)))]) (S' := []) (σ' := lm_T M5 v G) rfl trivial ?_
        refine lm_G_jk (L := [some (.ref 0), some (.int (nI (j + 1))), none]) ⟨rfl, rfl, trivial⟩ ?_
        exact ih2 _ (⟨l1, l2⟩)
      ·
        try dsimp only
        exact ⟨k1, k2⟩
    ·
      revert hI2
      revert zz
      intro M2 hI2
      replace hI2 : (∀ q, q < fN F → M2 62 q = unS F B s q (20 * (fN F))) ∧ Fr frQ M M2 := hI2
      show lm_G X (d + 7) 117 106 0 0 23 [some (.ref 0), some (.int (nI (fN F))), none] [] (lm_T M2 v G) Q
      obtain ⟨k1, k2⟩ := hI2
      refine lm_G_sg 4 (pc' := 31) (L' := [some (.ref 0), some (.int (nI (fN F))), none]) (S' := [.int (M2 14 0), .int (nI (fN F))]) (σ' := lm_T M2 v G) rfl trivial ?_
      rw [show M2 14 0 = nI (fN F) from (congrFun (k2 14 rfl) 0).trans h.n]
      refine lm_G_br (b := (nI (fN F)) ≤ (nI (fN F))) (t := 89) (S' := []) rfl (fun hc => ?_) (fun hc => absurd (nI_le (Nat.le_refl _) (by omega)) hc)
      exact lm_G_re rfl trivial (Nat.zero_le _) (Nat.zero_le _) (hQ _ k1 k2)
    ·
      try dsimp only
      exact ⟨fun q hq => i1 q (by omega), i2⟩
  ·
    try dsimp only
    exact ⟨fun q hq => by omega, Fr_rf _ _⟩
set_option maxRecDepth 10000 in
theorem c_look {X : lm_X} {d v : Nat} {M : Nat → Nat → Int32} {G : Nat → Nat → Int64} {Q : lm_O → lm_S → Prop} {F : Fa} {s : Sc} {B : Bk} {w : Int32} (hF : okF F) (hc0 : CS M F s B) (hs : okS F s) (ho : okB F (sBr s) B) (h15 : Ag (fN F) (M 15) (sBr s)) (hQ : ∀ M1, Fr frQ M M1 → Q (cO (aLook F B s w)) (lm_T M1 v G)) : lm_Q X (d + 8) 115 [.ref 0, .int w] (lm_T M v G) Q := by
  have hn := hF.n
  have hm := hF.m
  have h := hc0.1
  have hl := hc0.2.1
  show lm_G X (d + 8) 115 106 0 0 0 [some (.ref 0), some (.int w), none, none, none, none] [] (lm_T M v G) Q
  refine lm_G_sg 2 (pc' := 2) (L' := [some (.ref 0), some (.int w), none, none, none, none]) (S' := [.int 2, .int w]) (σ' := lm_T M v G) rfl trivial ?_
  refine lm_G_ca (j := 135) (as := [.int w, .int 2]) (rest := []) rfl (Or.inl rfl) (Nat.le_of_ble_eq_true rfl) (Nat.le_of_ble_eq_true rfl) (Nat.le_of_ble_eq_true rfl) (Nat.le_of_ble_eq_true rfl) rfl ?_
  refine c_isWhat (n := 2) (by omega) ?_
  show lm_G X (d + 8) 115 106 0 0 5 [some (.ref 0), some (.int w), none, none, none, none] [.int (b2i (isP 2 w))] (lm_T M v G) Q
  rcases Bool.eq_false_or_eq_true (isP 2 w) with hw | hw
  rotate_left
  ·
    rw [hw]
    show lm_G X (d + 8) 115 106 0 0 5 [some (.ref 0), some (.int w), none, none, none, none] [.int 0] (lm_T M v G) Q
    rw [show aLook F B s w = .inr false from by simp +decide only [aLook, hw, if_true, if_false, Bool.and_true, Bool.true_and, Bool.and_self, Bool.false_and, Bool.and_false, Bool.false_eq_true]] at hQ
    refine lm_G_ca (j := 137) (as := [.int 0]) (rest := []) rfl (Or.inl rfl) (Nat.le_of_ble_eq_true rfl) (Nat.le_of_ble_eq_true rfl) (Nat.le_of_ble_eq_true rfl) (Nat.le_of_ble_eq_true rfl) rfl ?_
    exact c_mustExistF ⟨by decide, rfl, hQ M (Fr_rf _ _)⟩
  ·
    rw [hw]
    show lm_G X (d + 8) 115 106 0 0 5 [some (.ref 0), some (.int w), none, none, none, none] [.int 1] (lm_T M v G) Q
    refine lm_G_ca (j := 137) (as := [.int 1]) (rest := []) rfl (Or.inl rfl) (Nat.le_of_ble_eq_true rfl) (Nat.le_of_ble_eq_true rfl) (Nat.le_of_ble_eq_true rfl) (Nat.le_of_ble_eq_true rfl) rfl ?_
    refine c_mustExistT ?_
    show lm_G X (d + 8) 115 106 1 6 8 [some (.ref 0), some (.int w), none, none, none, none] [] (lm_T M v G) Q
    refine lm_G_sg 1 (pc' := 9) (L' := [some (.ref 0), some (.int w), none, none, none, none]) (S' := [.ref 0]) (σ' := lm_T M v G) rfl trivial ?_
    refine lm_G_ca (j := 117) (as := [.ref 0]) (rest := []) rfl (Or.inl rfl) (Nat.le_of_ble_eq_true rfl) (Nat.le_of_ble_eq_true rfl) (Nat.le_of_ble_eq_true rfl) (Nat.le_of_ble_eq_true rfl) rfl ?_
    refine c_gather hF hc0 hs ho h15 (fun M1 u1 f1 => ?_)
    show lm_G X (d + 8) 115 106 1 6 12 [some (.ref 0), some (.int w), none, none, none, none] [] (lm_T M1 v G) Q
    refine lm_G_sg 6 (pc' := 19) (L' := [some (.ref 0), some (.int w), some (.int (-1)), some (.int 0), some (.int 0), none]) (S' := []) (σ' := lm_T M1 v G) rfl trivial ?_
    refine lm_ind (α := Unit) (St := fun (j : Nat) zz => lm_G X (d + 8) 115 106 1 6 19 [some (.ref 0), some (.int w), some (.int ((mxS al (fLok F B s) nI 0 j).1)), some (.int ((mxS al (fLok F B s) nI 0 j).2)), some (.int (nI j)), none] [] (lm_T M1 v G) Q) (Inv := fun (j : Nat) zz => True) (fN F) (fun j zz hj hI ih => ?_) (fun zz hI => ?_) (0) () (by omega) ?_
    ·
      replace hI : True := hI
      replace ih : ∀ (_ : True), lm_G X (d + 8) 115 106 1 6 19 [some (.ref 0), some (.int w), some (.int ((mxS al (fLok F B s) nI 0 (j + 1)).1)), some (.int ((mxS al (fLok F B s) nI 0 (j + 1)).2)), some (.int (nI (j + 1))), none] [] (lm_T M1 v G) Q := fun q => ih () q
      show lm_G X (d + 8) 115 106 1 6 19 [some (.ref 0), some (.int w), some (.int ((mxS al (fLok F B s) nI 0 j).1)), some (.int ((mxS al (fLok F B s) nI 0 j).2)), some (.int (nI j)), none] [] (lm_T M1 v G) Q
      refine lm_G_sg 4 (pc' := 28) (L' := [some (.ref 0), some (.int w), some (.int ((mxS al (fLok F B s) nI 0 j).1)), some (.int ((mxS al (fLok F B s) nI 0 j).2)), some (.int (nI j)), none]) (S' := [.int (M1 14 0), .int (nI j)]) (σ' := lm_T M1 v G) rfl trivial ?_
      rw [show M1 14 0 = nI (fN F) from (congrFun (f1 14 rfl) 0).trans h.n]
      refine lm_G_br (b := (nI (fN F)) ≤ (nI j)) (t := 61) (S' := []) rfl (fun hc => absurd hc (nI_ge hj (by omega))) (fun hc => ?_)
      refine lm_G_sg 4 (pc' := 38) (L' := [some (.ref 0), some (.int w), some (.int ((mxS al (fLok F B s) nI 0 j).1)), some (.int ((mxS al (fLok F B s) nI 0 j).2)), some (.int (nI j)), none]) (S' := [.int (M1 62 (nI j).toNatClampNeg)]) (σ' := lm_T M1 v G) rfl ⟨(vp_in_nI (by omega) (by omega)), trivial, trivial⟩ ?_
      rw [show (nI j).toNatClampNeg = j from nI_clamp (by omega)]
      rw [show M1 62 j = unS F B s j (20 * fN F) from u1 j (by omega)]
      refine lm_G_ca (j := 244) (as := [.int (unS F B s j (20 * fN F))]) (rest := []) rfl (Or.inl rfl) (Nat.le_of_ble_eq_true rfl) (Nat.le_of_ble_eq_true rfl) (Nat.le_of_ble_eq_true rfl) (Nat.le_of_ble_eq_true rfl) rfl ?_
      refine c_bits (un_lt hF hs hj _) ?_
      show lm_G X (d + 8) 115 106 1 6 41 [some (.ref 0), some (.int w), some (.int ((mxS al (fLok F B s) nI 0 j).1)), some (.int ((mxS al (fLok F B s) nI 0 j).2)), some (.int (nI j)), none] [.int (fLok F B s j)] (lm_T M1 v G) Q
      refine lm_G_sg 3 (pc' := 46) (L' := [some (.ref 0), some (.int w), some (.int ((mxS al (fLok F B s) nI 0 j).1)), some (.int ((mxS al (fLok F B s) nI 0 j).2)), some (.int (nI j)), some (.int (fLok F B s j))]) (S' := [.int ((mxS al (fLok F B s) nI 0 j).2), .int (fLok F B s j)]) (σ' := lm_T M1 v G) rfl trivial ?_
      refine lm_G_br (b := (fLok F B s j) ≤ ((mxS al (fLok F B s) nI 0 j).2)) (t := 55) (S' := []) rfl (fun h5 => ?_) (fun h5 => ?_)
      ·
        refine lm_G_sg 1 (pc' := 58) (L' := [some (.ref 0), some (.int w), some (.int ((mxS al (fLok F B s) nI 0 j).1)), some (.int ((mxS al (fLok F B s) nI 0 j).2)), some (.int ((nI j) + 1)), some (.int (fLok F B s j))]) (S' := []) (σ' := lm_T M1 v G) rfl trivial ?_
        rw [nI_1]
        refine lm_G_sg 1 (pc' := 19) (L' := [some (.ref 0), some (.int w), some (.int ((mxS al (fLok F B s) nI 0 j).1)), some (.int ((mxS al (fLok F B s) nI 0 j).2)), some (.int (nI (j + 1))), some (.int (fLok F B s j))]) (S' := []) (σ' := lm_T M1 v G) rfl trivial ?_
        rw [mx_n (f := fLok F B s) (Int32.not_lt.mpr h5)] at ih
        refine lm_G_jk (L := [some (.ref 0), some (.int w), some (.int ((mxS al (fLok F B s) nI 0 j).1)), some (.int ((mxS al (fLok F B s) nI 0 j).2)), some (.int (nI (j + 1))), none]) ⟨rfl, rfl, rfl, rfl, rfl, trivial⟩ ?_
        exact ih  trivial
      ·
        refine lm_G_sg 5 (pc' := 58) (L' := [some (.ref 0), some (.int w), some (.int (nI j)), some (.int (fLok F B s j)), some (.int ((nI j) + 1)), some (.int (fLok F B s j))]) (S' := []) (σ' := lm_T M1 v G) rfl trivial ?_
        rw [nI_1]
        refine lm_G_sg 1 (pc' := 19) (L' := [some (.ref 0), some (.int w), some (.int (nI j)), some (.int (fLok F B s j)), some (.int (nI (j + 1))), some (.int (fLok F B s j))]) (S' := []) (σ' := lm_T M1 v G) rfl trivial ?_
        rw [mx_y (g := al) (f := fLok F B s) rfl (Int32.not_le.mp h5)] at ih
        refine lm_G_jk (L := [some (.ref 0), some (.int w), some (.int (nI j)), some (.int (fLok F B s j)), some (.int (nI (j + 1))), none]) ⟨rfl, rfl, rfl, rfl, rfl, trivial⟩ ?_
        exact ih  trivial
    ·
      replace hI : True := hI
      show lm_G X (d + 8) 115 106 1 6 19 [some (.ref 0), some (.int w), some (.int ((mxS al (fLok F B s) nI 0 (fN F)).1)), some (.int ((mxS al (fLok F B s) nI 0 (fN F)).2)), some (.int (nI (fN F))), none] [] (lm_T M1 v G) Q
      refine lm_G_sg 4 (pc' := 28) (L' := [some (.ref 0), some (.int w), some (.int ((mxS al (fLok F B s) nI 0 (fN F)).1)), some (.int ((mxS al (fLok F B s) nI 0 (fN F)).2)), some (.int (nI (fN F))), none]) (S' := [.int (M1 14 0), .int (nI (fN F))]) (σ' := lm_T M1 v G) rfl trivial ?_
      rw [show M1 14 0 = nI (fN F) from (congrFun (f1 14 rfl) 0).trans h.n]
      refine lm_G_br (b := (nI (fN F)) ≤ (nI (fN F))) (t := 61) (S' := []) rfl (fun hc => ?_) (fun hc => absurd (nI_le (Nat.le_refl _) (by omega)) hc)
      refine lm_G_sg 1 (pc' := 62) (L' := [some (.ref 0), some (.int w), some (.int ((mxS al (fLok F B s) nI 0 (fN F)).1)), some (.int ((mxS al (fLok F B s) nI 0 (fN F)).2)), some (.int (nI (fN F))), none]) (S' := [.int w]) (σ' := lm_T M1 v G) rfl trivial ?_
      rcases isP_2 hw with rfl | rfl
      ·
        refine lm_G_br (b := ¬ 0 = 0) (t := 69) (S' := []) rfl (fun hc => absurd rfl hc) (fun hc => ?_)
        refine lm_G_sg 2 (pc' := 70) (L' := [some (.ref 0), some (.int 0), some (.int ((mxS al (fLok F B s) nI 0 (fN F)).1)), some (.int ((mxS al (fLok F B s) nI 0 (fN F)).2)), some (.int (nI (fN F))), none]) (S' := [.int ((mxS al (fLok F B s) nI 0 (fN F)).1)]) (σ' := lm_T M1 v G) rfl trivial ?_
        rw [show aLook F B s 0 = .inl (mxS al (fLok F B s) nI 0 (fN F)).1 from by simp +decide only [aLook, hw, if_true, if_false, Bool.and_true, Bool.true_and, Bool.and_self, Bool.false_and, Bool.and_false, Bool.false_eq_true]] at hQ
        exact lm_G_re rfl trivial (Nat.le_of_ble_eq_true rfl) (Nat.le_of_ble_eq_true rfl) (hQ _ f1)
      ·
        refine lm_G_br (b := ¬ 1 = 0) (t := 69) (S' := []) rfl (fun hc => ?_) (fun hc => absurd (by decide) hc)
        refine lm_G_sg 1 (pc' := 70) (L' := [some (.ref 0), some (.int 1), some (.int ((mxS al (fLok F B s) nI 0 (fN F)).1)), some (.int ((mxS al (fLok F B s) nI 0 (fN F)).2)), some (.int (nI (fN F))), none]) (S' := [.int ((mxS al (fLok F B s) nI 0 (fN F)).2)]) (σ' := lm_T M1 v G) rfl trivial ?_
        rw [show aLook F B s 1 = .inl (mxS al (fLok F B s) nI 0 (fN F)).2 from by simp +decide only [aLook, hw, if_true, if_false, Bool.and_true, Bool.true_and, Bool.and_self, Bool.false_and, Bool.and_false, Bool.false_eq_true]] at hQ
        exact lm_G_re rfl trivial (Nat.le_of_ble_eq_true rfl) (Nat.le_of_ble_eq_true rfl) (hQ _ f1)
    ·
      trivial
