/-! ===== contracts: tokens of the model ===== -/
def byS (T : Tx) (q : Nat) : Int32 := if q < tN T then nI (tB T q) else -1
theorem by_y {T : Tx} {q : Nat} (h : q < tN T) : byS T q = nI (tB T q) := if_pos h
theorem by_n {T : Tx} {q : Nat} (h : ¬ q < tN T) : byS T q = -1 := if_neg h
/-- a byte or nothing: of a kind -/
def liS (f : Nat → Bool) (T : Tx) (q : Nat) : Bool := decide (q < tN T) && f (tB T q)
theorem li_y {f : Nat → Bool} {T : Tx} {q : Nat} (h : q < tN T) : liS f T q = f (tB T q) := by unfold liS; rw [decide_eq_true h]; rfl
theorem li_n {f : Nat → Bool} {T : Tx} {q : Nat} (h : ¬ q < tN T) : liS f T q = false := by unfold liS; rw [decide_eq_false h]; rfl
theorem m1_lt (c : Nat) (hc : c < 128) : (-1 : Int32) < nI c ∧ ¬ (-1 : Int32) = nI c := by
  refine ⟨Int32.lt_of_lt_of_le (by decide) (nI_pos' (n := c) (by omega)), fun w => nI_m1 (by omega) w.symm⟩
set_option maxRecDepth 10000 in
theorem m_byteAt {X : lm_X} {d v : Nat} {M : Nat → Nat → Int32} {G : Nat → Nat → Int64} {Q : lm_O → lm_S → Prop} {T : Tx} {q : Nat} (hT : okT T) (hr : RDm M T) (hq : q ≤ 700) (hQ : Q (.inl (some (.int (byS T q)))) (lm_T M v G)) : lm_Q X d 149 [.ref 64, .int (nI q)] (lm_T M v G) Q := by
  show lm_G X d 149 106 0 0 0 [some (.ref 64), some (.int (nI q))] [] (lm_T M v G) Q
  have hn := hT.1
  refine lm_G_sg 3 (pc' := 5) (L' := [some (.ref 64), some (.int (nI q))]) (S' := [.int (M 64 20), .int (nI q)]) (σ' := lm_T M v G) rfl trivial ?_
  rw [show M 64 20 = nI (tN T) from hr.1]
  refine lm_G_br (b := (nI (tN T)) ≤ (nI q)) (t := 17) (S' := []) rfl (fun h1 => ?_) (fun h1 => ?_)
  ·
    rw [by_n (fun w => nI_ge w (by omega) h1)] at hQ
    refine lm_G_sg 1 (pc' := 18) (L' := [some (.ref 64), some (.int (nI q))]) (S' := [.int (-1)]) (σ' := lm_T M v G) rfl trivial ?_
    exact lm_G_re rfl trivial (Nat.zero_le _) (Nat.zero_le _) hQ
  ·
    have hl : q < tN T := Nat.lt_of_not_le (fun w => h1 (nI_le w (by omega)))
    rw [by_y hl] at hQ
    refine lm_G_sg 4 (pc' := 14) (L' := [some (.ref 64), some (.int (nI q))]) (S' := [.int (M 80 (nI q).toNatClampNeg)]) (σ' := lm_T M v G) rfl ⟨(vp_in_nI (by omega) (by omega)), trivial, trivial⟩ ?_
    rw [show (nI q).toNatClampNeg = q from nI_clamp (by omega)]
    rw [show M 80 q = nI (tB T q) from hr.2 q (by omega)]
    refine lm_G_sg 1 (pc' := 18) (L' := [some (.ref 64), some (.int (nI q))]) (S' := [.int (nI (tB T q))]) (σ' := lm_T M v G) rfl trivial ?_
    exact lm_G_re rfl trivial (Nat.zero_le _) (Nat.zero_le _) hQ
set_option maxRecDepth 10000 in
theorem m_isLetter {X : lm_X} {d v : Nat} {M : Nat → Nat → Int32} {G : Nat → Nat → Int64} {Q : lm_O → lm_S → Prop} {T : Tx} {q : Nat} (hT : okT T) (hQ : Q (.inl (some (.int (b2i (liS ltS T q))))) (lm_T M v G)) : lm_Q X d 150 [.int (byS T q)] (lm_T M v G) Q := by
  show lm_G X d 150 106 0 0 0 [some (.int (byS T q))] [] (lm_T M v G) Q
  by_cases hl : q < tN T
  rotate_left
  ·
    rw [by_n hl]
    rw [li_n hl] at hQ
    refine lm_G_sg 2 (pc' := 3) (L' := [some (.int (-1))]) (S' := [.int 97, .int (-1)]) (σ' := lm_T M v G) rfl trivial ?_
    refine lm_G_br (b := (-1) < 97) (t := 16) (S' := []) rfl (fun hc => ?_) (fun hc => absurd (by decide) hc)
    refine lm_G_sg 1 (pc' := 17) (L' := [some (.int (-1))]) (S' := [.int 0]) (σ' := lm_T M v G) rfl trivial ?_
    exact lm_G_re rfl (by decide) (Nat.zero_le _) (Nat.zero_le _) hQ
  ·
    have hb := hT.2 q hl
    rw [by_y hl]
    rw [li_y hl] at hQ
    refine lm_G_sg 2 (pc' := 3) (L' := [some (.int (nI (tB T q)))]) (S' := [.int 97, .int (nI (tB T q))]) (σ' := lm_T M v G) rfl trivial ?_
    refine lm_G_br (b := (nI (tB T q)) < 97) (t := 16) (S' := []) rfl (fun h1 => ?_) (fun h1 => ?_)
    ·
      rw [show ltS (tB T q) = false from Bool.eq_false_iff.mpr (fun w => nI_nlt (b := 97) (lt_iff.mp w).1 (by omega) h1)] at hQ
      refine lm_G_sg 1 (pc' := 17) (L' := [some (.int (nI (tB T q)))]) (S' := [.int 0]) (σ' := lm_T M v G) rfl trivial ?_
      exact lm_G_re rfl (by decide) (Nat.zero_le _) (Nat.zero_le _) hQ
    ·
      refine lm_G_sg 2 (pc' := 9) (L' := [some (.int (nI (tB T q)))]) (S' := [.int 122, .int (nI (tB T q))]) (σ' := lm_T M v G) rfl trivial ?_
      refine lm_G_br (b := 122 < (nI (tB T q))) (t := 16) (S' := []) rfl (fun h2 => ?_) (fun h2 => ?_)
      ·
        rw [show ltS (tB T q) = false from Bool.eq_false_iff.mpr (fun w => nI_nlt (a := 122) (lt_iff.mp w).2 (by omega) h2)] at hQ
        refine lm_G_sg 1 (pc' := 17) (L' := [some (.int (nI (tB T q)))]) (S' := [.int 0]) (σ' := lm_T M v G) rfl trivial ?_
        exact lm_G_re rfl (by decide) (Nat.zero_le _) (Nat.zero_le _) hQ
      ·
        rw [show ltS (tB T q) = true from lt_iff.mpr ⟨Nat.le_of_not_lt (fun w => h1 (nI_lt (b := 97) w (by omega))), Nat.le_of_not_lt (fun w => h2 (nI_lt (a := 122) w (by omega)))⟩] at hQ
        refine lm_G_sg 2 (pc' := 17) (L' := [some (.int (nI (tB T q)))]) (S' := [.int 1]) (σ' := lm_T M v G) rfl trivial ?_
        exact lm_G_re rfl (by decide) (Nat.zero_le _) (Nat.zero_le _) hQ
set_option maxRecDepth 10000 in
theorem m_isDigit {X : lm_X} {d v : Nat} {M : Nat → Nat → Int32} {G : Nat → Nat → Int64} {Q : lm_O → lm_S → Prop} {T : Tx} {q : Nat} (hT : okT T) (hQ : Q (.inl (some (.int (b2i (liS dgS T q))))) (lm_T M v G)) : lm_Q X d 151 [.int (byS T q)] (lm_T M v G) Q := by
  show lm_G X d 151 106 0 0 0 [some (.int (byS T q))] [] (lm_T M v G) Q
  by_cases hl : q < tN T
  rotate_left
  ·
    rw [by_n hl]
    rw [li_n hl] at hQ
    refine lm_G_sg 2 (pc' := 3) (L' := [some (.int (-1))]) (S' := [.int 48, .int (-1)]) (σ' := lm_T M v G) rfl trivial ?_
    refine lm_G_br (b := (-1) < 48) (t := 16) (S' := []) rfl (fun hc => ?_) (fun hc => absurd (by decide) hc)
    refine lm_G_sg 1 (pc' := 17) (L' := [some (.int (-1))]) (S' := [.int 0]) (σ' := lm_T M v G) rfl trivial ?_
    exact lm_G_re rfl (by decide) (Nat.zero_le _) (Nat.zero_le _) hQ
  ·
    have hb := hT.2 q hl
    rw [by_y hl]
    rw [li_y hl] at hQ
    refine lm_G_sg 2 (pc' := 3) (L' := [some (.int (nI (tB T q)))]) (S' := [.int 48, .int (nI (tB T q))]) (σ' := lm_T M v G) rfl trivial ?_
    refine lm_G_br (b := (nI (tB T q)) < 48) (t := 16) (S' := []) rfl (fun h1 => ?_) (fun h1 => ?_)
    ·
      rw [show dgS (tB T q) = false from Bool.eq_false_iff.mpr (fun w => nI_nlt (b := 48) (dg_iff.mp w).1 (by omega) h1)] at hQ
      refine lm_G_sg 1 (pc' := 17) (L' := [some (.int (nI (tB T q)))]) (S' := [.int 0]) (σ' := lm_T M v G) rfl trivial ?_
      exact lm_G_re rfl (by decide) (Nat.zero_le _) (Nat.zero_le _) hQ
    ·
      refine lm_G_sg 2 (pc' := 9) (L' := [some (.int (nI (tB T q)))]) (S' := [.int 57, .int (nI (tB T q))]) (σ' := lm_T M v G) rfl trivial ?_
      refine lm_G_br (b := 57 < (nI (tB T q))) (t := 16) (S' := []) rfl (fun h2 => ?_) (fun h2 => ?_)
      ·
        rw [show dgS (tB T q) = false from Bool.eq_false_iff.mpr (fun w => nI_nlt (a := 57) (dg_iff.mp w).2 (by omega) h2)] at hQ
        refine lm_G_sg 1 (pc' := 17) (L' := [some (.int (nI (tB T q)))]) (S' := [.int 0]) (σ' := lm_T M v G) rfl trivial ?_
        exact lm_G_re rfl (by decide) (Nat.zero_le _) (Nat.zero_le _) hQ
      ·
        rw [show dgS (tB T q) = true from dg_iff.mpr ⟨Nat.le_of_not_lt (fun w => h1 (nI_lt (b := 48) w (by omega))), Nat.le_of_not_lt (fun w => h2 (nI_lt (a := 57) w (by omega)))⟩] at hQ
        refine lm_G_sg 2 (pc' := 17) (L' := [some (.int (nI (tB T q)))]) (S' := [.int 1]) (σ' := lm_T M v G) rfl trivial ?_
        exact lm_G_re rfl (by decide) (Nat.zero_le _) (Nat.zero_le _) hQ
set_option maxRecDepth 10000 in
theorem m_isMark {X : lm_X} {d v : Nat} {M : Nat → Nat → Int32} {G : Nat → Nat → Int64} {Q : lm_O → lm_S → Prop} {b : Nat} (hb : b < 256) (hQ : Q (.inl (some (.int (b2i (mkS b))))) (lm_T M v G)) : lm_Q X d 152 [.int (nI b)] (lm_T M v G) Q := by
  show lm_G X d 152 106 0 0 0 [some (.int (nI b))] [] (lm_T M v G) Q
  refine lm_G_sg 2 (pc' := 3) (L' := [some (.int (nI b))]) (S' := [.int 59, .int (nI b)]) (σ' := lm_T M v G) rfl trivial ?_
  refine lm_G_br (b := (nI b) = 59) (t := 54) (S' := []) rfl (fun g0 => ?_) (fun g0 => ?_)
  ·
    have e : b = 59 := (nI_eq (b := 59) (by omega) (by omega)).mp g0
    rw [show mkS b = true from by rw [e]; decide] at hQ
    refine lm_G_sg 2 (pc' := 59) (L' := [some (.int (nI b))]) (S' := [.int 1]) (σ' := lm_T M v G) rfl trivial ?_
    exact lm_G_re rfl (by decide) (Nat.zero_le _) (Nat.zero_le _) hQ
  ·
    have n0 : ¬ b = 59 := fun w => g0 (by rw [w]; rfl)
    refine lm_G_sg 2 (pc' := 9) (L' := [some (.int (nI b))]) (S' := [.int 40, .int (nI b)]) (σ' := lm_T M v G) rfl trivial ?_
    refine lm_G_br (b := (nI b) = 40) (t := 54) (S' := []) rfl (fun g1 => ?_) (fun g1 => ?_)
    ·
      have e : b = 40 := (nI_eq (b := 40) (by omega) (by omega)).mp g1
      rw [show mkS b = true from by rw [e]; decide] at hQ
      refine lm_G_sg 2 (pc' := 59) (L' := [some (.int (nI b))]) (S' := [.int 1]) (σ' := lm_T M v G) rfl trivial ?_
      exact lm_G_re rfl (by decide) (Nat.zero_le _) (Nat.zero_le _) hQ
    ·
      have n1 : ¬ b = 40 := fun w => g1 (by rw [w]; rfl)
      refine lm_G_sg 2 (pc' := 15) (L' := [some (.int (nI b))]) (S' := [.int 41, .int (nI b)]) (σ' := lm_T M v G) rfl trivial ?_
      refine lm_G_br (b := (nI b) = 41) (t := 54) (S' := []) rfl (fun g2 => ?_) (fun g2 => ?_)
      ·
        have e : b = 41 := (nI_eq (b := 41) (by omega) (by omega)).mp g2
        rw [show mkS b = true from by rw [e]; decide] at hQ
        refine lm_G_sg 2 (pc' := 59) (L' := [some (.int (nI b))]) (S' := [.int 1]) (σ' := lm_T M v G) rfl trivial ?_
        exact lm_G_re rfl (by decide) (Nat.zero_le _) (Nat.zero_le _) hQ
      ·
        have n2 : ¬ b = 41 := fun w => g2 (by rw [w]; rfl)
        refine lm_G_sg 2 (pc' := 21) (L' := [some (.int (nI b))]) (S' := [.int 43, .int (nI b)]) (σ' := lm_T M v G) rfl trivial ?_
        refine lm_G_br (b := (nI b) = 43) (t := 54) (S' := []) rfl (fun g3 => ?_) (fun g3 => ?_)
        ·
          have e : b = 43 := (nI_eq (b := 43) (by omega) (by omega)).mp g3
          rw [show mkS b = true from by rw [e]; decide] at hQ
          refine lm_G_sg 2 (pc' := 59) (L' := [some (.int (nI b))]) (S' := [.int 1]) (σ' := lm_T M v G) rfl trivial ?_
          exact lm_G_re rfl (by decide) (Nat.zero_le _) (Nat.zero_le _) hQ
        ·
          have n3 : ¬ b = 43 := fun w => g3 (by rw [w]; rfl)
          refine lm_G_sg 2 (pc' := 27) (L' := [some (.int (nI b))]) (S' := [.int 45, .int (nI b)]) (σ' := lm_T M v G) rfl trivial ?_
          refine lm_G_br (b := (nI b) = 45) (t := 54) (S' := []) rfl (fun g4 => ?_) (fun g4 => ?_)
          ·
            have e : b = 45 := (nI_eq (b := 45) (by omega) (by omega)).mp g4
            rw [show mkS b = true from by rw [e]; decide] at hQ
            refine lm_G_sg 2 (pc' := 59) (L' := [some (.int (nI b))]) (S' := [.int 1]) (σ' := lm_T M v G) rfl trivial ?_
            exact lm_G_re rfl (by decide) (Nat.zero_le _) (Nat.zero_le _) hQ
          ·
            have n4 : ¬ b = 45 := fun w => g4 (by rw [w]; rfl)
            refine lm_G_sg 2 (pc' := 33) (L' := [some (.int (nI b))]) (S' := [.int 42, .int (nI b)]) (σ' := lm_T M v G) rfl trivial ?_
            refine lm_G_br (b := (nI b) = 42) (t := 54) (S' := []) rfl (fun g5 => ?_) (fun g5 => ?_)
            ·
              have e : b = 42 := (nI_eq (b := 42) (by omega) (by omega)).mp g5
              rw [show mkS b = true from by rw [e]; decide] at hQ
              refine lm_G_sg 2 (pc' := 59) (L' := [some (.int (nI b))]) (S' := [.int 1]) (σ' := lm_T M v G) rfl trivial ?_
              exact lm_G_re rfl (by decide) (Nat.zero_le _) (Nat.zero_le _) hQ
            ·
              have n5 : ¬ b = 42 := fun w => g5 (by rw [w]; rfl)
              refine lm_G_sg 2 (pc' := 39) (L' := [some (.int (nI b))]) (S' := [.int 47, .int (nI b)]) (σ' := lm_T M v G) rfl trivial ?_
              refine lm_G_br (b := (nI b) = 47) (t := 54) (S' := []) rfl (fun g6 => ?_) (fun g6 => ?_)
              ·
                have e : b = 47 := (nI_eq (b := 47) (by omega) (by omega)).mp g6
                rw [show mkS b = true from by rw [e]; decide] at hQ
                refine lm_G_sg 2 (pc' := 59) (L' := [some (.int (nI b))]) (S' := [.int 1]) (σ' := lm_T M v G) rfl trivial ?_
                exact lm_G_re rfl (by decide) (Nat.zero_le _) (Nat.zero_le _) hQ
              ·
                have n6 : ¬ b = 47 := fun w => g6 (by rw [w]; rfl)
                refine lm_G_sg 2 (pc' := 45) (L' := [some (.int (nI b))]) (S' := [.int 60, .int (nI b)]) (σ' := lm_T M v G) rfl trivial ?_
                refine lm_G_br (b := (nI b) = 60) (t := 54) (S' := []) rfl (fun g7 => ?_) (fun g7 => ?_)
                ·
                  have e : b = 60 := (nI_eq (b := 60) (by omega) (by omega)).mp g7
                  rw [show mkS b = true from by rw [e]; decide] at hQ
                  refine lm_G_sg 2 (pc' := 59) (L' := [some (.int (nI b))]) (S' := [.int 1]) (σ' := lm_T M v G) rfl trivial ?_
                  exact lm_G_re rfl (by decide) (Nat.zero_le _) (Nat.zero_le _) hQ
                ·
                  have n7 : ¬ b = 60 := fun w => g7 (by rw [w]; rfl)
                  refine lm_G_sg 2 (pc' := 51) (L' := [some (.int (nI b))]) (S' := [.int 61, .int (nI b)]) (σ' := lm_T M v G) rfl trivial ?_
                  refine lm_G_br (b := ¬ (nI b) = 61) (t := 58) (S' := []) rfl (fun g8 => ?_) (fun g8 => ?_)
                  rotate_left
                  ·
                    have e : b = 61 := (nI_eq (b := 61) (by omega) (by omega)).mp (Classical.not_not.mp g8)
                    rw [show mkS b = true from by rw [e]; decide] at hQ
                    refine lm_G_sg 2 (pc' := 59) (L' := [some (.int (nI b))]) (S' := [.int 1]) (σ' := lm_T M v G) rfl trivial ?_
                    exact lm_G_re rfl (by decide) (Nat.zero_le _) (Nat.zero_le _) hQ
                  ·
                    have n8 : ¬ b = 61 := fun w => g8 (by rw [w]; rfl)
                    rw [show mkS b = false from by unfold mkS; rw [decide_eq_false n0, decide_eq_false n1, decide_eq_false n2, decide_eq_false n3, decide_eq_false n4, decide_eq_false n5, decide_eq_false n6, decide_eq_false n7, decide_eq_false n8]; rfl] at hQ
                    refine lm_G_sg 1 (pc' := 59) (L' := [some (.int (nI b))]) (S' := [.int 0]) (σ' := lm_T M v G) rfl trivial ?_
                    exact lm_G_re rfl (by decide) (Nat.zero_le _) (Nat.zero_le _) hQ
set_option maxRecDepth 10000 in
theorem m_stepOn {X : lm_X} {d v : Nat} {M : Nat → Nat → Int32} {G : Nat → Nat → Int64} {Q : lm_O → lm_S → Prop} {T : Tx} {p : Nat} (hT : okT T) (hr : RDm M T) (hp : p ≤ tN T) (ha : M 64 19 = nI p) (hQ : ∀ M1, RN M1 T p → FrK M M1 → Q (.inl none) (lm_T M1 v G)) : lm_Q X (d + 1) 153 [.ref 64] (lm_T M v G) Q := by
  show lm_G X (d + 1) 153 106 0 0 0 [some (.ref 64), none] [] (lm_T M v G) Q
  have hn := hT.1
  obtain ⟨sl1, sl2⟩ := st_le hp
  obtain ⟨el1, el2, el3⟩ := en_le hp
  have k212 : ∀ (M2 : Nat → Fn) (a2 : M2 64 19 = nI (enS T p)) (b2 : M2 64 23 = nI (stS' T p)) (t2 : M2 64 21 = nI (tkS T p)) (r2 : RDm M2 T) (u2 : knS T p = 2 → lnS T p ≤ 4 → M2 64 22 = nI (nuS T p)) (f2 : FrK M M2), lm_G X (d + 1) 153 106 0 0 212 [some (.ref 64), none] [] (lm_T M2 v G) Q := by
    intro M2 a2 b2 t2 r2 u2 f2
    refine lm_G_sg 3 (pc' := 217) (L' := [some (.ref 64), none]) (S' := [.int (M2 64 19), .ref 64]) (σ' := lm_T M2 v G) rfl trivial ?_
    rw [show M2 64 19 = nI (enS T p) from a2]
    refine lm_G_sg 1 (pc' := 220) (L' := [some (.ref 64), none]) (S' := []) (σ' := lm_T (lm_wr M2 64 24 (nI (enS T p))) v G) rfl ⟨trivial, trivial, trivial⟩ ?_
    exact lm_G_re rfl trivial (Nat.zero_le _) (Nat.zero_le _) (hQ _ ⟨⟨(wr_at (by decide)).trans r2.1, r2.2⟩, (wr_at (by decide)).trans t2, (wr_at (by decide)).trans b2, wr_same, (wr_at (by decide)).trans a2, fun x y => (wr_at (by decide)).trans (u2 x y)⟩ (FrK_w f2 (by decide)))
  have k39 : ∀ (M2 : Nat → Fn) (i2 : M2 64 19 = nI ((stS' T p)) ∧ RDm M2 T ∧ FrK M M2), lm_G X (d + 1) 153 106 0 0 39 [some (.ref 64), none] [] (lm_T M2 v G) Q := by
    intro M2 i2
    obtain ⟨s2, r2, f2⟩ := i2
    refine lm_G_sg 3 (pc' := 44) (L' := [some (.ref 64), none]) (S' := [.int (M2 64 19), .ref 64]) (σ' := lm_T M2 v G) rfl trivial ?_
    rw [show M2 64 19 = nI (stS' T p) from s2]
    refine lm_G_sg 1 (pc' := 47) (L' := [some (.ref 64), none]) (S' := []) (σ' := lm_T (lm_wr M2 64 23 (nI (stS' T p))) v G) rfl ⟨trivial, trivial, trivial⟩ ?_
    have a3 : (lm_wr M2 64 23 (nI (stS' T p))) 64 19 = nI (stS' T p) := (wr_at (by decide)).trans s2
    have b3 : (lm_wr M2 64 23 (nI (stS' T p))) 64 23 = nI (stS' T p) := wr_same
    have r3 : RDm (lm_wr M2 64 23 (nI (stS' T p))) T := ⟨(wr_at (by decide)).trans r2.1, r2.2⟩
    have f3 : FrK M (lm_wr M2 64 23 (nI (stS' T p))) := FrK_w f2 (by decide)
    revert a3 b3 r3 f3
    generalize lm_wr M2 64 23 (nI (stS' T p)) = M3
    intro a3 b3 r3 f3
    refine lm_G_sg 3 (pc' := 52) (L' := [some (.ref 64), none]) (S' := [.int (M3 64 19), .ref 64]) (σ' := lm_T M3 v G) rfl trivial ?_
    rw [show M3 64 19 = nI (stS' T p) from a3]
    refine lm_G_ca (j := 149) (as := [.ref 64, .int (nI (stS' T p))]) (rest := []) rfl (Or.inl rfl) (Nat.le_of_ble_eq_true rfl) (Nat.le_of_ble_eq_true rfl) (Nat.le_of_ble_eq_true rfl) (Nat.le_of_ble_eq_true rfl) rfl ?_
    refine m_byteAt hT r3 (by omega) ?_
    show lm_G X (d + 1) 153 106 0 0 55 [some (.ref 64), none] [.int (byS T (stS' T p))] (lm_T M3 v G) Q
    refine lm_G_sg 3 (pc' := 58) (L' := [some (.ref 64), some (.int (byS T (stS' T p)))]) (S' := [.int (-1), .int (byS T (stS' T p))]) (σ' := lm_T M3 v G) rfl trivial ?_
    refine lm_G_br (b := ¬ (byS T (stS' T p)) = (-1)) (t := 69) (S' := []) rfl (fun h1 => ?_) (fun h1 => ?_)
    rotate_left
    ·
      have nl : ¬ stS' T p < tN T := fun w => nI_m1 (by have := hT.2 _ w; omega) ((by_y w).symm.trans (Classical.not_not.mp h1))
      have k0 : knS T p = 0 := kn_0.mpr (Nat.le_of_not_lt nl)
      have tk : tkS T p = 0 := by unfold tkS; rw [k0]; rfl
      refine lm_G_sg 4 (pc' := 212) (L' := [some (.ref 64), some (.int (byS T (stS' T p)))]) (S' := []) (σ' := lm_T (lm_wr M3 64 21 0) v G) rfl ⟨trivial, trivial, trivial⟩ ?_
      refine lm_G_jk (L := [some (.ref 64), none]) ⟨rfl, trivial⟩ ?_
      exact k212 _ ((wr_at (by decide)).trans (by rw [en_0 k0]; exact a3)) ((wr_at (by decide)).trans b3) (wr_same.trans (by rw [tk]; rfl)) ⟨(wr_at (by decide)).trans r3.1, r3.2⟩ (fun w => absurd (k0.symm.trans w) (by decide)) (FrK_w f3 (by decide))
    ·
      have hl : stS' T p < tN T := Classical.byContradiction (fun w => h1 (by_n w))
      have hbb := hT.2 _ hl
      refine lm_G_sg 1 (pc' := 70) (L' := [some (.ref 64), some (.int (byS T (stS' T p)))]) (S' := [.int (byS T (stS' T p))]) (σ' := lm_T M3 v G) rfl trivial ?_
      refine lm_G_ca (j := 150) (as := [.int (byS T (stS' T p))]) (rest := []) rfl (Or.inl rfl) (Nat.le_of_ble_eq_true rfl) (Nat.le_of_ble_eq_true rfl) (Nat.le_of_ble_eq_true rfl) (Nat.le_of_ble_eq_true rfl) rfl ?_
      refine m_isLetter hT ?_
      show lm_G X (d + 1) 153 106 0 0 73 [some (.ref 64), some (.int (byS T (stS' T p)))] [.int (b2i (liS ltS T (stS' T p)))] (lm_T M3 v G) Q
      rw [li_y hl]
      refine lm_G_br (b := (b2i (ltS (tB T (stS' T p)))) = 0) (t := 111) (S' := []) rfl (fun h4 => ?_) (fun h4 => ?_)
      rotate_left
      ·
        have k1 := kn_1 hl (b2i_1 h4)
        have ek := en_1 k1
        have tk : tkS T p = 1 := by unfold tkS; rw [k1]; rfl
        refine lm_G_jk (L := [some (.ref 64), none]) ⟨rfl, trivial⟩ ?_
        refine lm_ind (α := (Nat → Fn)) (St := fun (j : Nat) zz => (fun (M5 : Nat → Fn) => lm_G X (d + 1) 153 106 0 0 76 [some (.ref 64), none] [] (lm_T M5 v G) Q) zz) (Inv := fun (j : Nat) zz => (fun (M5 : Nat → Fn) => M5 64 19 = nI ((stS' T p) + j) ∧ M5 64 23 = nI (stS' T p) ∧ RDm M5 T ∧ FrK M M5) zz) (enS T p - (stS' T p)) (fun j zz hj hI ih => ?_) (fun zz hI => ?_) (0) M3 (by omega) ?_
        ·
          revert ih hI
          revert zz
          intro M5 hI ih
          replace hI : M5 64 19 = nI ((stS' T p) + j) ∧ M5 64 23 = nI (stS' T p) ∧ RDm M5 T ∧ FrK M M5 := hI
          replace ih : ∀ (M5 : Nat → Fn) (_ : M5 64 19 = nI ((stS' T p) + (j + 1)) ∧ M5 64 23 = nI (stS' T p) ∧ RDm M5 T ∧ FrK M M5), lm_G X (d + 1) 153 106 0 0 76 [some (.ref 64), none] [] (lm_T M5 v G) Q := fun M5 q => ih M5 q
          show lm_G X (d + 1) 153 106 0 0 76 [some (.ref 64), none] [] (lm_T M5 v G) Q
          obtain ⟨a5, b5, r5, f5⟩ := hI
          have hj5 : stS' T p + j < tN T := by omega
          have hb5 := hT.2 _ hj5
          have hc5 : ltS (tB T (stS' T p + j)) = true := run_in (c := fun i => ltS (tB T i)) (n := tN T) _ (stS' T p) rfl _ (by omega) (by omega)
          refine lm_G_sg 3 (pc' := 81) (L' := [some (.ref 64), none]) (S' := [.int (M5 64 19), .ref 64]) (σ' := lm_T M5 v G) rfl trivial ?_
          rw [show M5 64 19 = nI ((stS' T p) + j) from a5]
          refine lm_G_ca (j := 149) (as := [.ref 64, .int (nI ((stS' T p) + j))]) (rest := []) rfl (Or.inl rfl) (Nat.le_of_ble_eq_true rfl) (Nat.le_of_ble_eq_true rfl) (Nat.le_of_ble_eq_true rfl) (Nat.le_of_ble_eq_true rfl) rfl ?_
          refine m_byteAt hT r5 (by omega) ?_
          show lm_G X (d + 1) 153 106 0 0 84 [some (.ref 64), none] [.int (byS T ((stS' T p) + j))] (lm_T M5 v G) Q
          refine lm_G_ca (j := 150) (as := [.int (byS T ((stS' T p) + j))]) (rest := []) rfl (Or.inl rfl) (Nat.le_of_ble_eq_true rfl) (Nat.le_of_ble_eq_true rfl) (Nat.le_of_ble_eq_true rfl) (Nat.le_of_ble_eq_true rfl) rfl ?_
          refine m_isLetter hT ?_
          show lm_G X (d + 1) 153 106 0 0 87 [some (.ref 64), none] [.int (b2i (liS ltS T ((stS' T p) + j)))] (lm_T M5 v G) Q
          rw [li_y hj5, hc5]
          refine lm_G_br (b := (b2i true) = 0) (t := 103) (S' := []) rfl (fun h6 => absurd h6 (by decide)) (fun h6 => ?_)
          refine lm_G_sg 3 (pc' := 95) (L' := [some (.ref 64), none]) (S' := [.int (M5 64 19), .ref 64]) (σ' := lm_T M5 v G) rfl trivial ?_
          rw [show M5 64 19 = nI ((stS' T p) + j) from a5]
          refine lm_G_sg 2 (pc' := 97) (L' := [some (.ref 64), none]) (S' := [.int ((nI ((stS' T p) + j)) + 1), .ref 64]) (σ' := lm_T M5 v G) rfl trivial ?_
          rw [show (nI ((stS' T p) + j)) + 1 = nI (((stS' T p) + j) + 1) from nI_add ((stS' T p) + j) 1]
          refine lm_G_sg 2 (pc' := 76) (L' := [some (.ref 64), none]) (S' := []) (σ' := lm_T (lm_wr M5 64 19 (nI (((stS' T p) + j) + 1))) v G) rfl ⟨trivial, trivial, trivial⟩ ?_
          exact ih _ (⟨wr_same, (wr_at (by decide)).trans b5, ⟨(wr_at (by decide)).trans r5.1, r5.2⟩, FrK_w f5 (by decide)⟩)
        ·
          revert hI
          revert zz
          intro M5 hI
          replace hI : M5 64 19 = nI ((stS' T p) + (enS T p - (stS' T p))) ∧ M5 64 23 = nI (stS' T p) ∧ RDm M5 T ∧ FrK M M5 := hI
          show lm_G X (d + 1) 153 106 0 0 76 [some (.ref 64), none] [] (lm_T M5 v G) Q
          rw [show stS' T p + (enS T p - stS' T p) = enS T p by omega] at hI
          obtain ⟨a5, b5, r5, f5⟩ := hI
          refine lm_G_sg 3 (pc' := 81) (L' := [some (.ref 64), none]) (S' := [.int (M5 64 19), .ref 64]) (σ' := lm_T M5 v G) rfl trivial ?_
          rw [show M5 64 19 = nI (enS T p) from a5]
          refine lm_G_ca (j := 149) (as := [.ref 64, .int (nI (enS T p))]) (rest := []) rfl (Or.inl rfl) (Nat.le_of_ble_eq_true rfl) (Nat.le_of_ble_eq_true rfl) (Nat.le_of_ble_eq_true rfl) (Nat.le_of_ble_eq_true rfl) rfl ?_
          refine m_byteAt hT r5 (by omega) ?_
          show lm_G X (d + 1) 153 106 0 0 84 [some (.ref 64), none] [.int (byS T (enS T p))] (lm_T M5 v G) Q
          refine lm_G_ca (j := 150) (as := [.int (byS T (enS T p))]) (rest := []) rfl (Or.inl rfl) (Nat.le_of_ble_eq_true rfl) (Nat.le_of_ble_eq_true rfl) (Nat.le_of_ble_eq_true rfl) (Nat.le_of_ble_eq_true rfl) rfl ?_
          refine m_isLetter hT ?_
          show lm_G X (d + 1) 153 106 0 0 87 [some (.ref 64), none] [.int (b2i (liS ltS T (enS T p)))] (lm_T M5 v G) Q
          have e0 : liS ltS T (enS T p) = false := by
            by_cases w : enS T p < tN T
            · rw [li_y w]
              have := run_e (c := fun i => ltS (tB T i)) (n := tN T) _ (stS' T p) rfl (by rw [← ek]; exact w)
              rw [← ek] at this
              exact this
            · exact li_n w
          rw [e0]
          refine lm_G_br (b := (b2i false) = 0) (t := 103) (S' := []) rfl (fun h6 => ?_) (fun h6 => absurd rfl h6)
          refine lm_G_sg 4 (pc' := 212) (L' := [some (.ref 64), none]) (S' := []) (σ' := lm_T (lm_wr M5 64 21 1) v G) rfl ⟨trivial, trivial, trivial⟩ ?_
          exact k212 _ ((wr_at (by decide)).trans a5) ((wr_at (by decide)).trans b5) (wr_same.trans (by rw [tk]; rfl)) ⟨(wr_at (by decide)).trans r5.1, r5.2⟩ (fun w => absurd (k1.symm.trans w) (by decide)) (FrK_w f5 (by decide))
        ·
          try dsimp only
          exact ⟨a3, b3, r3, f3⟩
      ·
        have l4 := b2i_0 h4
        refine lm_G_sg 1 (pc' := 112) (L' := [some (.ref 64), some (.int (byS T (stS' T p)))]) (S' := [.int (byS T (stS' T p))]) (σ' := lm_T M3 v G) rfl trivial ?_
        refine lm_G_ca (j := 151) (as := [.int (byS T (stS' T p))]) (rest := []) rfl (Or.inl rfl) (Nat.le_of_ble_eq_true rfl) (Nat.le_of_ble_eq_true rfl) (Nat.le_of_ble_eq_true rfl) (Nat.le_of_ble_eq_true rfl) rfl ?_
        refine m_isDigit hT ?_
        show lm_G X (d + 1) 153 106 0 0 115 [some (.ref 64), some (.int (byS T (stS' T p)))] [.int (b2i (liS dgS T (stS' T p)))] (lm_T M3 v G) Q
        rw [li_y hl]
        refine lm_G_br (b := (b2i (dgS (tB T (stS' T p)))) = 0) (t := 186) (S' := []) rfl (fun h5 => ?_) (fun h5 => ?_)
        rotate_left
        ·
          have k1 := kn_2 hl l4 (b2i_1 h5)
          have ek := en_2 k1
          have tk : tkS T p = 2 := by unfold tkS; rw [k1]; rfl
          refine lm_G_sg 3 (pc' := 123) (L' := [some (.ref 64), some (.int (byS T (stS' T p)))]) (S' := []) (σ' := lm_T (lm_wr M3 64 22 0) v G) rfl ⟨trivial, trivial, trivial⟩ ?_
          have a4 : (lm_wr M3 64 22 0) 64 19 = nI ((stS' T p) + 0) := (wr_at (by decide)).trans a3
          have b4 : (lm_wr M3 64 22 0) 64 23 = nI (stS' T p) := (wr_at (by decide)).trans b3
          have u4 : (lm_wr M3 64 22 0) 64 22 = 0 := wr_same
          have r4 : RDm (lm_wr M3 64 22 0) T := ⟨(wr_at (by decide)).trans r3.1, r3.2⟩
          have f4 : FrK M (lm_wr M3 64 22 0) := FrK_w f3 (by decide)
          revert a4 b4 u4 r4 f4
          generalize lm_wr M3 64 22 0 = M4
          intro a4 b4 u4 r4 f4
          refine lm_G_jk (L := [some (.ref 64), none]) ⟨rfl, trivial⟩ ?_
          refine lm_ind (α := (Nat → Fn)) (St := fun (j : Nat) zz => (fun (M5 : Nat → Fn) => lm_G X (d + 1) 153 106 0 0 123 [some (.ref 64), none] [] (lm_T M5 v G) Q) zz) (Inv := fun (j : Nat) zz => (fun (M5 : Nat → Fn) => M5 64 19 = nI ((stS' T p) + j) ∧ M5 64 23 = nI (stS' T p) ∧ RDm M5 T ∧ FrK M M5 ∧ (j ≤ 4 → M5 64 22 = nI (nmF T (stS' T p) j))) zz) (enS T p - (stS' T p)) (fun j zz hj hI ih => ?_) (fun zz hI => ?_) (0) M4 (by omega) ?_
          ·
            revert ih hI
            revert zz
            intro M5 hI ih
            replace hI : M5 64 19 = nI ((stS' T p) + j) ∧ M5 64 23 = nI (stS' T p) ∧ RDm M5 T ∧ FrK M M5 ∧ (j ≤ 4 → M5 64 22 = nI (nmF T (stS' T p) j)) := hI
            replace ih : ∀ (M5 : Nat → Fn) (_ : M5 64 19 = nI ((stS' T p) + (j + 1)) ∧ M5 64 23 = nI (stS' T p) ∧ RDm M5 T ∧ FrK M M5 ∧ ((j + 1) ≤ 4 → M5 64 22 = nI (nmF T (stS' T p) (j + 1)))), lm_G X (d + 1) 153 106 0 0 123 [some (.ref 64), none] [] (lm_T M5 v G) Q := fun M5 q => ih M5 q
            show lm_G X (d + 1) 153 106 0 0 123 [some (.ref 64), none] [] (lm_T M5 v G) Q
            obtain ⟨a5, b5, r5, f5, u5⟩ := hI
            have hj5 : stS' T p + j < tN T := by omega
            have hb5 := hT.2 _ hj5
            have hc5 : dgS (tB T (stS' T p + j)) = true := run_in (c := fun i => dgS (tB T i)) (n := tN T) _ (stS' T p) rfl _ (by omega) (by omega)
            refine lm_G_sg 3 (pc' := 128) (L' := [some (.ref 64), none]) (S' := [.int (M5 64 19), .ref 64]) (σ' := lm_T M5 v G) rfl trivial ?_
            rw [show M5 64 19 = nI ((stS' T p) + j) from a5]
            refine lm_G_ca (j := 149) (as := [.ref 64, .int (nI ((stS' T p) + j))]) (rest := []) rfl (Or.inl rfl) (Nat.le_of_ble_eq_true rfl) (Nat.le_of_ble_eq_true rfl) (Nat.le_of_ble_eq_true rfl) (Nat.le_of_ble_eq_true rfl) rfl ?_
            refine m_byteAt hT r5 (by omega) ?_
            show lm_G X (d + 1) 153 106 0 0 131 [some (.ref 64), none] [.int (byS T ((stS' T p) + j))] (lm_T M5 v G) Q
            refine lm_G_ca (j := 151) (as := [.int (byS T ((stS' T p) + j))]) (rest := []) rfl (Or.inl rfl) (Nat.le_of_ble_eq_true rfl) (Nat.le_of_ble_eq_true rfl) (Nat.le_of_ble_eq_true rfl) (Nat.le_of_ble_eq_true rfl) rfl ?_
            refine m_isDigit hT ?_
            show lm_G X (d + 1) 153 106 0 0 134 [some (.ref 64), none] [.int (b2i (liS dgS T ((stS' T p) + j)))] (lm_T M5 v G) Q
            rw [li_y hj5, hc5]
            refine lm_G_br (b := (b2i true) = 0) (t := 178) (S' := []) rfl (fun h6 => absurd h6 (by decide)) (fun h6 => ?_)
            have hd5 := dg_iff.mp hc5
            refine lm_G_sg 9 (pc' := 152) (L' := [some (.ref 64), none]) (S' := [.int (M5 64 19), .ref 64, .int (10 * (M5 64 22)), .int 100000, .ref 64]) (σ' := lm_T M5 v G) rfl trivial ?_
            rw [show M5 64 19 = nI ((stS' T p) + j) from a5]
            refine lm_G_ca (j := 149) (as := [.ref 64, .int (nI ((stS' T p) + j))]) (rest := [.int (10 * (M5 64 22)), .int 100000, .ref 64]) rfl (Or.inl rfl) (Nat.le_of_ble_eq_true rfl) (Nat.le_of_ble_eq_true rfl) (Nat.le_of_ble_eq_true rfl) (Nat.le_of_ble_eq_true rfl) rfl ?_
            refine m_byteAt hT r5 (by omega) ?_
            show lm_G X (d + 1) 153 106 0 0 155 [some (.ref 64), none] [.int (byS T ((stS' T p) + j)), .int (10 * (M5 64 22)), .int 100000, .ref 64] (lm_T M5 v G) Q
            rw [by_y hj5]
            refine lm_G_sg 4 (pc' := 162) (L' := [some (.ref 64), none]) (S' := [.int (if (((10 * (M5 64 22)) + (nI (tB T ((stS' T p) + j)))) - 48) < 100000 then (((10 * (M5 64 22)) + (nI (tB T ((stS' T p) + j)))) - 48) else 100000), .ref 64]) (σ' := lm_T M5 v G) rfl ⟨trivial, (Nat.le_of_ble_eq_true rfl), trivial⟩ ?_
            have un : j + 1 ≤ 4 → (if (((10 * (M5 64 22)) + (nI (tB T ((stS' T p) + j)))) - 48) < 100000 then (((10 * (M5 64 22)) + (nI (tB T ((stS' T p) + j)))) - 48) else 100000 : Int32) = nI (nmF T (stS' T p) (j + 1)) := by
              intro j4
              have nl : nmF T (stS' T p) j < 10 ^ j := nm_lt j (fun i hi => run_in (c := fun i => dgS (tB T i)) (n := tN T) _ (stS' T p) rfl _ (by omega) (by omega))
              have n4 : 10 ^ j ≤ 10 ^ 3 := Nat.pow_le_pow_right (by omega) (by omega)
              rw [u5 (by omega), show (10 : Int32) = nI 10 from rfl, pk_mul, nI_add, show (48 : Int32) = nI 48 from rfl, nI_sub (by omega), if_pos (show nI (10 * nmF T (stS' T p) j + tB T (stS' T p + j) - 48) < (100000 : Int32) from nI_lt (b := 100000) (by omega) (by omega)), nm_s]
              congr 1
              omega
            revert un
            generalize (if (((10 * (M5 64 22)) + (nI (tB T ((stS' T p) + j)))) - 48) < 100000 then (((10 * (M5 64 22)) + (nI (tB T ((stS' T p) + j)))) - 48) else 100000 : Int32) = z9
            intro un
            refine lm_G_sg 4 (pc' := 170) (L' := [some (.ref 64), none]) (S' := [.int (M5 64 19), .ref 64]) (σ' := lm_T (lm_wr M5 64 22 z9) v G) rfl ⟨trivial, trivial, trivial⟩ ?_
            rw [show M5 64 19 = nI ((stS' T p) + j) from a5]
            refine lm_G_sg 2 (pc' := 172) (L' := [some (.ref 64), none]) (S' := [.int ((nI ((stS' T p) + j)) + 1), .ref 64]) (σ' := lm_T (lm_wr M5 64 22 z9) v G) rfl trivial ?_
            rw [show (nI ((stS' T p) + j)) + 1 = nI (((stS' T p) + j) + 1) from nI_add ((stS' T p) + j) 1]
            refine lm_G_sg 2 (pc' := 123) (L' := [some (.ref 64), none]) (S' := []) (σ' := lm_T (lm_wr (lm_wr M5 64 22 z9) 64 19 (nI (((stS' T p) + j) + 1))) v G) rfl ⟨trivial, trivial, trivial⟩ ?_
            exact ih _ (⟨wr_same, (wr_at (by decide)).trans ((wr_at (by decide)).trans b5), ⟨(wr_at (by decide)).trans ((wr_at (by decide)).trans r5.1), r5.2⟩, FrK_w (FrK_w f5 (by decide)) (by decide), fun w => (wr_at (by decide)).trans (wr_same.trans (un w))⟩)
          ·
            revert hI
            revert zz
            intro M5 hI
            replace hI : M5 64 19 = nI ((stS' T p) + (enS T p - (stS' T p))) ∧ M5 64 23 = nI (stS' T p) ∧ RDm M5 T ∧ FrK M M5 ∧ ((enS T p - (stS' T p)) ≤ 4 → M5 64 22 = nI (nmF T (stS' T p) (enS T p - (stS' T p)))) := hI
            show lm_G X (d + 1) 153 106 0 0 123 [some (.ref 64), none] [] (lm_T M5 v G) Q
            rw [show stS' T p + (enS T p - stS' T p) = enS T p by omega] at hI
            obtain ⟨a5, b5, r5, f5, u5⟩ := hI
            refine lm_G_sg 3 (pc' := 128) (L' := [some (.ref 64), none]) (S' := [.int (M5 64 19), .ref 64]) (σ' := lm_T M5 v G) rfl trivial ?_
            rw [show M5 64 19 = nI (enS T p) from a5]
            refine lm_G_ca (j := 149) (as := [.ref 64, .int (nI (enS T p))]) (rest := []) rfl (Or.inl rfl) (Nat.le_of_ble_eq_true rfl) (Nat.le_of_ble_eq_true rfl) (Nat.le_of_ble_eq_true rfl) (Nat.le_of_ble_eq_true rfl) rfl ?_
            refine m_byteAt hT r5 (by omega) ?_
            show lm_G X (d + 1) 153 106 0 0 131 [some (.ref 64), none] [.int (byS T (enS T p))] (lm_T M5 v G) Q
            refine lm_G_ca (j := 151) (as := [.int (byS T (enS T p))]) (rest := []) rfl (Or.inl rfl) (Nat.le_of_ble_eq_true rfl) (Nat.le_of_ble_eq_true rfl) (Nat.le_of_ble_eq_true rfl) (Nat.le_of_ble_eq_true rfl) rfl ?_
            refine m_isDigit hT ?_
            show lm_G X (d + 1) 153 106 0 0 134 [some (.ref 64), none] [.int (b2i (liS dgS T (enS T p)))] (lm_T M5 v G) Q
            have e0 : liS dgS T (enS T p) = false := by
              by_cases w : enS T p < tN T
              · rw [li_y w]
                have := run_e (c := fun i => dgS (tB T i)) (n := tN T) _ (stS' T p) rfl (by rw [← ek]; exact w)
                rw [← ek] at this
                exact this
              · exact li_n w
            rw [e0]
            refine lm_G_br (b := (b2i false) = 0) (t := 178) (S' := []) rfl (fun h6 => ?_) (fun h6 => absurd rfl h6)
            refine lm_G_sg 4 (pc' := 212) (L' := [some (.ref 64), none]) (S' := []) (σ' := lm_T (lm_wr M5 64 21 2) v G) rfl ⟨trivial, trivial, trivial⟩ ?_
            exact k212 _ ((wr_at (by decide)).trans a5) ((wr_at (by decide)).trans b5) (wr_same.trans (by rw [tk]; rfl)) ⟨(wr_at (by decide)).trans r5.1, r5.2⟩ (fun _ w => (wr_at (by decide)).trans (u5 w)) (FrK_w f5 (by decide))
          ·
            try dsimp only
            exact ⟨a4, b4, r4, f4, fun _ => u4⟩
        ·
          have k1 := kn_3 hl l4 (b2i_0 h5)
          have ek := en_3 k1
          rw [by_y hl]
          refine lm_G_sg 3 (pc' := 191) (L' := [some (.ref 64), some (.int (nI (tB T (stS' T p))))]) (S' := [.int (M3 64 19), .ref 64]) (σ' := lm_T M3 v G) rfl trivial ?_
          rw [show M3 64 19 = nI (stS' T p) from a3]
          refine lm_G_sg 2 (pc' := 193) (L' := [some (.ref 64), some (.int (nI (tB T (stS' T p))))]) (S' := [.int ((nI (stS' T p)) + 1), .ref 64]) (σ' := lm_T M3 v G) rfl trivial ?_
          rw [show (nI (stS' T p)) + 1 = nI ((stS' T p) + 1) from nI_add (stS' T p) 1]
          refine lm_G_sg 3 (pc' := 198) (L' := [some (.ref 64), some (.int (nI (tB T (stS' T p))))]) (S' := [.int (nI (tB T (stS' T p))), .ref 64]) (σ' := lm_T (lm_wr M3 64 19 (nI ((stS' T p) + 1))) v G) rfl ⟨trivial, trivial, trivial⟩ ?_
          refine lm_G_ca (j := 152) (as := [.int (nI (tB T (stS' T p)))]) (rest := [.ref 64]) rfl (Or.inl rfl) (Nat.le_of_ble_eq_true rfl) (Nat.le_of_ble_eq_true rfl) (Nat.le_of_ble_eq_true rfl) (Nat.le_of_ble_eq_true rfl) rfl ?_
          refine m_isMark hbb ?_
          show lm_G X (d + 1) 153 106 0 0 201 [some (.ref 64), some (.int (nI (tB T (stS' T p))))] [.int (b2i (mkS (tB T (stS' T p)))), .ref 64] (lm_T (lm_wr M3 64 19 (nI ((stS' T p) + 1))) v G) Q
          refine lm_G_br (b := (b2i (mkS (tB T (stS' T p)))) = 0) (t := 208) (S' := [.ref 64]) rfl (fun h6 => ?_) (fun h6 => ?_)
          ·
            have tk : tkS T p = 4 := by unfold tkS; rw [k1, b2i_0 h6]; rfl
            refine lm_G_sg 2 (pc' := 212) (L' := [some (.ref 64), some (.int (nI (tB T (stS' T p))))]) (S' := []) (σ' := lm_T (lm_wr (lm_wr M3 64 19 (nI ((stS' T p) + 1))) 64 21 4) v G) rfl ⟨trivial, trivial, trivial⟩ ?_
            refine lm_G_jk (L := [some (.ref 64), none]) ⟨rfl, trivial⟩ ?_
            exact k212 _ ((wr_at (by decide)).trans (by rw [ek]; exact wr_same)) ((wr_at (by decide)).trans ((wr_at (by decide)).trans b3)) (wr_same.trans (by rw [tk]; rfl)) ⟨(wr_at (by decide)).trans ((wr_at (by decide)).trans r3.1), r3.2⟩ (fun w => absurd (k1.symm.trans w) (by decide)) (FrK_w (FrK_w f3 (by decide)) (by decide))
          ·
            have tk : tkS T p = 3 := by unfold tkS; rw [k1, b2i_1 h6]; rfl
            refine lm_G_sg 3 (pc' := 212) (L' := [some (.ref 64), some (.int (nI (tB T (stS' T p))))]) (S' := []) (σ' := lm_T (lm_wr (lm_wr M3 64 19 (nI ((stS' T p) + 1))) 64 21 3) v G) rfl ⟨trivial, trivial, trivial⟩ ?_
            refine lm_G_jk (L := [some (.ref 64), none]) ⟨rfl, trivial⟩ ?_
            exact k212 _ ((wr_at (by decide)).trans (by rw [ek]; exact wr_same)) ((wr_at (by decide)).trans ((wr_at (by decide)).trans b3)) (wr_same.trans (by rw [tk]; rfl)) ⟨(wr_at (by decide)).trans ((wr_at (by decide)).trans r3.1), r3.2⟩ (fun w => absurd (k1.symm.trans w) (by decide)) (FrK_w (FrK_w f3 (by decide)) (by decide))
  refine lm_ind (α := (Nat → Fn)) (St := fun (j : Nat) zz => (fun (M1 : Nat → Fn) => lm_G X (d + 1) 153 106 0 0 0 [some (.ref 64), none] [] (lm_T M1 v G) Q) zz) (Inv := fun (j : Nat) zz => (fun (M1 : Nat → Fn) => M1 64 19 = nI (p + j) ∧ RDm M1 T ∧ FrK M M1) zz) ((stS' T p) - p) (fun j zz hj hI ih => ?_) (fun zz hI => ?_) (0) M (by omega) ?_
  ·
    revert ih hI
    revert zz
    intro M1 hI ih
    replace hI : M1 64 19 = nI (p + j) ∧ RDm M1 T ∧ FrK M M1 := hI
    replace ih : ∀ (M1 : Nat → Fn) (_ : M1 64 19 = nI (p + (j + 1)) ∧ RDm M1 T ∧ FrK M M1), lm_G X (d + 1) 153 106 0 0 0 [some (.ref 64), none] [] (lm_T M1 v G) Q := fun M1 q => ih M1 q
    show lm_G X (d + 1) 153 106 0 0 0 [some (.ref 64), none] [] (lm_T M1 v G) Q
    obtain ⟨s1, r1, f1⟩ := hI
    have hj5 : p + j < tN T := by omega
    have hb5 := hT.2 _ hj5
    have hc5 : blS (tB T (p + j)) = true := run_in (c := fun i => blS (tB T i)) (n := tN T) _ p rfl _ (by omega) (show p + j < stS' T p by omega)
    refine lm_G_sg 3 (pc' := 5) (L' := [some (.ref 64), none]) (S' := [.int (M1 64 19), .ref 64]) (σ' := lm_T M1 v G) rfl trivial ?_
    rw [show M1 64 19 = nI (p + j) from s1]
    refine lm_G_ca (j := 149) (as := [.ref 64, .int (nI (p + j))]) (rest := []) rfl (Or.inl rfl) (Nat.le_of_ble_eq_true rfl) (Nat.le_of_ble_eq_true rfl) (Nat.le_of_ble_eq_true rfl) (Nat.le_of_ble_eq_true rfl) rfl ?_
    refine m_byteAt hT r1 (by omega) ?_
    show lm_G X (d + 1) 153 106 0 0 8 [some (.ref 64), none] [.int (byS T (p + j))] (lm_T M1 v G) Q
    rw [by_y hj5]
    refine lm_G_sg 1 (pc' := 10) (L' := [some (.ref 64), none]) (S' := [.int 32, .int (nI (tB T (p + j)))]) (σ' := lm_T M1 v G) rfl trivial ?_
    refine lm_G_br (b := (nI (tB T (p + j))) = 32) (t := 26) (S' := []) rfl (fun h6 => ?_) (fun h6 => ?_)
    ·
      refine lm_G_sg 3 (pc' := 31) (L' := [some (.ref 64), none]) (S' := [.int (M1 64 19), .ref 64]) (σ' := lm_T M1 v G) rfl trivial ?_
      rw [show M1 64 19 = nI (p + j) from s1]
      refine lm_G_sg 2 (pc' := 33) (L' := [some (.ref 64), none]) (S' := [.int ((nI (p + j)) + 1), .ref 64]) (σ' := lm_T M1 v G) rfl trivial ?_
      rw [show (nI (p + j)) + 1 = nI ((p + j) + 1) from nI_add (p + j) 1]
      refine lm_G_sg 2 (pc' := 0) (L' := [some (.ref 64), none]) (S' := []) (σ' := lm_T (lm_wr M1 64 19 (nI ((p + j) + 1))) v G) rfl ⟨trivial, trivial, trivial⟩ ?_
      exact ih _ (⟨wr_same, ⟨(wr_at (by decide)).trans r1.1, r1.2⟩, FrK_w f1 (by decide)⟩)
    ·
      refine lm_G_sg 3 (pc' := 18) (L' := [some (.ref 64), none]) (S' := [.int (M1 64 19), .ref 64]) (σ' := lm_T M1 v G) rfl trivial ?_
      rw [show M1 64 19 = nI (p + j) from s1]
      refine lm_G_ca (j := 149) (as := [.ref 64, .int (nI (p + j))]) (rest := []) rfl (Or.inl rfl) (Nat.le_of_ble_eq_true rfl) (Nat.le_of_ble_eq_true rfl) (Nat.le_of_ble_eq_true rfl) (Nat.le_of_ble_eq_true rfl) rfl ?_
      refine m_byteAt hT r1 (by omega) ?_
      show lm_G X (d + 1) 153 106 0 0 21 [some (.ref 64), none] [.int (byS T (p + j))] (lm_T M1 v G) Q
      rw [by_y hj5]
      refine lm_G_sg 1 (pc' := 23) (L' := [some (.ref 64), none]) (S' := [.int 10, .int (nI (tB T (p + j)))]) (σ' := lm_T M1 v G) rfl trivial ?_
      refine lm_G_br (b := ¬ (nI (tB T (p + j))) = 10) (t := 39) (S' := []) rfl (fun h7 => absurd hc5 (by unfold blS; rw [decide_eq_false (fun w => h6 (by rw [w]; rfl)), decide_eq_false (fun w => h7 (by rw [w]; rfl))]; decide)) (fun h7 => ?_)
      refine lm_G_sg 3 (pc' := 31) (L' := [some (.ref 64), none]) (S' := [.int (M1 64 19), .ref 64]) (σ' := lm_T M1 v G) rfl trivial ?_
      rw [show M1 64 19 = nI (p + j) from s1]
      refine lm_G_sg 2 (pc' := 33) (L' := [some (.ref 64), none]) (S' := [.int ((nI (p + j)) + 1), .ref 64]) (σ' := lm_T M1 v G) rfl trivial ?_
      rw [show (nI (p + j)) + 1 = nI ((p + j) + 1) from nI_add (p + j) 1]
      refine lm_G_sg 2 (pc' := 0) (L' := [some (.ref 64), none]) (S' := []) (σ' := lm_T (lm_wr M1 64 19 (nI ((p + j) + 1))) v G) rfl ⟨trivial, trivial, trivial⟩ ?_
      exact ih _ (⟨wr_same, ⟨(wr_at (by decide)).trans r1.1, r1.2⟩, FrK_w f1 (by decide)⟩)
  ·
    revert hI
    revert zz
    intro M1 hI
    replace hI : M1 64 19 = nI (p + ((stS' T p) - p)) ∧ RDm M1 T ∧ FrK M M1 := hI
    show lm_G X (d + 1) 153 106 0 0 0 [some (.ref 64), none] [] (lm_T M1 v G) Q
    rw [show p + (stS' T p - p) = stS' T p by omega] at hI
    obtain ⟨s1, r1, f1⟩ := hI
    refine lm_G_sg 3 (pc' := 5) (L' := [some (.ref 64), none]) (S' := [.int (M1 64 19), .ref 64]) (σ' := lm_T M1 v G) rfl trivial ?_
    rw [show M1 64 19 = nI (stS' T p) from s1]
    refine lm_G_ca (j := 149) (as := [.ref 64, .int (nI (stS' T p))]) (rest := []) rfl (Or.inl rfl) (Nat.le_of_ble_eq_true rfl) (Nat.le_of_ble_eq_true rfl) (Nat.le_of_ble_eq_true rfl) (Nat.le_of_ble_eq_true rfl) rfl ?_
    refine m_byteAt hT r1 (by omega) ?_
    show lm_G X (d + 1) 153 106 0 0 8 [some (.ref 64), none] [.int (byS T (stS' T p))] (lm_T M1 v G) Q
    have n32 : ¬ byS T (stS' T p) = 32 ∧ ¬ byS T (stS' T p) = 10 := by
      by_cases w : stS' T p < tN T
      · have hb5 := hT.2 _ w
        have e : blS (tB T (stS' T p)) = false := run_e (c := fun i => blS (tB T i)) (n := tN T) _ p rfl w
        unfold blS at e
        rw [Bool.or_eq_false_iff] at e
        rw [by_y w]
        exact ⟨fun q => of_decide_eq_false e.1 ((nI_eq (b := 32) (by omega) (by omega)).mp q), fun q => of_decide_eq_false e.2 ((nI_eq (b := 10) (by omega) (by omega)).mp q)⟩
      · rw [by_n w]
        decide
    refine lm_G_sg 1 (pc' := 10) (L' := [some (.ref 64), none]) (S' := [.int 32, .int (byS T (stS' T p))]) (σ' := lm_T M1 v G) rfl trivial ?_
    refine lm_G_br (b := (byS T (stS' T p)) = 32) (t := 26) (S' := []) rfl (fun h6 => absurd h6 n32.1) (fun h6 => ?_)
    refine lm_G_sg 3 (pc' := 18) (L' := [some (.ref 64), none]) (S' := [.int (M1 64 19), .ref 64]) (σ' := lm_T M1 v G) rfl trivial ?_
    rw [show M1 64 19 = nI (stS' T p) from s1]
    refine lm_G_ca (j := 149) (as := [.ref 64, .int (nI (stS' T p))]) (rest := []) rfl (Or.inl rfl) (Nat.le_of_ble_eq_true rfl) (Nat.le_of_ble_eq_true rfl) (Nat.le_of_ble_eq_true rfl) (Nat.le_of_ble_eq_true rfl) rfl ?_
    refine m_byteAt hT r1 (by omega) ?_
    show lm_G X (d + 1) 153 106 0 0 21 [some (.ref 64), none] [.int (byS T (stS' T p))] (lm_T M1 v G) Q
    refine lm_G_sg 1 (pc' := 23) (L' := [some (.ref 64), none]) (S' := [.int 10, .int (byS T (stS' T p))]) (σ' := lm_T M1 v G) rfl trivial ?_
    refine lm_G_br (b := ¬ (byS T (stS' T p)) = 10) (t := 39) (S' := []) rfl (fun h7 => ?_) (fun h7 => absurd (Classical.not_not.mp h7) n32.2)
    exact k39 _ ⟨s1, r1, f1⟩
  ·
    try dsimp only
    exact ⟨ha, hr, FrK_rf _⟩
