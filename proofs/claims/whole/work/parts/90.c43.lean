/-! ===== contracts: the model reads a line ===== -/
set_option maxRecDepth 10000 in
theorem m_readLine {X : lm_X} {T : Tx} (hT : okT T) : ∀ (d v : Nat) (M : Nat → Nat → Int32) (G : Nat → Nat → Int64) (Q : lm_O → lm_S → Prop) (p : Nat) (D : Dr), GM M T p → p ≤ tN T → knS T p ≠ 0 → DM M D → okD D → (∀ r D', lnL T D p = .inl (r, D') → ∀ M1 v1, GM M1 T r → DM M1 D' → FrP M M1 → Q (.inl (some (.int (dnI D')))) (lm_T M1 v1 G)) → (∀ e a, lnL T D p = .inr (e, a) → ∀ M1 v1 x, BM M1 e a → ¬ M1 64 25 = 0 → FrP M M1 → Q (.inl (some (.int x))) (lm_T M1 v1 G)) → lm_Q X (d + 43) 172 [.ref 64, .int (dnI D)] (lm_T M v G) Q := by
  intro d v M G Q p D hg hp h0 hd hD hok her
  show lm_G X (d + 43) 172 106 0 0 0 [some (.ref 64), some (.int (dnI D)), none, none] [] (lm_T M v G) Q
  have hn := hT.1
  have k118 : ∀ (N : Nat → Fn) (u : Nat) (E : Dr) (kk : Int32) (v9 : Nat) (gN : GM N T u) (lu : u ≤ tN T) (dN_ : DM N E) (fN_ : FrP M N) (es : liL T D p = .inl (u, E)) (eo : dnI D ||| kk = dnI E), lm_G X (d + 43) 172 106 0 0 118 [some (.ref 64), some (.int (dnI D)), none, some (.int kk)] [] (lm_T N v9 G) Q := by
    intro N u E kk v9 gN lu dN_ fN_ es eo
    refine lm_G_sg 2 (pc' := 121) (L' := [some (.ref 64), some (.int (dnI D)), none, some (.int kk)]) (S' := [.int 59, .ref 64]) (σ' := lm_T N v9 G) rfl trivial ?_
    refine lm_G_ca (j := 158) (as := [.ref 64, .int 59]) (rest := []) rfl (Or.inl rfl) (Nat.le_of_ble_eq_true rfl) (Nat.le_of_ble_eq_true rfl) (Nat.le_of_ble_eq_true rfl) (Nat.le_of_ble_eq_true rfl) rfl ?_
    refine m_mark (c := 59) hT lu gN (by decide) (by omega) ⟨fun s9 M9 g9 f9 => ?_, fun s9 M9 b9 f9 => ?_⟩
    ·
      show lm_G X (d + 43) 172 106 0 0 124 [some (.ref 64), some (.int (dnI D)), none, some (.int kk)] [] (lm_T M9 v9 G) Q
      refine lm_G_sg 3 (pc' := 127) (L' := [some (.ref 64), some (.int (dnI D)), none, some (.int kk)]) (S' := [.int ((dnI D) ||| kk)]) (σ' := lm_T M9 v9 G) rfl trivial ?_
      rw [eo]
      exact lm_G_re rfl trivial (Nat.zero_le _) (Nat.zero_le _) (hok _ _ (by unfold lnL; rw [es]; simp only [seL]; rw [if_pos s9]) _ v9 g9 (DM_K dN_ f9) (FrP_tr fN_ (FrP_K f9)))
    ·
      show lm_G X (d + 43) 172 106 0 0 124 [some (.ref 64), some (.int (dnI D)), none, some (.int kk)] [] (lm_T M9 v9 G) Q
      refine lm_G_sg 3 (pc' := 127) (L' := [some (.ref 64), some (.int (dnI D)), none, some (.int kk)]) (S' := [.int ((dnI D) ||| kk)]) (σ' := lm_T M9 v9 G) rfl trivial ?_
      exact lm_G_re rfl trivial (Nat.zero_le _) (Nat.zero_le _) (her _ _ (by unfold lnL; rw [es]; simp only [seL]; rw [if_neg (by rw [s9]; decide)]) _ v9 _ b9 (BM_nz b9 (by omega) (by omega)) (FrP_tr fN_ f9))
  have kB : ∀ (N : Nat → Fn) (e9 : Nat) (a9 : Nat) (kk : Int32) (v9 : Nat) (z9 : ¬ N 64 25 = 0) (b9 : BM N e9 a9) (f9 : FrP M N) (es : liL T D p = .inr (e9, a9)), lm_G X (d + 43) 172 106 0 0 118 [some (.ref 64), some (.int (dnI D)), none, some (.int kk)] [] (lm_T N v9 G) Q := by
    intro N e9 a9 kk v9 z9 b9 f9 es
    refine lm_G_sg 2 (pc' := 121) (L' := [some (.ref 64), some (.int (dnI D)), none, some (.int kk)]) (S' := [.int 59, .ref 64]) (σ' := lm_T N v9 G) rfl trivial ?_
    refine lm_G_ca (j := 158) (as := [.ref 64, .int 59]) (rest := []) rfl (Or.inl rfl) (Nat.le_of_ble_eq_true rfl) (Nat.le_of_ble_eq_true rfl) (Nat.le_of_ble_eq_true rfl) (Nat.le_of_ble_eq_true rfl) rfl ?_
    refine m_markB (c := 59) z9 ?_
    show lm_G X (d + 43) 172 106 0 0 124 [some (.ref 64), some (.int (dnI D)), none, some (.int kk)] [] (lm_T N v9 G) Q
    refine lm_G_sg 3 (pc' := 127) (L' := [some (.ref 64), some (.int (dnI D)), none, some (.int kk)]) (S' := [.int ((dnI D) ||| kk)]) (σ' := lm_T N v9 G) rfl trivial ?_
    exact lm_G_re rfl trivial (Nat.zero_le _) (Nat.zero_le _) (her _ _ (by unfold lnL; rw [es]; rfl) _ v9 _ b9 z9 f9)
  refine lm_G_sg 3 (pc' := 5) (L' := [some (.ref 64), some (.int (dnI D)), none, none]) (S' := [.ref 65, .ref 64]) (σ' := lm_T M v G) rfl trivial ?_
  refine lm_G_ca (j := 156) (as := [.ref 64, .ref 65]) (rest := []) rfl (Or.inl rfl) (Nat.le_of_ble_eq_true rfl) (Nat.le_of_ble_eq_true rfl) (Nat.le_of_ble_eq_true rfl) (Nat.le_of_ble_eq_true rfl) rfl ?_
  refine m_which65 hT hp hg ?_
  show lm_G X (d + 43) 172 106 0 0 8 [some (.ref 64), some (.int (dnI D)), none, none] [.int (soI T p)] (lm_T M v G) Q
  cases a0 : isWd T p w0 with
  | true =>
    rw [show soI T p = 0 from by simp [soI, a0]]
    have n4 := wd_no (u := w4) a0 (by decide)
    have n5 := wd_no (u := w5) a0 (by decide)
    have n16 := wd_no (u := w16) a0 (by decide)
    have es : liL T D p = peL T false D p := by unfold liL; rw [if_pos a0]
    refine lm_G_sg 3 (pc' := 13) (L' := [some (.ref 64), some (.int (dnI D)), some (.int 0), none]) (S' := [.ref 1004, .ref 64]) (σ' := lm_T M v G) rfl trivial ?_
    refine lm_G_ca (j := 155) (as := [.ref 64, .ref 1004]) (rest := []) rfl (Or.inl rfl) (Nat.le_of_ble_eq_true rfl) (Nat.le_of_ble_eq_true rfl) (Nat.le_of_ble_eq_true rfl) (Nat.le_of_ble_eq_true rfl) rfl ?_
    refine m_is4 hT hp hg ?_
    show lm_G X (d + 43) 172 106 0 0 16 [some (.ref 64), some (.int (dnI D)), some (.int 0), none] [.int (b2i (isWd T p w4))] (lm_T M v G) Q
    refine lm_G_br (b := (b2i (isWd T p w4)) = 0) (t := 23) (S' := []) rfl (fun hc => ?_) (fun hc => absurd (by rw [n4]; rfl) hc)
    refine lm_G_sg 2 (pc' := 27) (L' := [some (.ref 64), some (.int (dnI D)), some (.int 0), none]) (S' := [.ref 1005, .ref 64]) (σ' := lm_T M v G) rfl trivial ?_
    refine lm_G_ca (j := 155) (as := [.ref 64, .ref 1005]) (rest := []) rfl (Or.inl rfl) (Nat.le_of_ble_eq_true rfl) (Nat.le_of_ble_eq_true rfl) (Nat.le_of_ble_eq_true rfl) (Nat.le_of_ble_eq_true rfl) rfl ?_
    refine m_is5 hT hp hg ?_
    show lm_G X (d + 43) 172 106 0 0 30 [some (.ref 64), some (.int (dnI D)), some (.int 0), none] [.int (b2i (isWd T p w5))] (lm_T M v G) Q
    refine lm_G_br (b := (b2i (isWd T p w5)) = 0) (t := 37) (S' := []) rfl (fun hc => ?_) (fun hc => absurd (by rw [n5]; rfl) hc)
    refine lm_G_sg 2 (pc' := 41) (L' := [some (.ref 64), some (.int (dnI D)), some (.int 0), none]) (S' := [.ref 1016, .ref 64]) (σ' := lm_T M v G) rfl trivial ?_
    refine lm_G_ca (j := 155) (as := [.ref 64, .ref 1016]) (rest := []) rfl (Or.inl rfl) (Nat.le_of_ble_eq_true rfl) (Nat.le_of_ble_eq_true rfl) (Nat.le_of_ble_eq_true rfl) (Nat.le_of_ble_eq_true rfl) rfl ?_
    refine m_is16 hT hp hg ?_
    show lm_G X (d + 43) 172 106 0 0 44 [some (.ref 64), some (.int (dnI D)), some (.int 0), none] [.int (b2i (isWd T p w16))] (lm_T M v G) Q
    refine lm_G_br (b := (b2i (isWd T p w16)) = 0) (t := 51) (S' := []) rfl (fun hc => ?_) (fun hc => absurd (by rw [n16]; rfl) hc)
    refine lm_G_sg 5 (pc' := 56) (L' := [some (.ref 64), some (.int (dnI D)), some (.int 0), some (.int 0)]) (S' := [.int (0 &&& (dnI D))]) (σ' := lm_T M v G) rfl trivial ?_
    refine lm_G_br (b := (0 &&& (dnI D)) = 0) (t := 64) (S' := []) rfl (fun hc => ?_) (fun hc => absurd (dn_and0 _ _ _) hc)
    refine lm_G_sg 1 (pc' := 65) (L' := [some (.ref 64), some (.int (dnI D)), some (.int 0), some (.int 0)]) (S' := [.int 0]) (σ' := lm_T M v G) rfl trivial ?_
    refine lm_G_br (b := 0 ≤ 0) (t := 83) (S' := []) rfl (fun hc => ?_) (fun hc => absurd (by decide) hc)
    refine lm_G_sg 2 (pc' := 85) (L' := [some (.ref 64), some (.int (dnI D)), some (.int 0), some (.int 0)]) (S' := [.int (-1), .int 0]) (σ' := lm_T M v G) rfl trivial ?_
    refine lm_G_br (b := 0 = (-1)) (t := 96) (S' := []) rfl (fun hc => absurd hc (by decide)) (fun hc => ?_)
    refine lm_G_sg 2 (pc' := 90) (L' := [some (.ref 64), some (.int (dnI D)), some (.int 0), some (.int 0)]) (S' := [.int 0, .ref 64]) (σ' := lm_T M v G) rfl trivial ?_
    refine lm_G_ca (j := 169) (as := [.ref 64, .int 0]) (rest := []) rfl (Or.inl rfl) (Nat.le_of_ble_eq_true rfl) (Nat.le_of_ble_eq_true rfl) (Nat.le_of_ble_eq_true rfl) (Nat.le_of_ble_eq_true rfl) rfl ?_
    refine m_sayPerson (w := false) hT (d + 39) v M G _ p hg hp h0 hd hD (fun r E er M9 v9 g9 d9 f9 => ?_) (fun e a er M9 v9 b9 z9 f9 => ?_)
    ·
      show lm_G X (d + 43) 172 106 0 0 93 [some (.ref 64), some (.int (dnI D)), some (.int 0), some (.int 0)] [] (lm_T M9 v9 G) Q
      refine lm_G_sg 1 (pc' := 118) (L' := [some (.ref 64), some (.int (dnI D)), some (.int 0), some (.int 0)]) (S' := []) (σ' := lm_T M9 v9 G) rfl trivial ?_
      have el := es.trans er
      refine lm_G_jk (L := [some (.ref 64), some (.int (dnI D)), none, some (.int 0)]) ⟨rfl, rfl, rfl, trivial⟩ ?_
      exact k118 M9 r E 0 v9 g9 (liL_ok hT hp hD el).2.2 d9 f9 el (by unfold peL at er; split at er; cases er; obtain ⟨_, _, er⟩ := nuL_i er; obtain ⟨_, _, er⟩ := nuL_i er; obtain ⟨_, _, er⟩ := nuL_i er; obtain ⟨_, _, er⟩ := nuL_i er; cases er; exact dn_or0 _ _ _)
    ·
      show lm_G X (d + 43) 172 106 0 0 93 [some (.ref 64), some (.int (dnI D)), some (.int 0), some (.int 0)] [] (lm_T M9 v9 G) Q
      refine lm_G_sg 1 (pc' := 118) (L' := [some (.ref 64), some (.int (dnI D)), some (.int 0), some (.int 0)]) (S' := []) (σ' := lm_T M9 v9 G) rfl trivial ?_
      refine lm_G_jk (L := [some (.ref 64), some (.int (dnI D)), none, some (.int 0)]) ⟨rfl, rfl, rfl, trivial⟩ ?_
      exact kB M9 e a 0 v9 z9 b9 f9 (es.trans er)
    | false =>
      cases a1 : isWd T p w1 with
      | true =>
        rw [show soI T p = 1 from by simp [soI, a0, a1]]
        have n4 := wd_no (u := w4) a1 (by decide)
        have n5 := wd_no (u := w5) a1 (by decide)
        have n16 := wd_no (u := w16) a1 (by decide)
        have es : liL T D p = peL T true D p := by unfold liL; rw [if_neg (by rw [a0]; decide), if_pos a1]
        refine lm_G_sg 3 (pc' := 13) (L' := [some (.ref 64), some (.int (dnI D)), some (.int 1), none]) (S' := [.ref 1004, .ref 64]) (σ' := lm_T M v G) rfl trivial ?_
        refine lm_G_ca (j := 155) (as := [.ref 64, .ref 1004]) (rest := []) rfl (Or.inl rfl) (Nat.le_of_ble_eq_true rfl) (Nat.le_of_ble_eq_true rfl) (Nat.le_of_ble_eq_true rfl) (Nat.le_of_ble_eq_true rfl) rfl ?_
        refine m_is4 hT hp hg ?_
        show lm_G X (d + 43) 172 106 0 0 16 [some (.ref 64), some (.int (dnI D)), some (.int 1), none] [.int (b2i (isWd T p w4))] (lm_T M v G) Q
        refine lm_G_br (b := (b2i (isWd T p w4)) = 0) (t := 23) (S' := []) rfl (fun hc => ?_) (fun hc => absurd (by rw [n4]; rfl) hc)
        refine lm_G_sg 2 (pc' := 27) (L' := [some (.ref 64), some (.int (dnI D)), some (.int 1), none]) (S' := [.ref 1005, .ref 64]) (σ' := lm_T M v G) rfl trivial ?_
        refine lm_G_ca (j := 155) (as := [.ref 64, .ref 1005]) (rest := []) rfl (Or.inl rfl) (Nat.le_of_ble_eq_true rfl) (Nat.le_of_ble_eq_true rfl) (Nat.le_of_ble_eq_true rfl) (Nat.le_of_ble_eq_true rfl) rfl ?_
        refine m_is5 hT hp hg ?_
        show lm_G X (d + 43) 172 106 0 0 30 [some (.ref 64), some (.int (dnI D)), some (.int 1), none] [.int (b2i (isWd T p w5))] (lm_T M v G) Q
        refine lm_G_br (b := (b2i (isWd T p w5)) = 0) (t := 37) (S' := []) rfl (fun hc => ?_) (fun hc => absurd (by rw [n5]; rfl) hc)
        refine lm_G_sg 2 (pc' := 41) (L' := [some (.ref 64), some (.int (dnI D)), some (.int 1), none]) (S' := [.ref 1016, .ref 64]) (σ' := lm_T M v G) rfl trivial ?_
        refine lm_G_ca (j := 155) (as := [.ref 64, .ref 1016]) (rest := []) rfl (Or.inl rfl) (Nat.le_of_ble_eq_true rfl) (Nat.le_of_ble_eq_true rfl) (Nat.le_of_ble_eq_true rfl) (Nat.le_of_ble_eq_true rfl) rfl ?_
        refine m_is16 hT hp hg ?_
        show lm_G X (d + 43) 172 106 0 0 44 [some (.ref 64), some (.int (dnI D)), some (.int 1), none] [.int (b2i (isWd T p w16))] (lm_T M v G) Q
        refine lm_G_br (b := (b2i (isWd T p w16)) = 0) (t := 51) (S' := []) rfl (fun hc => ?_) (fun hc => absurd (by rw [n16]; rfl) hc)
        refine lm_G_sg 5 (pc' := 56) (L' := [some (.ref 64), some (.int (dnI D)), some (.int 1), some (.int 0)]) (S' := [.int (0 &&& (dnI D))]) (σ' := lm_T M v G) rfl trivial ?_
        refine lm_G_br (b := (0 &&& (dnI D)) = 0) (t := 64) (S' := []) rfl (fun hc => ?_) (fun hc => absurd (dn_and0 _ _ _) hc)
        refine lm_G_sg 1 (pc' := 65) (L' := [some (.ref 64), some (.int (dnI D)), some (.int 1), some (.int 0)]) (S' := [.int 0]) (σ' := lm_T M v G) rfl trivial ?_
        refine lm_G_br (b := 0 ≤ 0) (t := 83) (S' := []) rfl (fun hc => ?_) (fun hc => absurd (by decide) hc)
        refine lm_G_sg 2 (pc' := 85) (L' := [some (.ref 64), some (.int (dnI D)), some (.int 1), some (.int 0)]) (S' := [.int (-1), .int 1]) (σ' := lm_T M v G) rfl trivial ?_
        refine lm_G_br (b := 1 = (-1)) (t := 96) (S' := []) rfl (fun hc => absurd hc (by decide)) (fun hc => ?_)
        refine lm_G_sg 2 (pc' := 90) (L' := [some (.ref 64), some (.int (dnI D)), some (.int 1), some (.int 0)]) (S' := [.int 1, .ref 64]) (σ' := lm_T M v G) rfl trivial ?_
        refine lm_G_ca (j := 169) (as := [.ref 64, .int 1]) (rest := []) rfl (Or.inl rfl) (Nat.le_of_ble_eq_true rfl) (Nat.le_of_ble_eq_true rfl) (Nat.le_of_ble_eq_true rfl) (Nat.le_of_ble_eq_true rfl) rfl ?_
        refine m_sayPerson (w := true) hT (d + 39) v M G _ p hg hp h0 hd hD (fun r E er M9 v9 g9 d9 f9 => ?_) (fun e a er M9 v9 b9 z9 f9 => ?_)
        ·
          show lm_G X (d + 43) 172 106 0 0 93 [some (.ref 64), some (.int (dnI D)), some (.int 1), some (.int 0)] [] (lm_T M9 v9 G) Q
          refine lm_G_sg 1 (pc' := 118) (L' := [some (.ref 64), some (.int (dnI D)), some (.int 1), some (.int 0)]) (S' := []) (σ' := lm_T M9 v9 G) rfl trivial ?_
          have el := es.trans er
          refine lm_G_jk (L := [some (.ref 64), some (.int (dnI D)), none, some (.int 0)]) ⟨rfl, rfl, rfl, trivial⟩ ?_
          exact k118 M9 r E 0 v9 g9 (liL_ok hT hp hD el).2.2 d9 f9 el (by unfold peL at er; split at er; cases er; obtain ⟨_, _, er⟩ := nuL_i er; obtain ⟨_, _, er⟩ := nuL_i er; obtain ⟨_, _, er⟩ := nuL_i er; obtain ⟨_, _, er⟩ := nuL_i er; cases er; exact dn_or0 _ _ _)
        ·
          show lm_G X (d + 43) 172 106 0 0 93 [some (.ref 64), some (.int (dnI D)), some (.int 1), some (.int 0)] [] (lm_T M9 v9 G) Q
          refine lm_G_sg 1 (pc' := 118) (L' := [some (.ref 64), some (.int (dnI D)), some (.int 1), some (.int 0)]) (S' := []) (σ' := lm_T M9 v9 G) rfl trivial ?_
          refine lm_G_jk (L := [some (.ref 64), some (.int (dnI D)), none, some (.int 0)]) ⟨rfl, rfl, rfl, trivial⟩ ?_
          exact kB M9 e a 0 v9 z9 b9 f9 (es.trans er)
        | false =>
          rw [show soI T p = -1 from by simp [soI, a0, a1]]
          refine lm_G_sg 3 (pc' := 13) (L' := [some (.ref 64), some (.int (dnI D)), some (.int (-1)), none]) (S' := [.ref 1004, .ref 64]) (σ' := lm_T M v G) rfl trivial ?_
          refine lm_G_ca (j := 155) (as := [.ref 64, .ref 1004]) (rest := []) rfl (Or.inl rfl) (Nat.le_of_ble_eq_true rfl) (Nat.le_of_ble_eq_true rfl) (Nat.le_of_ble_eq_true rfl) (Nat.le_of_ble_eq_true rfl) rfl ?_
          refine m_is4 hT hp hg ?_
          show lm_G X (d + 43) 172 106 0 0 16 [some (.ref 64), some (.int (dnI D)), some (.int (-1)), none] [.int (b2i (isWd T p w4))] (lm_T M v G) Q
          refine lm_G_br (b := (b2i (isWd T p w4)) = 0) (t := 23) (S' := []) rfl (fun s4 => ?_) (fun s4 => ?_)
          rotate_left
          ·
            have a4 := b2i_1 s4
            have a2 := wd_no (u := w2) a4 (by decide)
            have es : liL T D p = eaL T D p := by unfold liL; rw [if_neg (by rw [a0]; decide), if_neg (by rw [a1]; decide), if_neg (by rw [a2]; decide), if_pos a4]
            refine lm_G_sg 6 (pc' := 56) (L' := [some (.ref 64), some (.int (dnI D)), some (.int (-1)), some (.int 1)]) (S' := [.int (1 &&& (dnI D))]) (σ' := lm_T M v G) rfl trivial ?_
            rw [show 1 &&& (dnI D) = b2i (dT D) from dn_and1 _ _ _]
            refine lm_G_br (b := (b2i (dT D)) = 0) (t := 64) (S' := []) rfl (fun gt => ?_) (fun gt => ?_)
            ·
              have ft : dT D = false := b2i_0 gt
              refine lm_G_sg 1 (pc' := 65) (L' := [some (.ref 64), some (.int (dnI D)), some (.int (-1)), some (.int 1)]) (S' := [.int 1]) (σ' := lm_T M v G) rfl trivial ?_
              refine lm_G_br (b := 1 ≤ 0) (t := 83) (S' := []) rfl (fun hc => absurd hc (by decide)) (fun hc => ?_)
              refine lm_G_sg 2 (pc' := 72) (L' := [some (.ref 64), some (.int (dnI D)), some (.int (-1)), some (.int 1)]) (S' := [.int (M 64 25)]) (σ' := lm_T M v G) rfl trivial ?_
              rw [show M 64 25 = 0 from hg.2]
              refine lm_G_br (b := ¬ 0 = 0) (t := 83) (S' := []) rfl (fun hc => absurd rfl hc) (fun hc => ?_)
              refine lm_G_sg 2 (pc' := 77) (L' := [some (.ref 64), some (.int (dnI D)), some (.int (-1)), some (.int 1)]) (S' := [.int 1, .ref 64]) (σ' := lm_T M v G) rfl trivial ?_
              have es2 : liL T D p = nuL T (e1 T p) 0 30 fun x => .inl (e2 T p, adE D x) := by rw [es]; unfold eaL; rw [if_neg (by rw [ft]; decide)]
              refine lm_G_ca (j := 171) (as := [.ref 64, .int 1]) (rest := []) rfl (Or.inl rfl) (Nat.le_of_ble_eq_true rfl) (Nat.le_of_ble_eq_true rfl) (Nat.le_of_ble_eq_true rfl) (Nat.le_of_ble_eq_true rfl) rfl ?_
              refine m_sayOnce1 hT (d + 39) v M G _ p hg hp h0 hd hD (fun r E er M9 v9 g9 d9 f9 => ?_) (fun e a er M9 v9 b9 z9 f9 => ?_)
              ·
                show lm_G X (d + 43) 172 106 0 0 80 [some (.ref 64), some (.int (dnI D)), some (.int (-1)), some (.int 1)] [] (lm_T M9 v9 G) Q
                refine lm_G_sg 1 (pc' := 118) (L' := [some (.ref 64), some (.int (dnI D)), some (.int (-1)), some (.int 1)]) (S' := []) (σ' := lm_T M9 v9 G) rfl trivial ?_
                have el := es2.trans er
                refine lm_G_jk (L := [some (.ref 64), some (.int (dnI D)), none, some (.int 1)]) ⟨rfl, rfl, rfl, trivial⟩ ?_
                exact k118 M9 r E 1 v9 g9 (liL_ok hT hp hD el).2.2 d9 f9 el (by obtain ⟨_, _, er⟩ := nuL_i er; cases er; exact dn_or1 _ _ _)
              ·
                show lm_G X (d + 43) 172 106 0 0 80 [some (.ref 64), some (.int (dnI D)), some (.int (-1)), some (.int 1)] [] (lm_T M9 v9 G) Q
                refine lm_G_sg 1 (pc' := 118) (L' := [some (.ref 64), some (.int (dnI D)), some (.int (-1)), some (.int 1)]) (S' := []) (σ' := lm_T M9 v9 G) rfl trivial ?_
                refine lm_G_jk (L := [some (.ref 64), some (.int (dnI D)), none, some (.int 1)]) ⟨rfl, rfl, rfl, trivial⟩ ?_
                exact kB M9 e a 1 v9 z9 b9 f9 (es2.trans er)
            ·
              have tt : dT D = true := b2i_1 gt
              refine lm_G_sg 2 (pc' := 61) (L' := [some (.ref 64), some (.int (dnI D)), some (.int (-1)), some (.int 1)]) (S' := [.int 5, .ref 64]) (σ' := lm_T M v G) rfl trivial ?_
              refine lm_G_ca (j := 154) (as := [.ref 64, .int 5]) (rest := []) rfl (Or.inl rfl) (Nat.le_of_ble_eq_true rfl) (Nat.le_of_ble_eq_true rfl) (Nat.le_of_ble_eq_true rfl) (Nat.le_of_ble_eq_true rfl) rfl ?_
              refine m_wrong hg.2 ?_
              show lm_G X (d + 43) 172 106 0 0 64 [some (.ref 64), some (.int (dnI D)), some (.int (-1)), some (.int 1)] [] (lm_T (lm_wr (lm_wr M 64 25 5) 64 26 (M 64 23)) v G) Q
              have z1 : ¬ (lm_wr (lm_wr M 64 25 5) 64 26 (M 64 23)) 64 25 = 0 := wr_nz (by decide)
              refine lm_G_sg 1 (pc' := 65) (L' := [some (.ref 64), some (.int (dnI D)), some (.int (-1)), some (.int 1)]) (S' := [.int 1]) (σ' := lm_T (lm_wr (lm_wr M 64 25 5) 64 26 (M 64 23)) v G) rfl trivial ?_
              refine lm_G_br (b := 1 ≤ 0) (t := 83) (S' := []) rfl (fun hc => absurd hc (by decide)) (fun hc => ?_)
              refine lm_G_sg 2 (pc' := 72) (L' := [some (.ref 64), some (.int (dnI D)), some (.int (-1)), some (.int 1)]) (S' := [.int 5]) (σ' := lm_T (lm_wr (lm_wr M 64 25 5) 64 26 (M 64 23)) v G) rfl trivial ?_
              refine lm_G_br (b := ¬ 5 = 0) (t := 83) (S' := []) rfl (fun hc => ?_) (fun hc => absurd (Classical.not_not.mp hc) z1)
              refine lm_G_sg 2 (pc' := 85) (L' := [some (.ref 64), some (.int (dnI D)), some (.int (-1)), some (.int 1)]) (S' := [.int (-1), .int (-1)]) (σ' := lm_T (lm_wr (lm_wr M 64 25 5) 64 26 (M 64 23)) v G) rfl trivial ?_
              refine lm_G_br (b := (-1) = (-1)) (t := 96) (S' := []) rfl (fun hc => ?_) (fun hc => absurd rfl hc)
              refine lm_G_sg 2 (pc' := 100) (L' := [some (.ref 64), some (.int (dnI D)), some (.int (-1)), some (.int 1)]) (S' := [.ref 1002, .ref 64]) (σ' := lm_T (lm_wr (lm_wr M 64 25 5) 64 26 (M 64 23)) v G) rfl trivial ?_
              refine lm_G_ca (j := 155) (as := [.ref 64, .ref 1002]) (rest := []) rfl (Or.inl rfl) (Nat.le_of_ble_eq_true rfl) (Nat.le_of_ble_eq_true rfl) (Nat.le_of_ble_eq_true rfl) (Nat.le_of_ble_eq_true rfl) rfl ?_
              refine m_isB2 z1 ?_
              show lm_G X (d + 43) 172 106 0 0 103 [some (.ref 64), some (.int (dnI D)), some (.int (-1)), some (.int 1)] [.int 0] (lm_T (lm_wr (lm_wr M 64 25 5) 64 26 (M 64 23)) v G) Q
              refine lm_G_br (b := 0 = 0) (t := 113) (S' := []) rfl (fun hc => ?_) (fun hc => absurd rfl hc)
              refine lm_G_sg 2 (pc' := 115) (L' := [some (.ref 64), some (.int (dnI D)), some (.int (-1)), some (.int 1)]) (S' := [.int 1, .ref 64]) (σ' := lm_T (lm_wr (lm_wr M 64 25 5) 64 26 (M 64 23)) v G) rfl trivial ?_
              refine lm_G_ca (j := 154) (as := [.ref 64, .int 1]) (rest := []) rfl (Or.inl rfl) (Nat.le_of_ble_eq_true rfl) (Nat.le_of_ble_eq_true rfl) (Nat.le_of_ble_eq_true rfl) (Nat.le_of_ble_eq_true rfl) rfl ?_
              refine m_wrongB z1 ?_
              show lm_G X (d + 43) 172 106 0 0 118 [some (.ref 64), some (.int (dnI D)), some (.int (-1)), some (.int 1)] [] (lm_T (lm_wr (lm_wr M 64 25 5) 64 26 (M 64 23)) v G) Q
              refine lm_G_jk (L := [some (.ref 64), some (.int (dnI D)), none, some (.int 1)]) ⟨rfl, rfl, rfl, trivial⟩ ?_
              exact kB _ 5 _ 1 v z1 ⟨rfl, hg.1.2.2.1⟩ (FrP_w64 (FrP_w64 (FrP_rf _) (by decide)) (by decide)) (by rw [es]; unfold eaL; rw [if_pos tt])
          ·
            have a4 := b2i_0 s4
            refine lm_G_sg 2 (pc' := 27) (L' := [some (.ref 64), some (.int (dnI D)), some (.int (-1)), none]) (S' := [.ref 1005, .ref 64]) (σ' := lm_T M v G) rfl trivial ?_
            refine lm_G_ca (j := 155) (as := [.ref 64, .ref 1005]) (rest := []) rfl (Or.inl rfl) (Nat.le_of_ble_eq_true rfl) (Nat.le_of_ble_eq_true rfl) (Nat.le_of_ble_eq_true rfl) (Nat.le_of_ble_eq_true rfl) rfl ?_
            refine m_is5 hT hp hg ?_
            show lm_G X (d + 43) 172 106 0 0 30 [some (.ref 64), some (.int (dnI D)), some (.int (-1)), none] [.int (b2i (isWd T p w5))] (lm_T M v G) Q
            refine lm_G_br (b := (b2i (isWd T p w5)) = 0) (t := 37) (S' := []) rfl (fun s5 => ?_) (fun s5 => ?_)
            rotate_left
            ·
              have a5 := b2i_1 s5
              have a2 := wd_no (u := w2) a5 (by decide)
              have es : liL T D p = ruL T false D p := by unfold liL; rw [if_neg (by rw [a0]; decide), if_neg (by rw [a1]; decide), if_neg (by rw [a2]; decide), if_neg (by rw [a4]; decide), if_pos a5]
              refine lm_G_sg 6 (pc' := 56) (L' := [some (.ref 64), some (.int (dnI D)), some (.int (-1)), some (.int 2)]) (S' := [.int (2 &&& (dnI D))]) (σ' := lm_T M v G) rfl trivial ?_
              rw [show 2 &&& (dnI D) = if decide (dR0 D ≠ []) then 2 else 0 from dn_and2 _ _ _]
              refine lm_G_br (b := (if decide (dR0 D ≠ []) then 2 else 0) = 0) (t := 64) (S' := []) rfl (fun gt => ?_) (fun gt => ?_)
              ·
                have ft : decide (dR0 D ≠ []) = false := by cases q : decide (dR0 D ≠ []) with
                  | false => rfl
                  | true => rw [q] at gt; exact absurd gt (by decide)
                refine lm_G_sg 1 (pc' := 65) (L' := [some (.ref 64), some (.int (dnI D)), some (.int (-1)), some (.int 2)]) (S' := [.int 2]) (σ' := lm_T M v G) rfl trivial ?_
                refine lm_G_br (b := 2 ≤ 0) (t := 83) (S' := []) rfl (fun hc => absurd hc (by decide)) (fun hc => ?_)
                refine lm_G_sg 2 (pc' := 72) (L' := [some (.ref 64), some (.int (dnI D)), some (.int (-1)), some (.int 2)]) (S' := [.int (M 64 25)]) (σ' := lm_T M v G) rfl trivial ?_
                rw [show M 64 25 = 0 from hg.2]
                refine lm_G_br (b := ¬ 0 = 0) (t := 83) (S' := []) rfl (fun hc => absurd rfl hc) (fun hc => ?_)
                refine lm_G_sg 2 (pc' := 77) (L' := [some (.ref 64), some (.int (dnI D)), some (.int (-1)), some (.int 2)]) (S' := [.int 2, .ref 64]) (σ' := lm_T M v G) rfl trivial ?_
                have es2 : liL T D p = (match pE T false 5 (e1 T p) with
                    | .inl (r, c) => .inl (r, adR D false c)
                    | .inr e => .inr e) := by rw [es]; unfold ruL; rw [if_neg (of_decide_eq_false ft : ¬ dRJ D false ≠ [])]; rfl
                refine lm_G_ca (j := 171) (as := [.ref 64, .int 2]) (rest := []) rfl (Or.inl rfl) (Nat.le_of_ble_eq_true rfl) (Nat.le_of_ble_eq_true rfl) (Nat.le_of_ble_eq_true rfl) (Nat.le_of_ble_eq_true rfl) rfl ?_
                refine m_sayOnce2 hT (Classical.not_not.mp (of_decide_eq_false ft)) d v M G _ p hg hp h0 hd hD (fun r E er M9 v9 g9 d9 f9 => ?_) (fun e a er M9 v9 b9 z9 f9 => ?_)
                ·
                  show lm_G X (d + 43) 172 106 0 0 80 [some (.ref 64), some (.int (dnI D)), some (.int (-1)), some (.int 2)] [] (lm_T M9 v9 G) Q
                  refine lm_G_sg 1 (pc' := 118) (L' := [some (.ref 64), some (.int (dnI D)), some (.int (-1)), some (.int 2)]) (S' := []) (σ' := lm_T M9 v9 G) rfl trivial ?_
                  have el := es2.trans er
                  refine lm_G_jk (L := [some (.ref 64), some (.int (dnI D)), none, some (.int 2)]) ⟨rfl, rfl, rfl, trivial⟩ ?_
                  exact k118 M9 r E 2 v9 g9 (liL_ok hT hp hD el).2.2 d9 f9 el (by
                    simp only [] at er
                    split at er
                    · rename_i r2 c2 e2_
                      cases er
                      have nn := pE_ne (e_le hp).1 e2_
                      show dnB _ _ _ ||| 2 = dnB _ _ _
                      rw [dn_or2]
                      show _ = dnB (dT D) (decide (c2 ≠ [])) (decide (dR1 D ≠ []))
                      rw [decide_eq_true nn]
                    · cases er)
                ·
                  show lm_G X (d + 43) 172 106 0 0 80 [some (.ref 64), some (.int (dnI D)), some (.int (-1)), some (.int 2)] [] (lm_T M9 v9 G) Q
                  refine lm_G_sg 1 (pc' := 118) (L' := [some (.ref 64), some (.int (dnI D)), some (.int (-1)), some (.int 2)]) (S' := []) (σ' := lm_T M9 v9 G) rfl trivial ?_
                  refine lm_G_jk (L := [some (.ref 64), some (.int (dnI D)), none, some (.int 2)]) ⟨rfl, rfl, rfl, trivial⟩ ?_
                  exact kB M9 e a 2 v9 z9 b9 f9 (es2.trans er)
              ·
                have tt : decide (dR0 D ≠ []) = true := by cases q : decide (dR0 D ≠ []) with
                  | true => rfl
                  | false => rw [q] at gt; exact absurd rfl gt
                refine lm_G_sg 2 (pc' := 61) (L' := [some (.ref 64), some (.int (dnI D)), some (.int (-1)), some (.int 2)]) (S' := [.int 5, .ref 64]) (σ' := lm_T M v G) rfl trivial ?_
                refine lm_G_ca (j := 154) (as := [.ref 64, .int 5]) (rest := []) rfl (Or.inl rfl) (Nat.le_of_ble_eq_true rfl) (Nat.le_of_ble_eq_true rfl) (Nat.le_of_ble_eq_true rfl) (Nat.le_of_ble_eq_true rfl) rfl ?_
                refine m_wrong hg.2 ?_
                show lm_G X (d + 43) 172 106 0 0 64 [some (.ref 64), some (.int (dnI D)), some (.int (-1)), some (.int 2)] [] (lm_T (lm_wr (lm_wr M 64 25 5) 64 26 (M 64 23)) v G) Q
                have z1 : ¬ (lm_wr (lm_wr M 64 25 5) 64 26 (M 64 23)) 64 25 = 0 := wr_nz (by decide)
                refine lm_G_sg 1 (pc' := 65) (L' := [some (.ref 64), some (.int (dnI D)), some (.int (-1)), some (.int 2)]) (S' := [.int 2]) (σ' := lm_T (lm_wr (lm_wr M 64 25 5) 64 26 (M 64 23)) v G) rfl trivial ?_
                refine lm_G_br (b := 2 ≤ 0) (t := 83) (S' := []) rfl (fun hc => absurd hc (by decide)) (fun hc => ?_)
                refine lm_G_sg 2 (pc' := 72) (L' := [some (.ref 64), some (.int (dnI D)), some (.int (-1)), some (.int 2)]) (S' := [.int 5]) (σ' := lm_T (lm_wr (lm_wr M 64 25 5) 64 26 (M 64 23)) v G) rfl trivial ?_
                refine lm_G_br (b := ¬ 5 = 0) (t := 83) (S' := []) rfl (fun hc => ?_) (fun hc => absurd (Classical.not_not.mp hc) z1)
                refine lm_G_sg 2 (pc' := 85) (L' := [some (.ref 64), some (.int (dnI D)), some (.int (-1)), some (.int 2)]) (S' := [.int (-1), .int (-1)]) (σ' := lm_T (lm_wr (lm_wr M 64 25 5) 64 26 (M 64 23)) v G) rfl trivial ?_
                refine lm_G_br (b := (-1) = (-1)) (t := 96) (S' := []) rfl (fun hc => ?_) (fun hc => absurd rfl hc)
                refine lm_G_sg 2 (pc' := 100) (L' := [some (.ref 64), some (.int (dnI D)), some (.int (-1)), some (.int 2)]) (S' := [.ref 1002, .ref 64]) (σ' := lm_T (lm_wr (lm_wr M 64 25 5) 64 26 (M 64 23)) v G) rfl trivial ?_
                refine lm_G_ca (j := 155) (as := [.ref 64, .ref 1002]) (rest := []) rfl (Or.inl rfl) (Nat.le_of_ble_eq_true rfl) (Nat.le_of_ble_eq_true rfl) (Nat.le_of_ble_eq_true rfl) (Nat.le_of_ble_eq_true rfl) rfl ?_
                refine m_isB2 z1 ?_
                show lm_G X (d + 43) 172 106 0 0 103 [some (.ref 64), some (.int (dnI D)), some (.int (-1)), some (.int 2)] [.int 0] (lm_T (lm_wr (lm_wr M 64 25 5) 64 26 (M 64 23)) v G) Q
                refine lm_G_br (b := 0 = 0) (t := 113) (S' := []) rfl (fun hc => ?_) (fun hc => absurd rfl hc)
                refine lm_G_sg 2 (pc' := 115) (L' := [some (.ref 64), some (.int (dnI D)), some (.int (-1)), some (.int 2)]) (S' := [.int 1, .ref 64]) (σ' := lm_T (lm_wr (lm_wr M 64 25 5) 64 26 (M 64 23)) v G) rfl trivial ?_
                refine lm_G_ca (j := 154) (as := [.ref 64, .int 1]) (rest := []) rfl (Or.inl rfl) (Nat.le_of_ble_eq_true rfl) (Nat.le_of_ble_eq_true rfl) (Nat.le_of_ble_eq_true rfl) (Nat.le_of_ble_eq_true rfl) rfl ?_
                refine m_wrongB z1 ?_
                show lm_G X (d + 43) 172 106 0 0 118 [some (.ref 64), some (.int (dnI D)), some (.int (-1)), some (.int 2)] [] (lm_T (lm_wr (lm_wr M 64 25 5) 64 26 (M 64 23)) v G) Q
                refine lm_G_jk (L := [some (.ref 64), some (.int (dnI D)), none, some (.int 2)]) ⟨rfl, rfl, rfl, trivial⟩ ?_
                exact kB _ 5 _ 2 v z1 ⟨rfl, hg.1.2.2.1⟩ (FrP_w64 (FrP_w64 (FrP_rf _) (by decide)) (by decide)) (by rw [es]; unfold ruL; rw [if_pos (of_decide_eq_true tt : dRJ D false ≠ [])])
            ·
              have a5 := b2i_0 s5
              refine lm_G_sg 2 (pc' := 41) (L' := [some (.ref 64), some (.int (dnI D)), some (.int (-1)), none]) (S' := [.ref 1016, .ref 64]) (σ' := lm_T M v G) rfl trivial ?_
              refine lm_G_ca (j := 155) (as := [.ref 64, .ref 1016]) (rest := []) rfl (Or.inl rfl) (Nat.le_of_ble_eq_true rfl) (Nat.le_of_ble_eq_true rfl) (Nat.le_of_ble_eq_true rfl) (Nat.le_of_ble_eq_true rfl) rfl ?_
              refine m_is16 hT hp hg ?_
              show lm_G X (d + 43) 172 106 0 0 44 [some (.ref 64), some (.int (dnI D)), some (.int (-1)), none] [.int (b2i (isWd T p w16))] (lm_T M v G) Q
              refine lm_G_br (b := (b2i (isWd T p w16)) = 0) (t := 51) (S' := []) rfl (fun s16 => ?_) (fun s16 => ?_)
              rotate_left
              ·
                have a16 := b2i_1 s16
                have a2 := wd_no (u := w2) a16 (by decide)
                have es : liL T D p = ruL T true D p := by unfold liL; rw [if_neg (by rw [a0]; decide), if_neg (by rw [a1]; decide), if_neg (by rw [a2]; decide), if_neg (by rw [a4]; decide), if_neg (by rw [a5]; decide), if_pos a16]
                refine lm_G_sg 6 (pc' := 56) (L' := [some (.ref 64), some (.int (dnI D)), some (.int (-1)), some (.int 4)]) (S' := [.int (4 &&& (dnI D))]) (σ' := lm_T M v G) rfl trivial ?_
                rw [show 4 &&& (dnI D) = if decide (dR1 D ≠ []) then 4 else 0 from dn_and4 _ _ _]
                refine lm_G_br (b := (if decide (dR1 D ≠ []) then 4 else 0) = 0) (t := 64) (S' := []) rfl (fun gt => ?_) (fun gt => ?_)
                ·
                  have ft : decide (dR1 D ≠ []) = false := by cases q : decide (dR1 D ≠ []) with
                    | false => rfl
                    | true => rw [q] at gt; exact absurd gt (by decide)
                  refine lm_G_sg 1 (pc' := 65) (L' := [some (.ref 64), some (.int (dnI D)), some (.int (-1)), some (.int 4)]) (S' := [.int 4]) (σ' := lm_T M v G) rfl trivial ?_
                  refine lm_G_br (b := 4 ≤ 0) (t := 83) (S' := []) rfl (fun hc => absurd hc (by decide)) (fun hc => ?_)
                  refine lm_G_sg 2 (pc' := 72) (L' := [some (.ref 64), some (.int (dnI D)), some (.int (-1)), some (.int 4)]) (S' := [.int (M 64 25)]) (σ' := lm_T M v G) rfl trivial ?_
                  rw [show M 64 25 = 0 from hg.2]
                  refine lm_G_br (b := ¬ 0 = 0) (t := 83) (S' := []) rfl (fun hc => absurd rfl hc) (fun hc => ?_)
                  refine lm_G_sg 2 (pc' := 77) (L' := [some (.ref 64), some (.int (dnI D)), some (.int (-1)), some (.int 4)]) (S' := [.int 4, .ref 64]) (σ' := lm_T M v G) rfl trivial ?_
                  have es2 : liL T D p = (match pE T true 5 (e1 T p) with
                      | .inl (r, c) => .inl (r, adR D true c)
                      | .inr e => .inr e) := by rw [es]; unfold ruL; rw [if_neg (of_decide_eq_false ft : ¬ dRJ D true ≠ [])]; rfl
                  refine lm_G_ca (j := 171) (as := [.ref 64, .int 4]) (rest := []) rfl (Or.inl rfl) (Nat.le_of_ble_eq_true rfl) (Nat.le_of_ble_eq_true rfl) (Nat.le_of_ble_eq_true rfl) (Nat.le_of_ble_eq_true rfl) rfl ?_
                  refine m_sayOnce4 hT (Classical.not_not.mp (of_decide_eq_false ft)) d v M G _ p hg hp h0 hd hD (fun r E er M9 v9 g9 d9 f9 => ?_) (fun e a er M9 v9 b9 z9 f9 => ?_)
                  ·
                    show lm_G X (d + 43) 172 106 0 0 80 [some (.ref 64), some (.int (dnI D)), some (.int (-1)), some (.int 4)] [] (lm_T M9 v9 G) Q
                    refine lm_G_sg 1 (pc' := 118) (L' := [some (.ref 64), some (.int (dnI D)), some (.int (-1)), some (.int 4)]) (S' := []) (σ' := lm_T M9 v9 G) rfl trivial ?_
                    have el := es2.trans er
                    refine lm_G_jk (L := [some (.ref 64), some (.int (dnI D)), none, some (.int 4)]) ⟨rfl, rfl, rfl, trivial⟩ ?_
                    exact k118 M9 r E 4 v9 g9 (liL_ok hT hp hD el).2.2 d9 f9 el (by
                      simp only [] at er
                      split at er
                      · rename_i r2 c2 e2_
                        cases er
                        have nn := pE_ne (e_le hp).1 e2_
                        show dnB _ _ _ ||| 4 = dnB _ _ _
                        rw [dn_or4]
                        show _ = dnB (dT D) (decide (dR0 D ≠ [])) (decide (c2 ≠ []))
                        rw [decide_eq_true nn]
                      · cases er)
                  ·
                    show lm_G X (d + 43) 172 106 0 0 80 [some (.ref 64), some (.int (dnI D)), some (.int (-1)), some (.int 4)] [] (lm_T M9 v9 G) Q
                    refine lm_G_sg 1 (pc' := 118) (L' := [some (.ref 64), some (.int (dnI D)), some (.int (-1)), some (.int 4)]) (S' := []) (σ' := lm_T M9 v9 G) rfl trivial ?_
                    refine lm_G_jk (L := [some (.ref 64), some (.int (dnI D)), none, some (.int 4)]) ⟨rfl, rfl, rfl, trivial⟩ ?_
                    exact kB M9 e a 4 v9 z9 b9 f9 (es2.trans er)
                ·
                  have tt : decide (dR1 D ≠ []) = true := by cases q : decide (dR1 D ≠ []) with
                    | true => rfl
                    | false => rw [q] at gt; exact absurd rfl gt
                  refine lm_G_sg 2 (pc' := 61) (L' := [some (.ref 64), some (.int (dnI D)), some (.int (-1)), some (.int 4)]) (S' := [.int 5, .ref 64]) (σ' := lm_T M v G) rfl trivial ?_
                  refine lm_G_ca (j := 154) (as := [.ref 64, .int 5]) (rest := []) rfl (Or.inl rfl) (Nat.le_of_ble_eq_true rfl) (Nat.le_of_ble_eq_true rfl) (Nat.le_of_ble_eq_true rfl) (Nat.le_of_ble_eq_true rfl) rfl ?_
                  refine m_wrong hg.2 ?_
                  show lm_G X (d + 43) 172 106 0 0 64 [some (.ref 64), some (.int (dnI D)), some (.int (-1)), some (.int 4)] [] (lm_T (lm_wr (lm_wr M 64 25 5) 64 26 (M 64 23)) v G) Q
                  have z1 : ¬ (lm_wr (lm_wr M 64 25 5) 64 26 (M 64 23)) 64 25 = 0 := wr_nz (by decide)
                  refine lm_G_sg 1 (pc' := 65) (L' := [some (.ref 64), some (.int (dnI D)), some (.int (-1)), some (.int 4)]) (S' := [.int 4]) (σ' := lm_T (lm_wr (lm_wr M 64 25 5) 64 26 (M 64 23)) v G) rfl trivial ?_
                  refine lm_G_br (b := 4 ≤ 0) (t := 83) (S' := []) rfl (fun hc => absurd hc (by decide)) (fun hc => ?_)
                  refine lm_G_sg 2 (pc' := 72) (L' := [some (.ref 64), some (.int (dnI D)), some (.int (-1)), some (.int 4)]) (S' := [.int 5]) (σ' := lm_T (lm_wr (lm_wr M 64 25 5) 64 26 (M 64 23)) v G) rfl trivial ?_
                  refine lm_G_br (b := ¬ 5 = 0) (t := 83) (S' := []) rfl (fun hc => ?_) (fun hc => absurd (Classical.not_not.mp hc) z1)
                  refine lm_G_sg 2 (pc' := 85) (L' := [some (.ref 64), some (.int (dnI D)), some (.int (-1)), some (.int 4)]) (S' := [.int (-1), .int (-1)]) (σ' := lm_T (lm_wr (lm_wr M 64 25 5) 64 26 (M 64 23)) v G) rfl trivial ?_
                  refine lm_G_br (b := (-1) = (-1)) (t := 96) (S' := []) rfl (fun hc => ?_) (fun hc => absurd rfl hc)
                  refine lm_G_sg 2 (pc' := 100) (L' := [some (.ref 64), some (.int (dnI D)), some (.int (-1)), some (.int 4)]) (S' := [.ref 1002, .ref 64]) (σ' := lm_T (lm_wr (lm_wr M 64 25 5) 64 26 (M 64 23)) v G) rfl trivial ?_
                  refine lm_G_ca (j := 155) (as := [.ref 64, .ref 1002]) (rest := []) rfl (Or.inl rfl) (Nat.le_of_ble_eq_true rfl) (Nat.le_of_ble_eq_true rfl) (Nat.le_of_ble_eq_true rfl) (Nat.le_of_ble_eq_true rfl) rfl ?_
                  refine m_isB2 z1 ?_
                  show lm_G X (d + 43) 172 106 0 0 103 [some (.ref 64), some (.int (dnI D)), some (.int (-1)), some (.int 4)] [.int 0] (lm_T (lm_wr (lm_wr M 64 25 5) 64 26 (M 64 23)) v G) Q
                  refine lm_G_br (b := 0 = 0) (t := 113) (S' := []) rfl (fun hc => ?_) (fun hc => absurd rfl hc)
                  refine lm_G_sg 2 (pc' := 115) (L' := [some (.ref 64), some (.int (dnI D)), some (.int (-1)), some (.int 4)]) (S' := [.int 1, .ref 64]) (σ' := lm_T (lm_wr (lm_wr M 64 25 5) 64 26 (M 64 23)) v G) rfl trivial ?_
                  refine lm_G_ca (j := 154) (as := [.ref 64, .int 1]) (rest := []) rfl (Or.inl rfl) (Nat.le_of_ble_eq_true rfl) (Nat.le_of_ble_eq_true rfl) (Nat.le_of_ble_eq_true rfl) (Nat.le_of_ble_eq_true rfl) rfl ?_
                  refine m_wrongB z1 ?_
                  show lm_G X (d + 43) 172 106 0 0 118 [some (.ref 64), some (.int (dnI D)), some (.int (-1)), some (.int 4)] [] (lm_T (lm_wr (lm_wr M 64 25 5) 64 26 (M 64 23)) v G) Q
                  refine lm_G_jk (L := [some (.ref 64), some (.int (dnI D)), none, some (.int 4)]) ⟨rfl, rfl, rfl, trivial⟩ ?_
                  exact kB _ 5 _ 4 v z1 ⟨rfl, hg.1.2.2.1⟩ (FrP_w64 (FrP_w64 (FrP_rf _) (by decide)) (by decide)) (by rw [es]; unfold ruL; rw [if_pos (of_decide_eq_true tt : dRJ D true ≠ [])])
              ·
                have a16 := b2i_0 s16
                refine lm_G_sg 5 (pc' := 56) (L' := [some (.ref 64), some (.int (dnI D)), some (.int (-1)), some (.int 0)]) (S' := [.int (0 &&& (dnI D))]) (σ' := lm_T M v G) rfl trivial ?_
                refine lm_G_br (b := (0 &&& (dnI D)) = 0) (t := 64) (S' := []) rfl (fun hc => ?_) (fun hc => absurd (dn_and0 _ _ _) hc)
                refine lm_G_sg 1 (pc' := 65) (L' := [some (.ref 64), some (.int (dnI D)), some (.int (-1)), some (.int 0)]) (S' := [.int 0]) (σ' := lm_T M v G) rfl trivial ?_
                refine lm_G_br (b := 0 ≤ 0) (t := 83) (S' := []) rfl (fun hc => ?_) (fun hc => absurd (by decide) hc)
                refine lm_G_sg 2 (pc' := 85) (L' := [some (.ref 64), some (.int (dnI D)), some (.int (-1)), some (.int 0)]) (S' := [.int (-1), .int (-1)]) (σ' := lm_T M v G) rfl trivial ?_
                refine lm_G_br (b := (-1) = (-1)) (t := 96) (S' := []) rfl (fun hc => ?_) (fun hc => absurd rfl hc)
                refine lm_G_sg 2 (pc' := 100) (L' := [some (.ref 64), some (.int (dnI D)), some (.int (-1)), some (.int 0)]) (S' := [.ref 1002, .ref 64]) (σ' := lm_T M v G) rfl trivial ?_
                refine lm_G_ca (j := 155) (as := [.ref 64, .ref 1002]) (rest := []) rfl (Or.inl rfl) (Nat.le_of_ble_eq_true rfl) (Nat.le_of_ble_eq_true rfl) (Nat.le_of_ble_eq_true rfl) (Nat.le_of_ble_eq_true rfl) rfl ?_
                refine m_is2 hT hp hg ?_
                show lm_G X (d + 43) 172 106 0 0 103 [some (.ref 64), some (.int (dnI D)), some (.int (-1)), some (.int 0)] [.int (b2i (isWd T p w2))] (lm_T M v G) Q
                refine lm_G_br (b := (b2i (isWd T p w2)) = 0) (t := 113) (S' := []) rfl (fun s2 => ?_) (fun s2 => ?_)
                rotate_left
                ·
                  have a2 := b2i_1 s2
                  have es : liL T D p = tuL T D p := by unfold liL; rw [if_neg (by rw [a0]; decide), if_neg (by rw [a1]; decide), if_pos a2]
                  refine lm_G_sg 1 (pc' := 107) (L' := [some (.ref 64), some (.int (dnI D)), some (.int (-1)), some (.int 0)]) (S' := [.ref 64]) (σ' := lm_T M v G) rfl trivial ?_
                  refine lm_G_ca (j := 170) (as := [.ref 64]) (rest := []) rfl (Or.inl rfl) (Nat.le_of_ble_eq_true rfl) (Nat.le_of_ble_eq_true rfl) (Nat.le_of_ble_eq_true rfl) (Nat.le_of_ble_eq_true rfl) rfl ?_
                  refine m_sayTune hT (d + 39) v M G _ p hg hp h0 hd hD (fun r E er M9 v9 g9 d9 f9 => ?_) (fun e a er M9 v9 b9 z9 f9 => ?_)
                  ·
                    show lm_G X (d + 43) 172 106 0 0 110 [some (.ref 64), some (.int (dnI D)), some (.int (-1)), some (.int 0)] [] (lm_T M9 v9 G) Q
                    refine lm_G_sg 1 (pc' := 118) (L' := [some (.ref 64), some (.int (dnI D)), some (.int (-1)), some (.int 0)]) (S' := []) (σ' := lm_T M9 v9 G) rfl trivial ?_
                    have el := es.trans er
                    refine lm_G_jk (L := [some (.ref 64), some (.int (dnI D)), none, some (.int 0)]) ⟨rfl, rfl, rfl, trivial⟩ ?_
                    exact k118 M9 r E 0 v9 g9 (liL_ok hT hp hD el).2.2 d9 f9 el (by unfold tuL at er; split at er; cases er; obtain ⟨_, _, er⟩ := nuL_i er; split at er; obtain ⟨_, _, er⟩ := nuL_i er; split at er; cases er; exact dn_or0 _ _ _; cases er; cases er; exact dn_or0 _ _ _)
                  ·
                    show lm_G X (d + 43) 172 106 0 0 110 [some (.ref 64), some (.int (dnI D)), some (.int (-1)), some (.int 0)] [] (lm_T M9 v9 G) Q
                    refine lm_G_sg 1 (pc' := 118) (L' := [some (.ref 64), some (.int (dnI D)), some (.int (-1)), some (.int 0)]) (S' := []) (σ' := lm_T M9 v9 G) rfl trivial ?_
                    refine lm_G_jk (L := [some (.ref 64), some (.int (dnI D)), none, some (.int 0)]) ⟨rfl, rfl, rfl, trivial⟩ ?_
                    exact kB M9 e a 0 v9 z9 b9 f9 (es.trans er)
                ·
                  have a2 := b2i_0 s2
                  have es : liL T D p = .inr (1, stS' T p) := by unfold liL; rw [if_neg (by rw [a0]; decide), if_neg (by rw [a1]; decide), if_neg (by rw [a2]; decide), if_neg (by rw [a4]; decide), if_neg (by rw [a5]; decide), if_neg (by rw [a16]; decide)]
                  refine lm_G_sg 2 (pc' := 115) (L' := [some (.ref 64), some (.int (dnI D)), some (.int (-1)), some (.int 0)]) (S' := [.int 1, .ref 64]) (σ' := lm_T M v G) rfl trivial ?_
                  refine lm_G_ca (j := 154) (as := [.ref 64, .int 1]) (rest := []) rfl (Or.inl rfl) (Nat.le_of_ble_eq_true rfl) (Nat.le_of_ble_eq_true rfl) (Nat.le_of_ble_eq_true rfl) (Nat.le_of_ble_eq_true rfl) rfl ?_
                  refine m_wrong hg.2 ?_
                  show lm_G X (d + 43) 172 106 0 0 118 [some (.ref 64), some (.int (dnI D)), some (.int (-1)), some (.int 0)] [] (lm_T (lm_wr (lm_wr M 64 25 1) 64 26 (M 64 23)) v G) Q
                  have z1 : ¬ (lm_wr (lm_wr M 64 25 1) 64 26 (M 64 23)) 64 25 = 0 := wr_nz (by decide)
                  refine lm_G_jk (L := [some (.ref 64), some (.int (dnI D)), none, some (.int 0)]) ⟨rfl, rfl, rfl, trivial⟩ ?_
                  exact kB _ 1 _ 0 v z1 ⟨rfl, hg.1.2.2.1⟩ (FrP_w64 (FrP_w64 (FrP_rf _) (by decide)) (by decide)) es
