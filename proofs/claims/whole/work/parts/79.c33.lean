/-! ===== contracts: the model reads code ===== -/
def vmI (k : Nat) : Int32 := if k = 6 then -1 else nI k
def soI (T : Tx) (p : Nat) : Int32 := if isWd T p w0 then 0 else if isWd T p w1 then 1 else -1
set_option maxRecDepth 10000 in
theorem m_which66 {X : lm_X} {d v : Nat} {M : Nat → Nat → Int32} {G : Nat → Nat → Int64} {Q : lm_O → lm_S → Prop} {T : Tx} {p : Nat} (hT : okT T) (hp : p ≤ tN T) (hg : GM M T p) (hQ : Q (.inl (some (.int (vmI (valS false T p))))) (lm_T M v G)) : lm_Q X (d + 1) 156 [.ref 64, .ref 66] (lm_T M v G) Q := by
  show lm_G X (d + 1) 156 106 0 0 0 [some (.ref 64), some (.ref 66), none] [] (lm_T M v G) Q
  refine lm_G_sg 5 (pc' := 5) (L' := [some (.ref 64), some (.ref 66), some (.int 0)]) (S' := [.int 6, .int 0]) (σ' := lm_T M v G) rfl trivial ?_
  refine lm_G_br (b := 6 ≤ 0) (t := 26) (S' := []) rfl (fun hc => absurd hc (by decide)) (fun hc => ?_)
  refine lm_G_sg 4 (pc' := 12) (L' := [some (.ref 64), some (.ref 66), some (.int 0)]) (S' := [.ref 1006, .ref 64]) (σ' := lm_T M v G) rfl ⟨(lm_inb_ok rfl), trivial, trivial⟩ ?_
  refine lm_G_ca (j := 155) (as := [.ref 64, .ref 1006]) (rest := []) rfl (Or.inl rfl) (Nat.le_of_ble_eq_true rfl) (Nat.le_of_ble_eq_true rfl) (Nat.le_of_ble_eq_true rfl) (Nat.le_of_ble_eq_true rfl) rfl ?_
  refine m_is6 hT hp hg ?_
  show lm_G X (d + 1) 156 106 0 0 15 [some (.ref 64), some (.ref 66), some (.int 0)] [.int (b2i (isWd T p w6))] (lm_T M v G) Q
  refine lm_G_br (b := (b2i (isWd T p w6)) = 0) (t := 20) (S' := []) rfl (fun g0 => ?_) (fun g0 => ?_)
  rotate_left
  ·
    rw [show vmI (valS false T p) = 0 from by simp [vmI, valS, nI_0, b2i_1 g0] <;> rfl] at hQ
    refine lm_G_sg 1 (pc' := 19) (L' := [some (.ref 64), some (.ref 66), some (.int 0)]) (S' := [.int 0]) (σ' := lm_T M v G) rfl trivial ?_
    exact lm_G_re rfl trivial (Nat.zero_le _) (Nat.zero_le _) hQ
  ·
    refine lm_G_sg 2 (pc' := 2) (L' := [some (.ref 64), some (.ref 66), some (.int 1)]) (S' := []) (σ' := lm_T M v G) rfl trivial ?_
    refine lm_G_sg 3 (pc' := 5) (L' := [some (.ref 64), some (.ref 66), some (.int 1)]) (S' := [.int 6, .int 1]) (σ' := lm_T M v G) rfl trivial ?_
    refine lm_G_br (b := 6 ≤ 1) (t := 26) (S' := []) rfl (fun hc => absurd hc (by decide)) (fun hc => ?_)
    refine lm_G_sg 4 (pc' := 12) (L' := [some (.ref 64), some (.ref 66), some (.int 1)]) (S' := [.ref 1007, .ref 64]) (σ' := lm_T M v G) rfl ⟨(lm_inb_ok rfl), trivial, trivial⟩ ?_
    refine lm_G_ca (j := 155) (as := [.ref 64, .ref 1007]) (rest := []) rfl (Or.inl rfl) (Nat.le_of_ble_eq_true rfl) (Nat.le_of_ble_eq_true rfl) (Nat.le_of_ble_eq_true rfl) (Nat.le_of_ble_eq_true rfl) rfl ?_
    refine m_is7 hT hp hg ?_
    show lm_G X (d + 1) 156 106 0 0 15 [some (.ref 64), some (.ref 66), some (.int 1)] [.int (b2i (isWd T p w7))] (lm_T M v G) Q
    refine lm_G_br (b := (b2i (isWd T p w7)) = 0) (t := 20) (S' := []) rfl (fun g1 => ?_) (fun g1 => ?_)
    rotate_left
    ·
      rw [show vmI (valS false T p) = 1 from by simp [vmI, valS, nI_0, b2i_1 g1, b2i_0 g0] <;> rfl] at hQ
      refine lm_G_sg 1 (pc' := 19) (L' := [some (.ref 64), some (.ref 66), some (.int 1)]) (S' := [.int 1]) (σ' := lm_T M v G) rfl trivial ?_
      exact lm_G_re rfl trivial (Nat.zero_le _) (Nat.zero_le _) hQ
    ·
      refine lm_G_sg 2 (pc' := 2) (L' := [some (.ref 64), some (.ref 66), some (.int 2)]) (S' := []) (σ' := lm_T M v G) rfl trivial ?_
      refine lm_G_sg 3 (pc' := 5) (L' := [some (.ref 64), some (.ref 66), some (.int 2)]) (S' := [.int 6, .int 2]) (σ' := lm_T M v G) rfl trivial ?_
      refine lm_G_br (b := 6 ≤ 2) (t := 26) (S' := []) rfl (fun hc => absurd hc (by decide)) (fun hc => ?_)
      refine lm_G_sg 4 (pc' := 12) (L' := [some (.ref 64), some (.ref 66), some (.int 2)]) (S' := [.ref 1008, .ref 64]) (σ' := lm_T M v G) rfl ⟨(lm_inb_ok rfl), trivial, trivial⟩ ?_
      refine lm_G_ca (j := 155) (as := [.ref 64, .ref 1008]) (rest := []) rfl (Or.inl rfl) (Nat.le_of_ble_eq_true rfl) (Nat.le_of_ble_eq_true rfl) (Nat.le_of_ble_eq_true rfl) (Nat.le_of_ble_eq_true rfl) rfl ?_
      refine m_is8 hT hp hg ?_
      show lm_G X (d + 1) 156 106 0 0 15 [some (.ref 64), some (.ref 66), some (.int 2)] [.int (b2i (isWd T p w8))] (lm_T M v G) Q
      refine lm_G_br (b := (b2i (isWd T p w8)) = 0) (t := 20) (S' := []) rfl (fun g2 => ?_) (fun g2 => ?_)
      rotate_left
      ·
        rw [show vmI (valS false T p) = 2 from by simp [vmI, valS, nI_0, b2i_1 g2, b2i_0 g0, b2i_0 g1] <;> rfl] at hQ
        refine lm_G_sg 1 (pc' := 19) (L' := [some (.ref 64), some (.ref 66), some (.int 2)]) (S' := [.int 2]) (σ' := lm_T M v G) rfl trivial ?_
        exact lm_G_re rfl trivial (Nat.zero_le _) (Nat.zero_le _) hQ
      ·
        refine lm_G_sg 2 (pc' := 2) (L' := [some (.ref 64), some (.ref 66), some (.int 3)]) (S' := []) (σ' := lm_T M v G) rfl trivial ?_
        refine lm_G_sg 3 (pc' := 5) (L' := [some (.ref 64), some (.ref 66), some (.int 3)]) (S' := [.int 6, .int 3]) (σ' := lm_T M v G) rfl trivial ?_
        refine lm_G_br (b := 6 ≤ 3) (t := 26) (S' := []) rfl (fun hc => absurd hc (by decide)) (fun hc => ?_)
        refine lm_G_sg 4 (pc' := 12) (L' := [some (.ref 64), some (.ref 66), some (.int 3)]) (S' := [.ref 1009, .ref 64]) (σ' := lm_T M v G) rfl ⟨(lm_inb_ok rfl), trivial, trivial⟩ ?_
        refine lm_G_ca (j := 155) (as := [.ref 64, .ref 1009]) (rest := []) rfl (Or.inl rfl) (Nat.le_of_ble_eq_true rfl) (Nat.le_of_ble_eq_true rfl) (Nat.le_of_ble_eq_true rfl) (Nat.le_of_ble_eq_true rfl) rfl ?_
        refine m_is9 hT hp hg ?_
        show lm_G X (d + 1) 156 106 0 0 15 [some (.ref 64), some (.ref 66), some (.int 3)] [.int (b2i (isWd T p w9))] (lm_T M v G) Q
        refine lm_G_br (b := (b2i (isWd T p w9)) = 0) (t := 20) (S' := []) rfl (fun g3 => ?_) (fun g3 => ?_)
        rotate_left
        ·
          rw [show vmI (valS false T p) = 3 from by simp [vmI, valS, nI_0, b2i_1 g3, b2i_0 g0, b2i_0 g1, b2i_0 g2] <;> rfl] at hQ
          refine lm_G_sg 1 (pc' := 19) (L' := [some (.ref 64), some (.ref 66), some (.int 3)]) (S' := [.int 3]) (σ' := lm_T M v G) rfl trivial ?_
          exact lm_G_re rfl trivial (Nat.zero_le _) (Nat.zero_le _) hQ
        ·
          refine lm_G_sg 2 (pc' := 2) (L' := [some (.ref 64), some (.ref 66), some (.int 4)]) (S' := []) (σ' := lm_T M v G) rfl trivial ?_
          refine lm_G_sg 3 (pc' := 5) (L' := [some (.ref 64), some (.ref 66), some (.int 4)]) (S' := [.int 6, .int 4]) (σ' := lm_T M v G) rfl trivial ?_
          refine lm_G_br (b := 6 ≤ 4) (t := 26) (S' := []) rfl (fun hc => absurd hc (by decide)) (fun hc => ?_)
          refine lm_G_sg 4 (pc' := 12) (L' := [some (.ref 64), some (.ref 66), some (.int 4)]) (S' := [.ref 1010, .ref 64]) (σ' := lm_T M v G) rfl ⟨(lm_inb_ok rfl), trivial, trivial⟩ ?_
          refine lm_G_ca (j := 155) (as := [.ref 64, .ref 1010]) (rest := []) rfl (Or.inl rfl) (Nat.le_of_ble_eq_true rfl) (Nat.le_of_ble_eq_true rfl) (Nat.le_of_ble_eq_true rfl) (Nat.le_of_ble_eq_true rfl) rfl ?_
          refine m_is10 hT hp hg ?_
          show lm_G X (d + 1) 156 106 0 0 15 [some (.ref 64), some (.ref 66), some (.int 4)] [.int (b2i (isWd T p w10))] (lm_T M v G) Q
          refine lm_G_br (b := (b2i (isWd T p w10)) = 0) (t := 20) (S' := []) rfl (fun g4 => ?_) (fun g4 => ?_)
          rotate_left
          ·
            rw [show vmI (valS false T p) = 4 from by simp [vmI, valS, nI_0, b2i_1 g4, b2i_0 g0, b2i_0 g1, b2i_0 g2, b2i_0 g3] <;> rfl] at hQ
            refine lm_G_sg 1 (pc' := 19) (L' := [some (.ref 64), some (.ref 66), some (.int 4)]) (S' := [.int 4]) (σ' := lm_T M v G) rfl trivial ?_
            exact lm_G_re rfl trivial (Nat.zero_le _) (Nat.zero_le _) hQ
          ·
            refine lm_G_sg 2 (pc' := 2) (L' := [some (.ref 64), some (.ref 66), some (.int 5)]) (S' := []) (σ' := lm_T M v G) rfl trivial ?_
            refine lm_G_sg 3 (pc' := 5) (L' := [some (.ref 64), some (.ref 66), some (.int 5)]) (S' := [.int 6, .int 5]) (σ' := lm_T M v G) rfl trivial ?_
            refine lm_G_br (b := 6 ≤ 5) (t := 26) (S' := []) rfl (fun hc => absurd hc (by decide)) (fun hc => ?_)
            refine lm_G_sg 4 (pc' := 12) (L' := [some (.ref 64), some (.ref 66), some (.int 5)]) (S' := [.ref 1011, .ref 64]) (σ' := lm_T M v G) rfl ⟨(lm_inb_ok rfl), trivial, trivial⟩ ?_
            refine lm_G_ca (j := 155) (as := [.ref 64, .ref 1011]) (rest := []) rfl (Or.inl rfl) (Nat.le_of_ble_eq_true rfl) (Nat.le_of_ble_eq_true rfl) (Nat.le_of_ble_eq_true rfl) (Nat.le_of_ble_eq_true rfl) rfl ?_
            refine m_is11 hT hp hg ?_
            show lm_G X (d + 1) 156 106 0 0 15 [some (.ref 64), some (.ref 66), some (.int 5)] [.int (b2i (isWd T p w11))] (lm_T M v G) Q
            refine lm_G_br (b := (b2i (isWd T p w11)) = 0) (t := 20) (S' := []) rfl (fun g5 => ?_) (fun g5 => ?_)
            rotate_left
            ·
              rw [show vmI (valS false T p) = 5 from by simp [vmI, valS, nI_0, b2i_1 g5, b2i_0 g0, b2i_0 g1, b2i_0 g2, b2i_0 g3, b2i_0 g4] <;> rfl] at hQ
              refine lm_G_sg 1 (pc' := 19) (L' := [some (.ref 64), some (.ref 66), some (.int 5)]) (S' := [.int 5]) (σ' := lm_T M v G) rfl trivial ?_
              exact lm_G_re rfl trivial (Nat.zero_le _) (Nat.zero_le _) hQ
            ·
              refine lm_G_sg 2 (pc' := 2) (L' := [some (.ref 64), some (.ref 66), some (.int 6)]) (S' := []) (σ' := lm_T M v G) rfl trivial ?_
              refine lm_G_sg 3 (pc' := 5) (L' := [some (.ref 64), some (.ref 66), some (.int 6)]) (S' := [.int 6, .int 6]) (σ' := lm_T M v G) rfl trivial ?_
              refine lm_G_br (b := 6 ≤ 6) (t := 26) (S' := []) rfl (fun hc => ?_) (fun hc => absurd (by decide) hc)
              rw [show vmI (valS false T p) = -1 from by simp [vmI, valS, nI_0, b2i_0 g0, b2i_0 g1, b2i_0 g2, b2i_0 g3, b2i_0 g4, b2i_0 g5] <;> rfl] at hQ
              refine lm_G_sg 1 (pc' := 27) (L' := [some (.ref 64), some (.ref 66), some (.int 6)]) (S' := [.int (-1)]) (σ' := lm_T M v G) rfl trivial ?_
              exact lm_G_re rfl trivial (Nat.zero_le _) (Nat.zero_le _) hQ
set_option maxRecDepth 10000 in
theorem m_which67 {X : lm_X} {d v : Nat} {M : Nat → Nat → Int32} {G : Nat → Nat → Int64} {Q : lm_O → lm_S → Prop} {T : Tx} {p : Nat} (hT : okT T) (hp : p ≤ tN T) (hg : GM M T p) (hQ : Q (.inl (some (.int (vmI (valS true T p))))) (lm_T M v G)) : lm_Q X (d + 1) 156 [.ref 64, .ref 67] (lm_T M v G) Q := by
  show lm_G X (d + 1) 156 106 0 0 0 [some (.ref 64), some (.ref 67), none] [] (lm_T M v G) Q
  refine lm_G_sg 5 (pc' := 5) (L' := [some (.ref 64), some (.ref 67), some (.int 0)]) (S' := [.int 6, .int 0]) (σ' := lm_T M v G) rfl trivial ?_
  refine lm_G_br (b := 6 ≤ 0) (t := 26) (S' := []) rfl (fun hc => absurd hc (by decide)) (fun hc => ?_)
  refine lm_G_sg 4 (pc' := 12) (L' := [some (.ref 64), some (.ref 67), some (.int 0)]) (S' := [.ref 1006, .ref 64]) (σ' := lm_T M v G) rfl ⟨(lm_inb_ok rfl), trivial, trivial⟩ ?_
  refine lm_G_ca (j := 155) (as := [.ref 64, .ref 1006]) (rest := []) rfl (Or.inl rfl) (Nat.le_of_ble_eq_true rfl) (Nat.le_of_ble_eq_true rfl) (Nat.le_of_ble_eq_true rfl) (Nat.le_of_ble_eq_true rfl) rfl ?_
  refine m_is6 hT hp hg ?_
  show lm_G X (d + 1) 156 106 0 0 15 [some (.ref 64), some (.ref 67), some (.int 0)] [.int (b2i (isWd T p w6))] (lm_T M v G) Q
  refine lm_G_br (b := (b2i (isWd T p w6)) = 0) (t := 20) (S' := []) rfl (fun g0 => ?_) (fun g0 => ?_)
  rotate_left
  ·
    rw [show vmI (valS true T p) = 0 from by simp [vmI, valS, nI_0, b2i_1 g0] <;> rfl] at hQ
    refine lm_G_sg 1 (pc' := 19) (L' := [some (.ref 64), some (.ref 67), some (.int 0)]) (S' := [.int 0]) (σ' := lm_T M v G) rfl trivial ?_
    exact lm_G_re rfl trivial (Nat.zero_le _) (Nat.zero_le _) hQ
  ·
    refine lm_G_sg 2 (pc' := 2) (L' := [some (.ref 64), some (.ref 67), some (.int 1)]) (S' := []) (σ' := lm_T M v G) rfl trivial ?_
    refine lm_G_sg 3 (pc' := 5) (L' := [some (.ref 64), some (.ref 67), some (.int 1)]) (S' := [.int 6, .int 1]) (σ' := lm_T M v G) rfl trivial ?_
    refine lm_G_br (b := 6 ≤ 1) (t := 26) (S' := []) rfl (fun hc => absurd hc (by decide)) (fun hc => ?_)
    refine lm_G_sg 4 (pc' := 12) (L' := [some (.ref 64), some (.ref 67), some (.int 1)]) (S' := [.ref 1007, .ref 64]) (σ' := lm_T M v G) rfl ⟨(lm_inb_ok rfl), trivial, trivial⟩ ?_
    refine lm_G_ca (j := 155) (as := [.ref 64, .ref 1007]) (rest := []) rfl (Or.inl rfl) (Nat.le_of_ble_eq_true rfl) (Nat.le_of_ble_eq_true rfl) (Nat.le_of_ble_eq_true rfl) (Nat.le_of_ble_eq_true rfl) rfl ?_
    refine m_is7 hT hp hg ?_
    show lm_G X (d + 1) 156 106 0 0 15 [some (.ref 64), some (.ref 67), some (.int 1)] [.int (b2i (isWd T p w7))] (lm_T M v G) Q
    refine lm_G_br (b := (b2i (isWd T p w7)) = 0) (t := 20) (S' := []) rfl (fun g1 => ?_) (fun g1 => ?_)
    rotate_left
    ·
      rw [show vmI (valS true T p) = 1 from by simp [vmI, valS, nI_0, b2i_1 g1, b2i_0 g0] <;> rfl] at hQ
      refine lm_G_sg 1 (pc' := 19) (L' := [some (.ref 64), some (.ref 67), some (.int 1)]) (S' := [.int 1]) (σ' := lm_T M v G) rfl trivial ?_
      exact lm_G_re rfl trivial (Nat.zero_le _) (Nat.zero_le _) hQ
    ·
      refine lm_G_sg 2 (pc' := 2) (L' := [some (.ref 64), some (.ref 67), some (.int 2)]) (S' := []) (σ' := lm_T M v G) rfl trivial ?_
      refine lm_G_sg 3 (pc' := 5) (L' := [some (.ref 64), some (.ref 67), some (.int 2)]) (S' := [.int 6, .int 2]) (σ' := lm_T M v G) rfl trivial ?_
      refine lm_G_br (b := 6 ≤ 2) (t := 26) (S' := []) rfl (fun hc => absurd hc (by decide)) (fun hc => ?_)
      refine lm_G_sg 4 (pc' := 12) (L' := [some (.ref 64), some (.ref 67), some (.int 2)]) (S' := [.ref 1008, .ref 64]) (σ' := lm_T M v G) rfl ⟨(lm_inb_ok rfl), trivial, trivial⟩ ?_
      refine lm_G_ca (j := 155) (as := [.ref 64, .ref 1008]) (rest := []) rfl (Or.inl rfl) (Nat.le_of_ble_eq_true rfl) (Nat.le_of_ble_eq_true rfl) (Nat.le_of_ble_eq_true rfl) (Nat.le_of_ble_eq_true rfl) rfl ?_
      refine m_is8 hT hp hg ?_
      show lm_G X (d + 1) 156 106 0 0 15 [some (.ref 64), some (.ref 67), some (.int 2)] [.int (b2i (isWd T p w8))] (lm_T M v G) Q
      refine lm_G_br (b := (b2i (isWd T p w8)) = 0) (t := 20) (S' := []) rfl (fun g2 => ?_) (fun g2 => ?_)
      rotate_left
      ·
        rw [show vmI (valS true T p) = 2 from by simp [vmI, valS, nI_0, b2i_1 g2, b2i_0 g0, b2i_0 g1] <;> rfl] at hQ
        refine lm_G_sg 1 (pc' := 19) (L' := [some (.ref 64), some (.ref 67), some (.int 2)]) (S' := [.int 2]) (σ' := lm_T M v G) rfl trivial ?_
        exact lm_G_re rfl trivial (Nat.zero_le _) (Nat.zero_le _) hQ
      ·
        refine lm_G_sg 2 (pc' := 2) (L' := [some (.ref 64), some (.ref 67), some (.int 3)]) (S' := []) (σ' := lm_T M v G) rfl trivial ?_
        refine lm_G_sg 3 (pc' := 5) (L' := [some (.ref 64), some (.ref 67), some (.int 3)]) (S' := [.int 6, .int 3]) (σ' := lm_T M v G) rfl trivial ?_
        refine lm_G_br (b := 6 ≤ 3) (t := 26) (S' := []) rfl (fun hc => absurd hc (by decide)) (fun hc => ?_)
        refine lm_G_sg 4 (pc' := 12) (L' := [some (.ref 64), some (.ref 67), some (.int 3)]) (S' := [.ref 1009, .ref 64]) (σ' := lm_T M v G) rfl ⟨(lm_inb_ok rfl), trivial, trivial⟩ ?_
        refine lm_G_ca (j := 155) (as := [.ref 64, .ref 1009]) (rest := []) rfl (Or.inl rfl) (Nat.le_of_ble_eq_true rfl) (Nat.le_of_ble_eq_true rfl) (Nat.le_of_ble_eq_true rfl) (Nat.le_of_ble_eq_true rfl) rfl ?_
        refine m_is9 hT hp hg ?_
        show lm_G X (d + 1) 156 106 0 0 15 [some (.ref 64), some (.ref 67), some (.int 3)] [.int (b2i (isWd T p w9))] (lm_T M v G) Q
        refine lm_G_br (b := (b2i (isWd T p w9)) = 0) (t := 20) (S' := []) rfl (fun g3 => ?_) (fun g3 => ?_)
        rotate_left
        ·
          rw [show vmI (valS true T p) = 3 from by simp [vmI, valS, nI_0, b2i_1 g3, b2i_0 g0, b2i_0 g1, b2i_0 g2] <;> rfl] at hQ
          refine lm_G_sg 1 (pc' := 19) (L' := [some (.ref 64), some (.ref 67), some (.int 3)]) (S' := [.int 3]) (σ' := lm_T M v G) rfl trivial ?_
          exact lm_G_re rfl trivial (Nat.zero_le _) (Nat.zero_le _) hQ
        ·
          refine lm_G_sg 2 (pc' := 2) (L' := [some (.ref 64), some (.ref 67), some (.int 4)]) (S' := []) (σ' := lm_T M v G) rfl trivial ?_
          refine lm_G_sg 3 (pc' := 5) (L' := [some (.ref 64), some (.ref 67), some (.int 4)]) (S' := [.int 6, .int 4]) (σ' := lm_T M v G) rfl trivial ?_
          refine lm_G_br (b := 6 ≤ 4) (t := 26) (S' := []) rfl (fun hc => absurd hc (by decide)) (fun hc => ?_)
          refine lm_G_sg 4 (pc' := 12) (L' := [some (.ref 64), some (.ref 67), some (.int 4)]) (S' := [.ref 1010, .ref 64]) (σ' := lm_T M v G) rfl ⟨(lm_inb_ok rfl), trivial, trivial⟩ ?_
          refine lm_G_ca (j := 155) (as := [.ref 64, .ref 1010]) (rest := []) rfl (Or.inl rfl) (Nat.le_of_ble_eq_true rfl) (Nat.le_of_ble_eq_true rfl) (Nat.le_of_ble_eq_true rfl) (Nat.le_of_ble_eq_true rfl) rfl ?_
          refine m_is10 hT hp hg ?_
          show lm_G X (d + 1) 156 106 0 0 15 [some (.ref 64), some (.ref 67), some (.int 4)] [.int (b2i (isWd T p w10))] (lm_T M v G) Q
          refine lm_G_br (b := (b2i (isWd T p w10)) = 0) (t := 20) (S' := []) rfl (fun g4 => ?_) (fun g4 => ?_)
          rotate_left
          ·
            rw [show vmI (valS true T p) = 4 from by simp [vmI, valS, nI_0, b2i_1 g4, b2i_0 g0, b2i_0 g1, b2i_0 g2, b2i_0 g3] <;> rfl] at hQ
            refine lm_G_sg 1 (pc' := 19) (L' := [some (.ref 64), some (.ref 67), some (.int 4)]) (S' := [.int 4]) (σ' := lm_T M v G) rfl trivial ?_
            exact lm_G_re rfl trivial (Nat.zero_le _) (Nat.zero_le _) hQ
          ·
            refine lm_G_sg 2 (pc' := 2) (L' := [some (.ref 64), some (.ref 67), some (.int 5)]) (S' := []) (σ' := lm_T M v G) rfl trivial ?_
            refine lm_G_sg 3 (pc' := 5) (L' := [some (.ref 64), some (.ref 67), some (.int 5)]) (S' := [.int 6, .int 5]) (σ' := lm_T M v G) rfl trivial ?_
            refine lm_G_br (b := 6 ≤ 5) (t := 26) (S' := []) rfl (fun hc => absurd hc (by decide)) (fun hc => ?_)
            refine lm_G_sg 4 (pc' := 12) (L' := [some (.ref 64), some (.ref 67), some (.int 5)]) (S' := [.ref 1012, .ref 64]) (σ' := lm_T M v G) rfl ⟨(lm_inb_ok rfl), trivial, trivial⟩ ?_
            refine lm_G_ca (j := 155) (as := [.ref 64, .ref 1012]) (rest := []) rfl (Or.inl rfl) (Nat.le_of_ble_eq_true rfl) (Nat.le_of_ble_eq_true rfl) (Nat.le_of_ble_eq_true rfl) (Nat.le_of_ble_eq_true rfl) rfl ?_
            refine m_is12 hT hp hg ?_
            show lm_G X (d + 1) 156 106 0 0 15 [some (.ref 64), some (.ref 67), some (.int 5)] [.int (b2i (isWd T p w12))] (lm_T M v G) Q
            refine lm_G_br (b := (b2i (isWd T p w12)) = 0) (t := 20) (S' := []) rfl (fun g5 => ?_) (fun g5 => ?_)
            rotate_left
            ·
              rw [show vmI (valS true T p) = 5 from by simp [vmI, valS, nI_0, b2i_1 g5, b2i_0 g0, b2i_0 g1, b2i_0 g2, b2i_0 g3, b2i_0 g4] <;> rfl] at hQ
              refine lm_G_sg 1 (pc' := 19) (L' := [some (.ref 64), some (.ref 67), some (.int 5)]) (S' := [.int 5]) (σ' := lm_T M v G) rfl trivial ?_
              exact lm_G_re rfl trivial (Nat.zero_le _) (Nat.zero_le _) hQ
            ·
              refine lm_G_sg 2 (pc' := 2) (L' := [some (.ref 64), some (.ref 67), some (.int 6)]) (S' := []) (σ' := lm_T M v G) rfl trivial ?_
              refine lm_G_sg 3 (pc' := 5) (L' := [some (.ref 64), some (.ref 67), some (.int 6)]) (S' := [.int 6, .int 6]) (σ' := lm_T M v G) rfl trivial ?_
              refine lm_G_br (b := 6 ≤ 6) (t := 26) (S' := []) rfl (fun hc => ?_) (fun hc => absurd (by decide) hc)
              rw [show vmI (valS true T p) = -1 from by simp [vmI, valS, nI_0, b2i_0 g0, b2i_0 g1, b2i_0 g2, b2i_0 g3, b2i_0 g4, b2i_0 g5] <;> rfl] at hQ
              refine lm_G_sg 1 (pc' := 27) (L' := [some (.ref 64), some (.ref 67), some (.int 6)]) (S' := [.int (-1)]) (σ' := lm_T M v G) rfl trivial ?_
              exact lm_G_re rfl trivial (Nat.zero_le _) (Nat.zero_le _) hQ
set_option maxRecDepth 10000 in
theorem m_which65 {X : lm_X} {d v : Nat} {M : Nat → Nat → Int32} {G : Nat → Nat → Int64} {Q : lm_O → lm_S → Prop} {T : Tx} {p : Nat} (hT : okT T) (hp : p ≤ tN T) (hg : GM M T p) (hQ : Q (.inl (some (.int (soI T p)))) (lm_T M v G)) : lm_Q X (d + 1) 156 [.ref 64, .ref 65] (lm_T M v G) Q := by
  show lm_G X (d + 1) 156 106 0 0 0 [some (.ref 64), some (.ref 65), none] [] (lm_T M v G) Q
  refine lm_G_sg 5 (pc' := 5) (L' := [some (.ref 64), some (.ref 65), some (.int 0)]) (S' := [.int 2, .int 0]) (σ' := lm_T M v G) rfl trivial ?_
  refine lm_G_br (b := 2 ≤ 0) (t := 26) (S' := []) rfl (fun hc => absurd hc (by decide)) (fun hc => ?_)
  refine lm_G_sg 4 (pc' := 12) (L' := [some (.ref 64), some (.ref 65), some (.int 0)]) (S' := [.ref 1000, .ref 64]) (σ' := lm_T M v G) rfl ⟨(lm_inb_ok rfl), trivial, trivial⟩ ?_
  refine lm_G_ca (j := 155) (as := [.ref 64, .ref 1000]) (rest := []) rfl (Or.inl rfl) (Nat.le_of_ble_eq_true rfl) (Nat.le_of_ble_eq_true rfl) (Nat.le_of_ble_eq_true rfl) (Nat.le_of_ble_eq_true rfl) rfl ?_
  refine m_is0 hT hp hg ?_
  show lm_G X (d + 1) 156 106 0 0 15 [some (.ref 64), some (.ref 65), some (.int 0)] [.int (b2i (isWd T p w0))] (lm_T M v G) Q
  refine lm_G_br (b := (b2i (isWd T p w0)) = 0) (t := 20) (S' := []) rfl (fun g0 => ?_) (fun g0 => ?_)
  rotate_left
  ·
    rw [show soI T p = 0 from by simp [soI, b2i_1 g0]] at hQ
    refine lm_G_sg 1 (pc' := 19) (L' := [some (.ref 64), some (.ref 65), some (.int 0)]) (S' := [.int 0]) (σ' := lm_T M v G) rfl trivial ?_
    exact lm_G_re rfl trivial (Nat.zero_le _) (Nat.zero_le _) hQ
  ·
    refine lm_G_sg 2 (pc' := 2) (L' := [some (.ref 64), some (.ref 65), some (.int 1)]) (S' := []) (σ' := lm_T M v G) rfl trivial ?_
    refine lm_G_sg 3 (pc' := 5) (L' := [some (.ref 64), some (.ref 65), some (.int 1)]) (S' := [.int 2, .int 1]) (σ' := lm_T M v G) rfl trivial ?_
    refine lm_G_br (b := 2 ≤ 1) (t := 26) (S' := []) rfl (fun hc => absurd hc (by decide)) (fun hc => ?_)
    refine lm_G_sg 4 (pc' := 12) (L' := [some (.ref 64), some (.ref 65), some (.int 1)]) (S' := [.ref 1001, .ref 64]) (σ' := lm_T M v G) rfl ⟨(lm_inb_ok rfl), trivial, trivial⟩ ?_
    refine lm_G_ca (j := 155) (as := [.ref 64, .ref 1001]) (rest := []) rfl (Or.inl rfl) (Nat.le_of_ble_eq_true rfl) (Nat.le_of_ble_eq_true rfl) (Nat.le_of_ble_eq_true rfl) (Nat.le_of_ble_eq_true rfl) rfl ?_
    refine m_is1 hT hp hg ?_
    show lm_G X (d + 1) 156 106 0 0 15 [some (.ref 64), some (.ref 65), some (.int 1)] [.int (b2i (isWd T p w1))] (lm_T M v G) Q
    refine lm_G_br (b := (b2i (isWd T p w1)) = 0) (t := 20) (S' := []) rfl (fun g1 => ?_) (fun g1 => ?_)
    rotate_left
    ·
      rw [show soI T p = 1 from by simp [soI, b2i_1 g1, b2i_0 g0]] at hQ
      refine lm_G_sg 1 (pc' := 19) (L' := [some (.ref 64), some (.ref 65), some (.int 1)]) (S' := [.int 1]) (σ' := lm_T M v G) rfl trivial ?_
      exact lm_G_re rfl trivial (Nat.zero_le _) (Nat.zero_le _) hQ
    ·
      refine lm_G_sg 2 (pc' := 2) (L' := [some (.ref 64), some (.ref 65), some (.int 2)]) (S' := []) (σ' := lm_T M v G) rfl trivial ?_
      refine lm_G_sg 3 (pc' := 5) (L' := [some (.ref 64), some (.ref 65), some (.int 2)]) (S' := [.int 2, .int 2]) (σ' := lm_T M v G) rfl trivial ?_
      refine lm_G_br (b := 2 ≤ 2) (t := 26) (S' := []) rfl (fun hc => ?_) (fun hc => absurd (by decide) hc)
      rw [show soI T p = -1 from by simp [soI, b2i_0 g0, b2i_0 g1]] at hQ
      refine lm_G_sg 1 (pc' := 27) (L' := [some (.ref 64), some (.ref 65), some (.int 2)]) (S' := [.int (-1)]) (σ' := lm_T M v G) rfl trivial ?_
      exact lm_G_re rfl trivial (Nat.zero_le _) (Nat.zero_le _) hQ
theorem m_whichV {X : lm_X} {d v : Nat} {M : Nat → Nat → Int32} {G : Nat → Nat → Int64} {Q : lm_O → lm_S → Prop} {T : Tx} {p : Nat} {J : Bool} (hT : okT T) (hp : p ≤ tN T) (hg : GM M T p) (hQ : Q (.inl (some (.int (vmI (valS J T p))))) (lm_T M v G)) : lm_Q X (d + 1) 156 [.ref 64, .ref (vvJ J)] (lm_T M v G) Q := by
  cases J
  · exact m_which66 hT hp hg hQ
  · exact m_which67 hT hp hg hQ
set_option maxRecDepth 10000 in
theorem m_lay_false {X : lm_X} {d v : Nat} {M : Nat → Nat → Int32} {G : Nat → Nat → Int64} {Q : lm_O → lm_S → Prop} {K : Cd} {x : Nat × Nat} (hg : M 64 25 = 0) (h28 : M 64 28 = 0) (hk : MCode M false K) (hl : K.length < 700) (hQ : ∀ M1, MCode M1 false (K ++ [x]) → FrJ false M M1 → M1 64 = M 64 → M1 80 = M 80 → Q (.inl none) (lm_T M1 v G)) : lm_Q X d 161 [.ref 64, .int (encM x)] (lm_T M v G) Q := by
  show lm_G X d 161 106 0 0 0 [some (.ref 64), some (.int (encM x)), none, none] [] (lm_T M v G) Q
  refine lm_G_sg 2 (pc' := 4) (L' := [some (.ref 64), some (.int (encM x)), none, none]) (S' := [.int (M 64 25)]) (σ' := lm_T M v G) rfl trivial ?_
  rw [show M 64 25 = 0 from hg]
  refine lm_G_br (b := 0 = 0) (t := 8) (S' := []) rfl (fun hc => ?_) (fun hc => absurd rfl hc)
  refine lm_G_sg 3 (pc' := 13) (L' := [some (.ref 64), some (.int (encM x)), none, none]) (S' := [.int (M 64 28), .int 5]) (σ' := lm_T M v G) rfl trivial ?_
  rw [show M 64 28 = 0 from h28]
  refine lm_G_br (b := 0 = 0) (t := 20) (S' := [.int 5]) rfl (fun hc => ?_) (fun hc => absurd rfl hc)
  refine lm_G_sg 2 (pc' := 22) (L' := [some (.ref 64), some (.int (encM x)), none, none]) (S' := [.int (5 + 3)]) (σ' := lm_T M v G) rfl trivial ?_
  rw [show (5 : Int32) + 3 = 8 from by decide]
  refine lm_G_sg 3 (pc' := 27) (L' := [some (.ref 64), some (.int (encM x)), some (.int 8), none]) (S' := [.int (M 64 28)]) (σ' := lm_T M v G) rfl trivial ?_
  rw [show M 64 28 = 0 from h28]
  refine lm_G_br (b := 0 = 0) (t := 37) (S' := []) rfl (fun hc => ?_) (fun hc => absurd rfl hc)
  refine lm_G_sg 9 (pc' := 52) (L' := [some (.ref 64), some (.int (encM x)), some (.int 8), some (.ref 76)]) (S' := [.int (M 68 8), .int 700, .ref 76]) (σ' := lm_T M v G) rfl ⟨(lm_inb_ok rfl), trivial, trivial⟩ ?_
  rw [show M 68 8 = nI (K.length) from hk.1]
  refine lm_G_sg 1 (pc' := 53) (L' := [some (.ref 64), some (.int (encM x)), some (.int 8), some (.ref 76)]) (S' := [.int (700 + (nI (K.length))), .ref 76]) (σ' := lm_T M v G) rfl trivial ?_
  rw [show 700 + (nI (K.length)) = nI (700 + (K.length)) from nI_add 700 (K.length)]
  refine lm_G_sg 2 (pc' := 55) (L' := [some (.ref 64), some (.int (encM x)), some (.int 8), some (.ref 76)]) (S' := []) (σ' := lm_T (lm_wr M 76 ((nI (700 + (K.length))).toNatClampNeg) (encM x)) v G) rfl ⟨(vp_in_nI (by omega) (by omega)), trivial, trivial⟩ ?_
  rw [show (nI (700 + (K.length))).toNatClampNeg = (700 + (K.length)) from nI_clamp (by omega)]
  refine lm_G_sg 5 (pc' := 62) (L' := [some (.ref 64), some (.int (encM x)), some (.int 8), some (.ref 76)]) (S' := [.int (M 68 8), .int 8, .ref 68]) (σ' := lm_T (lm_wr M 76 (700 + (K.length)) (encM x)) v G) rfl ⟨(lm_inb_ok rfl), trivial, trivial⟩ ?_
  rw [show M 68 8 = nI (K.length) from hk.1]
  refine lm_G_sg 2 (pc' := 64) (L' := [some (.ref 64), some (.int (encM x)), some (.int 8), some (.ref 76)]) (S' := [.int ((nI (K.length)) + 1), .int 8, .ref 68]) (σ' := lm_T (lm_wr M 76 (700 + (K.length)) (encM x)) v G) rfl trivial ?_
  rw [show (nI (K.length)) + 1 = nI ((K.length) + 1) from nI_add (K.length) 1]
  refine lm_G_sg 1 (pc' := 65) (L' := [some (.ref 64), some (.int (encM x)), some (.int 8), some (.ref 76)]) (S' := []) (σ' := lm_T (lm_wr (lm_wr M 76 (700 + (K.length)) (encM x)) 68 8 (nI ((K.length) + 1))) v G) rfl ⟨(lm_inb_ok rfl), trivial, trivial⟩ ?_
  exact lm_G_re rfl trivial (Nat.zero_le _) (Nat.zero_le _) (hQ _ (MC_add (J := false) hk rfl) (FrJ_add (J := false) (by omega)) rfl rfl)
set_option maxRecDepth 10000 in
theorem m_lay_true {X : lm_X} {d v : Nat} {M : Nat → Nat → Int32} {G : Nat → Nat → Int64} {Q : lm_O → lm_S → Prop} {K : Cd} {x : Nat × Nat} (hg : M 64 25 = 0) (h28 : M 64 28 = 1) (hk : MCode M true K) (hl : K.length < 700) (hQ : ∀ M1, MCode M1 true (K ++ [x]) → FrJ true M M1 → M1 64 = M 64 → M1 80 = M 80 → Q (.inl none) (lm_T M1 v G)) : lm_Q X d 161 [.ref 64, .int (encM x)] (lm_T M v G) Q := by
  show lm_G X d 161 106 0 0 0 [some (.ref 64), some (.int (encM x)), none, none] [] (lm_T M v G) Q
  refine lm_G_sg 2 (pc' := 4) (L' := [some (.ref 64), some (.int (encM x)), none, none]) (S' := [.int (M 64 25)]) (σ' := lm_T M v G) rfl trivial ?_
  rw [show M 64 25 = 0 from hg]
  refine lm_G_br (b := 0 = 0) (t := 8) (S' := []) rfl (fun hc => ?_) (fun hc => absurd rfl hc)
  refine lm_G_sg 3 (pc' := 13) (L' := [some (.ref 64), some (.int (encM x)), none, none]) (S' := [.int (M 64 28), .int 5]) (σ' := lm_T M v G) rfl trivial ?_
  rw [show M 64 28 = 1 from h28]
  refine lm_G_br (b := 1 = 0) (t := 20) (S' := [.int 5]) rfl (fun hc => absurd hc (by decide)) (fun hc => ?_)
  refine lm_G_sg 3 (pc' := 22) (L' := [some (.ref 64), some (.int (encM x)), none, none]) (S' := [.int (5 + 4)]) (σ' := lm_T M v G) rfl trivial ?_
  rw [show (5 : Int32) + 4 = 9 from by decide]
  refine lm_G_sg 3 (pc' := 27) (L' := [some (.ref 64), some (.int (encM x)), some (.int 9), none]) (S' := [.int (M 64 28)]) (σ' := lm_T M v G) rfl trivial ?_
  rw [show M 64 28 = 1 from h28]
  refine lm_G_br (b := 1 = 0) (t := 37) (S' := []) rfl (fun hc => absurd hc (by decide)) (fun hc => ?_)
  refine lm_G_sg 10 (pc' := 52) (L' := [some (.ref 64), some (.int (encM x)), some (.int 9), some (.ref 77)]) (S' := [.int (M 68 9), .int 700, .ref 77]) (σ' := lm_T M v G) rfl ⟨(lm_inb_ok rfl), trivial, trivial⟩ ?_
  rw [show M 68 9 = nI (K.length) from hk.1]
  refine lm_G_sg 1 (pc' := 53) (L' := [some (.ref 64), some (.int (encM x)), some (.int 9), some (.ref 77)]) (S' := [.int (700 + (nI (K.length))), .ref 77]) (σ' := lm_T M v G) rfl trivial ?_
  rw [show 700 + (nI (K.length)) = nI (700 + (K.length)) from nI_add 700 (K.length)]
  refine lm_G_sg 2 (pc' := 55) (L' := [some (.ref 64), some (.int (encM x)), some (.int 9), some (.ref 77)]) (S' := []) (σ' := lm_T (lm_wr M 77 ((nI (700 + (K.length))).toNatClampNeg) (encM x)) v G) rfl ⟨(vp_in_nI (by omega) (by omega)), trivial, trivial⟩ ?_
  rw [show (nI (700 + (K.length))).toNatClampNeg = (700 + (K.length)) from nI_clamp (by omega)]
  refine lm_G_sg 5 (pc' := 62) (L' := [some (.ref 64), some (.int (encM x)), some (.int 9), some (.ref 77)]) (S' := [.int (M 68 9), .int 9, .ref 68]) (σ' := lm_T (lm_wr M 77 (700 + (K.length)) (encM x)) v G) rfl ⟨(lm_inb_ok rfl), trivial, trivial⟩ ?_
  rw [show M 68 9 = nI (K.length) from hk.1]
  refine lm_G_sg 2 (pc' := 64) (L' := [some (.ref 64), some (.int (encM x)), some (.int 9), some (.ref 77)]) (S' := [.int ((nI (K.length)) + 1), .int 9, .ref 68]) (σ' := lm_T (lm_wr M 77 (700 + (K.length)) (encM x)) v G) rfl trivial ?_
  rw [show (nI (K.length)) + 1 = nI ((K.length) + 1) from nI_add (K.length) 1]
  refine lm_G_sg 1 (pc' := 65) (L' := [some (.ref 64), some (.int (encM x)), some (.int 9), some (.ref 77)]) (S' := []) (σ' := lm_T (lm_wr (lm_wr M 77 (700 + (K.length)) (encM x)) 68 9 (nI ((K.length) + 1))) v G) rfl ⟨(lm_inb_ok rfl), trivial, trivial⟩ ?_
  exact lm_G_re rfl trivial (Nat.zero_le _) (Nat.zero_le _) (hQ _ (MC_add (J := true) hk rfl) (FrJ_add (J := true) (by omega)) rfl rfl)
theorem m_lay {X : lm_X} {d v : Nat} {M : Nat → Nat → Int32} {G : Nat → Nat → Int64} {Q : lm_O → lm_S → Prop} {T : Tx} {p : Nat} {J : Bool} {K : Cd} {x : Nat × Nat} (hg : GM M T p) (h28 : M 64 28 = b2i J) (hk : MCode M J K) (hl : K.length < 700) (hQ : ∀ M1, GM M1 T p → MCode M1 J (K ++ [x]) → FrJ J M M1 → Q (.inl none) (lm_T M1 v G)) : lm_Q X d 161 [.ref 64, .int (encM x)] (lm_T M v G) Q := by
  cases J
  · exact m_lay_false hg.2 h28 hk hl (fun M1 a b c e => hQ M1 (GM_J (J := false) hg c e) a b)
  · exact m_lay_true hg.2 h28 hk hl (fun M1 a b c e => hQ M1 (GM_J (J := true) hg c e) a b)
set_option maxRecDepth 10000 in
theorem m_layB {X : lm_X} {d v : Nat} {M : Nat → Nat → Int32} {G : Nat → Nat → Int64} {Q : lm_O → lm_S → Prop} {x : Int32} (hb : ¬ M 64 25 = 0) (hQ : Q (.inl none) (lm_T M v G)) : lm_Q X d 161 [.ref 64, .int x] (lm_T M v G) Q := by
  show lm_G X d 161 106 0 0 0 [some (.ref 64), some (.int x), none, none] [] (lm_T M v G) Q
  refine lm_G_sg 2 (pc' := 4) (L' := [some (.ref 64), some (.int x), none, none]) (S' := [.int (M 64 25)]) (σ' := lm_T M v G) rfl trivial ?_
  refine lm_G_br (b := (M 64 25) = 0) (t := 8) (S' := []) rfl (fun hc => absurd hc hb) (fun hc => ?_)
  exact lm_G_re rfl trivial (Nat.zero_le _) (Nat.zero_le _) hQ
theorem m_numNow {X : lm_X} {d v : Nat} {M : Nat → Nat → Int32} {G : Nat → Nat → Int64} {Q : lm_O → lm_S → Prop} {T : Tx} {p lo hi : Nat} (hT : okT T) (hp : p ≤ tN T) (hg : GM M T p) (hlo : lo ≤ 9999) (hhi : hi ≤ 9999) (h1 : ∀ x, rdN T p lo hi = .inl x → Q (.inl (some (.int (nI x)))) (lm_T M v G)) (h2 : ∀ f, rdN T p lo hi = .inr f → ∀ M1, BM M1 f (stS' T p) → FrP M M1 → Q (.inl (some (.int 0))) (lm_T M1 v G)) : lm_Q X (d + 1) 159 [.ref 64, .int (nI lo), .int (nI hi)] (lm_T M v G) Q := by
  refine m_numberNow hT hp hg hlo hhi ?_
  cases er : rdN T p lo hi with
  | inl x => exact h1 x er
  | inr f => exact h2 f er
theorem rdN_nz {T : Tx} {p lo hi f : Nat} (h : rdN T p lo hi = .inr f) : f = 1 ∨ f = 2 := by
  unfold rdN at h
  split at h
  · split at h
    · cases h
    · cases h; exact Or.inr rfl
  · cases h; exact Or.inl rfl
set_option maxRecDepth 10000 in
theorem m_readNumber {X : lm_X} {d v : Nat} {M : Nat → Nat → Int32} {G : Nat → Nat → Int64} {Q : lm_O → lm_S → Prop} {T : Tx} {p lo hi : Nat} (hT : okT T) (hp : p ≤ tN T) (hg : GM M T p) (hlo : lo ≤ 9999) (hhi : hi ≤ 9999) (hQ : (∀ x, rdN T p lo hi = .inl x → ∀ M1, GM M1 T (enS T p) → FrK M M1 → Q (.inl (some (.int (nI x)))) (lm_T M1 v G)) ∧ (∀ f, rdN T p lo hi = .inr f → ∀ M1, BM M1 f (stS' T p) → ¬ M1 64 25 = 0 → FrP M M1 → Q (.inl (some (.int 0))) (lm_T M1 v G))) : lm_Q X (d + 2) 160 [.ref 64, .int (nI lo), .int (nI hi)] (lm_T M v G) Q := by
  show lm_G X (d + 2) 160 106 0 0 0 [some (.ref 64), some (.int (nI lo)), some (.int (nI hi)), none] [] (lm_T M v G) Q
  obtain ⟨el1, el2, el3⟩ := en_le hp
  refine lm_G_sg 3 (pc' := 3) (L' := [some (.ref 64), some (.int (nI lo)), some (.int (nI hi)), none]) (S' := [.int (nI hi), .int (nI lo), .ref 64]) (σ' := lm_T M v G) rfl trivial ?_
  refine lm_G_ca (j := 159) (as := [.ref 64, .int (nI lo), .int (nI hi)]) (rest := []) rfl (Or.inl rfl) (Nat.le_of_ble_eq_true rfl) (Nat.le_of_ble_eq_true rfl) (Nat.le_of_ble_eq_true rfl) (Nat.le_of_ble_eq_true rfl) rfl ?_
  refine m_numNow hT hp hg hlo hhi (fun x er => ?_) (fun f er M1 b1 f1 => ?_)
  ·
    show lm_G X (d + 2) 160 106 0 0 6 [some (.ref 64), some (.int (nI lo)), some (.int (nI hi)), none] [.int (nI x)] (lm_T M v G) Q
    refine lm_G_sg 3 (pc' := 11) (L' := [some (.ref 64), some (.int (nI lo)), some (.int (nI hi)), some (.int (nI x))]) (S' := [.int (M 64 25)]) (σ' := lm_T M v G) rfl trivial ?_
    rw [show M 64 25 = 0 from hg.2]
    refine lm_G_br (b := ¬ 0 = 0) (t := 18) (S' := []) rfl (fun hc => absurd rfl hc) (fun hc => ?_)
    refine lm_G_sg 1 (pc' := 15) (L' := [some (.ref 64), some (.int (nI lo)), some (.int (nI hi)), some (.int (nI x))]) (S' := [.ref 64]) (σ' := lm_T M v G) rfl trivial ?_
    refine lm_G_ca (j := 153) (as := [.ref 64]) (rest := []) rfl (Or.inl rfl) (Nat.le_of_ble_eq_true rfl) (Nat.le_of_ble_eq_true rfl) (Nat.le_of_ble_eq_true rfl) (Nat.le_of_ble_eq_true rfl) rfl ?_
    refine m_stepOn (p := enS T p) hT hg.1.1 el2 hg.1.2.2.2.2.1 (fun M1 r1 k1 => ?_)
    show lm_G X (d + 2) 160 106 0 0 18 [some (.ref 64), some (.int (nI lo)), some (.int (nI hi)), some (.int (nI x))] [] (lm_T M1 v G) Q
    refine lm_G_sg 1 (pc' := 19) (L' := [some (.ref 64), some (.int (nI lo)), some (.int (nI hi)), some (.int (nI x))]) (S' := [.int (nI x)]) (σ' := lm_T M1 v G) rfl trivial ?_
    exact lm_G_re rfl trivial (Nat.zero_le _) (Nat.zero_le _) (hQ.1 x er _ ⟨r1, (k1.2 25 (by decide) (by decide) (by decide) (by decide) (by decide)).trans hg.2⟩ k1)
  ·
    show lm_G X (d + 2) 160 106 0 0 6 [some (.ref 64), some (.int (nI lo)), some (.int (nI hi)), none] [.int 0] (lm_T M1 v G) Q
    have fz : ¬ M1 64 25 = 0 := by
      have := rdN_nz er
      rw [b1.1]
      rcases this with e | e <;> rw [e] <;> decide
    refine lm_G_sg 3 (pc' := 11) (L' := [some (.ref 64), some (.int (nI lo)), some (.int (nI hi)), some (.int 0)]) (S' := [.int (M1 64 25)]) (σ' := lm_T M1 v G) rfl trivial ?_
    refine lm_G_br (b := ¬ (M1 64 25) = 0) (t := 18) (S' := []) rfl (fun hc => ?_) (fun hc => absurd (Classical.not_not.mp hc) fz)
    refine lm_G_sg 1 (pc' := 19) (L' := [some (.ref 64), some (.int (nI lo)), some (.int (nI hi)), some (.int 0)]) (S' := [.int 0]) (σ' := lm_T M1 v G) rfl trivial ?_
    exact lm_G_re rfl trivial (Nat.zero_le _) (Nat.zero_le _) (hQ.2 f er _ b1 fz f1)
set_option maxRecDepth 10000 in
theorem m_readNumberB {X : lm_X} {d v : Nat} {M : Nat → Nat → Int32} {G : Nat → Nat → Int64} {Q : lm_O → lm_S → Prop} {lo hi : Nat} (hb : ¬ M 64 25 = 0) (hQ : Q (.inl (some (.int 0))) (lm_T M v G)) : lm_Q X (d + 2) 160 [.ref 64, .int (nI lo), .int (nI hi)] (lm_T M v G) Q := by
  show lm_G X (d + 2) 160 106 0 0 0 [some (.ref 64), some (.int (nI lo)), some (.int (nI hi)), none] [] (lm_T M v G) Q
  refine lm_G_sg 3 (pc' := 3) (L' := [some (.ref 64), some (.int (nI lo)), some (.int (nI hi)), none]) (S' := [.int (nI hi), .int (nI lo), .ref 64]) (σ' := lm_T M v G) rfl trivial ?_
  refine lm_G_ca (j := 159) (as := [.ref 64, .int (nI lo), .int (nI hi)]) (rest := []) rfl (Or.inl rfl) (Nat.le_of_ble_eq_true rfl) (Nat.le_of_ble_eq_true rfl) (Nat.le_of_ble_eq_true rfl) (Nat.le_of_ble_eq_true rfl) rfl ?_
  refine m_numberNowB hb ?_
  show lm_G X (d + 2) 160 106 0 0 6 [some (.ref 64), some (.int (nI lo)), some (.int (nI hi)), none] [.int 0] (lm_T M v G) Q
  refine lm_G_sg 3 (pc' := 11) (L' := [some (.ref 64), some (.int (nI lo)), some (.int (nI hi)), some (.int 0)]) (S' := [.int (M 64 25)]) (σ' := lm_T M v G) rfl trivial ?_
  refine lm_G_br (b := ¬ (M 64 25) = 0) (t := 18) (S' := []) rfl (fun hc => ?_) (fun hc => absurd (Classical.not_not.mp hc) hb)
  refine lm_G_sg 1 (pc' := 19) (L' := [some (.ref 64), some (.int (nI lo)), some (.int (nI hi)), some (.int 0)]) (S' := [.int 0]) (σ' := lm_T M v G) rfl trivial ?_
  exact lm_G_re rfl trivial (Nat.zero_le _) (Nat.zero_le _) hQ
