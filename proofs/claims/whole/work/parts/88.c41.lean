/-! ===== contracts: the model reads lines ===== -/
/-- the contract of a line's method: D told so far -/
def ML (X : lm_X) (T : Tx) (d j : Nat) (as : List Value) (D : Dr) (spec : Nat → LR) : Prop := ∀ (v : Nat) (M : Nat → Nat → Int32) (G : Nat → Nat → Int64) (Q : lm_O → lm_S → Prop) (p : Nat), GM M T p → p ≤ tN T → knS T p ≠ 0 → DM M D → okD D → (∀ r D', spec p = .inl (r, D') → ∀ M1 v1, GM M1 T r → DM M1 D' → FrP M M1 → Q (.inl none) (lm_T M1 v1 G)) → (∀ e a, spec p = .inr (e, a) → ∀ M1 v1, BM M1 e a → ¬ M1 64 25 = 0 → FrP M M1 → Q (.inl none) (lm_T M1 v1 G)) → lm_Q X d j as (lm_T M v G) Q
theorem GM_w {M : Nat → Fn} {T : Tx} {p : Nat} (h : GM M T p) {a j : Nat} {x : Int32} (h1 : a ≠ 64) (h2 : a ≠ 80) : GM (lm_wr M a j x) T p := by
  unfold GM RN RDm
  rw [wr_row (fun e => h1 e.symm), wr_row (fun e => h2 e.symm)]
  exact h
set_option maxRecDepth 10000 in
theorem m_another0 {X : lm_X} {d v : Nat} {M : Nat → Nat → Int32} {G : Nat → Nat → Int64} {Q : lm_O → lm_S → Prop} {T : Tx} {p n : Nat} (hT : okT T) (hp : p ≤ tN T) (hg : GM M T p) (hn8 : n ≤ 8) (h5 : M 68 5 = nI n) (hQ : (¬ n = 8 → ∀ M1, GM M1 T (enS T p) → FrK M M1 → Q (.inl (some (.int 1))) (lm_T M1 v G)) ∧ (n = 8 → ∀ M1, BM M1 2 (stS' T p) → ¬ M1 64 25 = 0 → FrP M M1 → Q (.inl (some (.int 0))) (lm_T M1 v G))) : lm_Q X (d + 2) 168 [.ref 64, .int 0, .int 8] (lm_T M v G) Q := by
  show lm_G X (d + 2) 168 106 0 0 0 [some (.ref 64), some (.int 0), some (.int 8)] [] (lm_T M v G) Q
  obtain ⟨el1, el2, el3⟩ := en_le hp
  refine lm_G_sg 5 (pc' := 7) (L' := [some (.ref 64), some (.int 0), some (.int 8)]) (S' := [.int (5 + 0), .ref 68]) (σ' := lm_T M v G) rfl trivial ?_
  rw [show (5 : Int32) + 0 = 5 from by decide]
  refine lm_G_sg 1 (pc' := 8) (L' := [some (.ref 64), some (.int 0), some (.int 8)]) (S' := [.int (M 68 5)]) (σ' := lm_T M v G) rfl ⟨(lm_inb_ok rfl), trivial, trivial⟩ ?_
  rw [show M 68 5 = nI n from h5]
  refine lm_G_sg 1 (pc' := 9) (L' := [some (.ref 64), some (.int 0), some (.int 8)]) (S' := [.int 8, .int (nI n)]) (σ' := lm_T M v G) rfl trivial ?_
  refine lm_G_br (b := ¬ (nI n) = 8) (t := 17) (S' := []) rfl (fun g0 => ?_) (fun g0 => ?_)
  rotate_left
  ·
    have e8 : n = 8 := (nI_eq (b := 8) (by omega) (by omega)).mp (Classical.not_not.mp g0)
    refine lm_G_sg 2 (pc' := 14) (L' := [some (.ref 64), some (.int 0), some (.int 8)]) (S' := [.int 2, .ref 64]) (σ' := lm_T M v G) rfl trivial ?_
    refine lm_G_ca (j := 154) (as := [.ref 64, .int 2]) (rest := []) rfl (Or.inl rfl) (Nat.le_of_ble_eq_true rfl) (Nat.le_of_ble_eq_true rfl) (Nat.le_of_ble_eq_true rfl) (Nat.le_of_ble_eq_true rfl) rfl ?_
    refine m_wrong hg.2 ?_
    show lm_G X (d + 2) 168 106 0 0 17 [some (.ref 64), some (.int 0), some (.int 8)] [] (lm_T (lm_wr (lm_wr M 64 25 2) 64 26 (M 64 23)) v G) Q
    have z1 : ¬ (lm_wr (lm_wr M 64 25 2) 64 26 (M 64 23)) 64 25 = 0 := wr_nz (by decide)
    refine lm_G_sg 2 (pc' := 21) (L' := [some (.ref 64), some (.int 0), some (.int 8)]) (S' := [.int 2]) (σ' := lm_T (lm_wr (lm_wr M 64 25 2) 64 26 (M 64 23)) v G) rfl trivial ?_
    refine lm_G_br (b := 2 = 0) (t := 26) (S' := []) rfl (fun hc => absurd hc z1) (fun hc => ?_)
    refine lm_G_sg 1 (pc' := 25) (L' := [some (.ref 64), some (.int 0), some (.int 8)]) (S' := [.int 0]) (σ' := lm_T (lm_wr (lm_wr M 64 25 2) 64 26 (M 64 23)) v G) rfl trivial ?_
    exact lm_G_re rfl (by decide) (Nat.zero_le _) (Nat.zero_le _) (hQ.2 e8 _ ⟨rfl, hg.1.2.2.1⟩ z1 (FrP_w64 (FrP_w64 (FrP_rf _) (by decide)) (by decide)))
  ·
    have e8 : ¬ n = 8 := fun w => g0 (by rw [w]; rfl)
    refine lm_G_sg 2 (pc' := 21) (L' := [some (.ref 64), some (.int 0), some (.int 8)]) (S' := [.int (M 64 25)]) (σ' := lm_T M v G) rfl trivial ?_
    rw [show M 64 25 = 0 from hg.2]
    refine lm_G_br (b := 0 = 0) (t := 26) (S' := []) rfl (fun hc => ?_) (fun hc => absurd rfl hc)
    refine lm_G_sg 1 (pc' := 27) (L' := [some (.ref 64), some (.int 0), some (.int 8)]) (S' := [.ref 64]) (σ' := lm_T M v G) rfl trivial ?_
    refine lm_G_ca (j := 153) (as := [.ref 64]) (rest := []) rfl (Or.inl rfl) (Nat.le_of_ble_eq_true rfl) (Nat.le_of_ble_eq_true rfl) (Nat.le_of_ble_eq_true rfl) (Nat.le_of_ble_eq_true rfl) rfl ?_
    refine m_stepOn (p := enS T p) hT hg.1.1 el2 hg.1.2.2.2.2.1 (fun M1 r1 f1 => ?_)
    show lm_G X (d + 2) 168 106 0 0 30 [some (.ref 64), some (.int 0), some (.int 8)] [] (lm_T M1 v G) Q
    refine lm_G_sg 1 (pc' := 31) (L' := [some (.ref 64), some (.int 0), some (.int 8)]) (S' := [.int 1]) (σ' := lm_T M1 v G) rfl trivial ?_
    exact lm_G_re rfl (by decide) (Nat.zero_le _) (Nat.zero_le _) (hQ.1 e8 _ ⟨r1, (f1.2 25 (by decide) (by decide) (by decide) (by decide) (by decide)).trans hg.2⟩ f1)
set_option maxRecDepth 10000 in
theorem m_another1 {X : lm_X} {d v : Nat} {M : Nat → Nat → Int32} {G : Nat → Nat → Int64} {Q : lm_O → lm_S → Prop} {T : Tx} {p n : Nat} (hT : okT T) (hp : p ≤ tN T) (hg : GM M T p) (hn8 : n ≤ 8) (h5 : M 68 6 = nI n) (hQ : (¬ n = 6 → ∀ M1, GM M1 T (enS T p) → FrK M M1 → Q (.inl (some (.int 1))) (lm_T M1 v G)) ∧ (n = 6 → ∀ M1, BM M1 2 (stS' T p) → ¬ M1 64 25 = 0 → FrP M M1 → Q (.inl (some (.int 0))) (lm_T M1 v G))) : lm_Q X (d + 2) 168 [.ref 64, .int 1, .int 6] (lm_T M v G) Q := by
  show lm_G X (d + 2) 168 106 0 0 0 [some (.ref 64), some (.int 1), some (.int 6)] [] (lm_T M v G) Q
  obtain ⟨el1, el2, el3⟩ := en_le hp
  refine lm_G_sg 5 (pc' := 7) (L' := [some (.ref 64), some (.int 1), some (.int 6)]) (S' := [.int (5 + 1), .ref 68]) (σ' := lm_T M v G) rfl trivial ?_
  rw [show (5 : Int32) + 1 = 6 from by decide]
  refine lm_G_sg 1 (pc' := 8) (L' := [some (.ref 64), some (.int 1), some (.int 6)]) (S' := [.int (M 68 6)]) (σ' := lm_T M v G) rfl ⟨(lm_inb_ok rfl), trivial, trivial⟩ ?_
  rw [show M 68 6 = nI n from h5]
  refine lm_G_sg 1 (pc' := 9) (L' := [some (.ref 64), some (.int 1), some (.int 6)]) (S' := [.int 6, .int (nI n)]) (σ' := lm_T M v G) rfl trivial ?_
  refine lm_G_br (b := ¬ (nI n) = 6) (t := 17) (S' := []) rfl (fun g0 => ?_) (fun g0 => ?_)
  rotate_left
  ·
    have e8 : n = 6 := (nI_eq (b := 6) (by omega) (by omega)).mp (Classical.not_not.mp g0)
    refine lm_G_sg 2 (pc' := 14) (L' := [some (.ref 64), some (.int 1), some (.int 6)]) (S' := [.int 2, .ref 64]) (σ' := lm_T M v G) rfl trivial ?_
    refine lm_G_ca (j := 154) (as := [.ref 64, .int 2]) (rest := []) rfl (Or.inl rfl) (Nat.le_of_ble_eq_true rfl) (Nat.le_of_ble_eq_true rfl) (Nat.le_of_ble_eq_true rfl) (Nat.le_of_ble_eq_true rfl) rfl ?_
    refine m_wrong hg.2 ?_
    show lm_G X (d + 2) 168 106 0 0 17 [some (.ref 64), some (.int 1), some (.int 6)] [] (lm_T (lm_wr (lm_wr M 64 25 2) 64 26 (M 64 23)) v G) Q
    have z1 : ¬ (lm_wr (lm_wr M 64 25 2) 64 26 (M 64 23)) 64 25 = 0 := wr_nz (by decide)
    refine lm_G_sg 2 (pc' := 21) (L' := [some (.ref 64), some (.int 1), some (.int 6)]) (S' := [.int 2]) (σ' := lm_T (lm_wr (lm_wr M 64 25 2) 64 26 (M 64 23)) v G) rfl trivial ?_
    refine lm_G_br (b := 2 = 0) (t := 26) (S' := []) rfl (fun hc => absurd hc z1) (fun hc => ?_)
    refine lm_G_sg 1 (pc' := 25) (L' := [some (.ref 64), some (.int 1), some (.int 6)]) (S' := [.int 0]) (σ' := lm_T (lm_wr (lm_wr M 64 25 2) 64 26 (M 64 23)) v G) rfl trivial ?_
    exact lm_G_re rfl (by decide) (Nat.zero_le _) (Nat.zero_le _) (hQ.2 e8 _ ⟨rfl, hg.1.2.2.1⟩ z1 (FrP_w64 (FrP_w64 (FrP_rf _) (by decide)) (by decide)))
  ·
    have e8 : ¬ n = 6 := fun w => g0 (by rw [w]; rfl)
    refine lm_G_sg 2 (pc' := 21) (L' := [some (.ref 64), some (.int 1), some (.int 6)]) (S' := [.int (M 64 25)]) (σ' := lm_T M v G) rfl trivial ?_
    rw [show M 64 25 = 0 from hg.2]
    refine lm_G_br (b := 0 = 0) (t := 26) (S' := []) rfl (fun hc => ?_) (fun hc => absurd rfl hc)
    refine lm_G_sg 1 (pc' := 27) (L' := [some (.ref 64), some (.int 1), some (.int 6)]) (S' := [.ref 64]) (σ' := lm_T M v G) rfl trivial ?_
    refine lm_G_ca (j := 153) (as := [.ref 64]) (rest := []) rfl (Or.inl rfl) (Nat.le_of_ble_eq_true rfl) (Nat.le_of_ble_eq_true rfl) (Nat.le_of_ble_eq_true rfl) (Nat.le_of_ble_eq_true rfl) rfl ?_
    refine m_stepOn (p := enS T p) hT hg.1.1 el2 hg.1.2.2.2.2.1 (fun M1 r1 f1 => ?_)
    show lm_G X (d + 2) 168 106 0 0 30 [some (.ref 64), some (.int 1), some (.int 6)] [] (lm_T M1 v G) Q
    refine lm_G_sg 1 (pc' := 31) (L' := [some (.ref 64), some (.int 1), some (.int 6)]) (S' := [.int 1]) (σ' := lm_T M1 v G) rfl trivial ?_
    exact lm_G_re rfl (by decide) (Nat.zero_le _) (Nat.zero_le _) (hQ.1 e8 _ ⟨r1, (f1.2 25 (by decide) (by decide) (by decide) (by decide) (by decide)).trans hg.2⟩ f1)
set_option maxRecDepth 10000 in
theorem m_sayPerson {X : lm_X} {T : Tx} {w : Bool} {D : Dr} (hT : okT T) : ∀ d, ML X T (d + 3) 169 [.ref 64, .int (b2i w)] D (peL T w D) := by
  intro d
  intro v M G Q p hg hp h0 hd hD hok her
  show lm_G X (d + 3) 169 106 0 0 0 [some (.ref 64), some (.int (b2i w)), none] [] (lm_T M v G) Q
  have hn := hT.1
  obtain ⟨g1_, g2_, g3_, g4_, g5_⟩ := e_ge hp
  obtain ⟨l1, l2, l3, l4, l5⟩ := e_le hp
  have hgt : p < e1 T p := en_gt hp h0
  have hN := hD.1
  have hM := hD.2.1
  refine lm_G_sg 3 (pc' := 4) (L' := [some (.ref 64), some (.int (b2i w)), none]) (S' := [.int 8, .int 0, .ref 64]) (σ' := lm_T M v G) rfl trivial ?_
  refine lm_G_ca (j := 168) (as := [.ref 64, .int 0, .int 8]) (rest := []) rfl (Or.inl rfl) (Nat.le_of_ble_eq_true rfl) (Nat.le_of_ble_eq_true rfl) (Nat.le_of_ble_eq_true rfl) (Nat.le_of_ble_eq_true rfl) rfl ?_
  refine m_another0 (n := dNo D) hT hp hg (by omega) hd.1 ⟨fun e8 M1 g1 f1 => ?_, fun e8 M1 b1 z1 f1 => ?_⟩
  rotate_left
  ·
    show lm_G X (d + 3) 169 106 0 0 7 [some (.ref 64), some (.int (b2i w)), none] [.int 0] (lm_T M1 v G) Q
    refine lm_G_br (b := ¬ 0 = 0) (t := 11) (S' := []) rfl (fun hc => absurd rfl hc) (fun hc => ?_)
    exact lm_G_re rfl trivial (Nat.zero_le _) (Nat.zero_le _) (her _ _ (by unfold peL; rw [if_pos (by omega)]) _ v b1 z1 f1)
  ·
    show lm_G X (d + 3) 169 106 0 0 7 [some (.ref 64), some (.int (b2i w)), none] [.int 1] (lm_T M1 v G) Q
    have h8 : ¬ 8 ≤ dNo D := by omega
    have ep : peL T w D p = nuL T (e1 T p) 1 20 fun b => nuL T (e2 T p) 0 9 fun r => nuL T (e3 T p) 0 30 fun q => nuL T (e4 T p) 0 9 fun c => .inl (e5 T p, adP D w b r q c) := if_neg h8
    obtain ⟨n, en⟩ : ∃ q, q = dNo D := ⟨_, rfl⟩
    rw [← en] at h8 hN e8
    have h5 : M1 68 5 = nI n := by rw [FrK_row f1 (by decide), en]; exact hd.1
    refine lm_G_br (b := ¬ 1 = 0) (t := 11) (S' := []) rfl (fun hc => ?_) (fun hc => absurd (Classical.not_not.mp hc) (by decide))
    refine lm_G_sg 5 (pc' := 19) (L' := [some (.ref 64), some (.int (b2i w)), none]) (S' := [.int (M1 68 5), .int 8]) (σ' := lm_T M1 v G) rfl ⟨(lm_inb_ok rfl), trivial, trivial⟩ ?_
    rw [show M1 68 5 = nI n from h5]
    refine lm_G_sg 1 (pc' := 20) (L' := [some (.ref 64), some (.int (b2i w)), none]) (S' := [.int (8 + (nI n))]) (σ' := lm_T M1 v G) rfl trivial ?_
    rw [show 8 + (nI n) = nI (8 + n) from nI_add 8 n]
    refine lm_G_sg 6 (pc' := 28) (L' := [some (.ref 64), some (.int (b2i w)), some (.int (nI (8 + n)))]) (S' := []) (σ' := lm_T (lm_wr M1 69 ((nI (8 + n)).toNatClampNeg) (b2i w)) v G) rfl ⟨(vp_in_nI (by omega) (by omega)), trivial, trivial⟩ ?_
    rw [show (nI (8 + n)).toNatClampNeg = (8 + n) from nI_clamp (by omega)]
    have u1 : GM (lm_wr M1 69 (8 + n) (b2i w)) T (e1 T p) := GM_w g1 (by decide) (by decide)
    have v1 : FrP M (lm_wr M1 69 (8 + n) (b2i w)) := FrP_wr (FrP_K f1) (by omega)
    have w69 : (lm_wr M1 69 (8 + n) (b2i w)) 69 = upd (M 69) (8 + n) (b2i w) := by show upd (M1 69) (8 + n) (b2i w) = _; rw [FrK_row f1 (by decide)]
    have o1 : ∀ a, a ≠ 64 → a ≠ 69 → (lm_wr M1 69 (8 + n) (b2i w)) a = M a := fun a h1 h2 => by rw [wr_row h2]; exact FrK_row f1 h1
    revert u1 v1 w69 o1
    generalize lm_wr M1 69 (8 + n) (b2i w) = N1
    intro u1 v1 w69 o1
    refine lm_G_sg 6 (pc' := 37) (L' := [some (.ref 64), some (.int (b2i w)), some (.int (nI (8 + n)))]) (S' := [.int 20, .int 1, .ref 64, .int (nI (8 + n)), .ref 70]) (σ' := lm_T N1 v G) rfl trivial ?_
    refine lm_G_ca (j := 160) (as := [.ref 64, .int 1, .int 20]) (rest := [.int (nI (8 + n)), .ref 70]) rfl (Or.inl rfl) (Nat.le_of_ble_eq_true rfl) (Nat.le_of_ble_eq_true rfl) (Nat.le_of_ble_eq_true rfl) (Nat.le_of_ble_eq_true rfl) rfl ?_
    refine m_readNumber (p := e1 T p) (lo := 1) (hi := 20) hT l1 u1 (by omega) (by omega) ⟨fun x2 er2 M2 g2 f2 => ?_, fun f2_ er2 M2 b2 z2 f2 => ?_⟩
    rotate_left
    ·
      show lm_G X (d + 3) 169 106 0 0 40 [some (.ref 64), some (.int (b2i w)), some (.int (nI (8 + n)))] [.int 0, .int (nI (8 + n)), .ref 70] (lm_T M2 v G) Q
      obtain ⟨e_, he_⟩ : ∃ q, q = f2_ := ⟨_, rfl⟩
      obtain ⟨a_, ha_⟩ : ∃ q, q = stS' T (e1 T p) := ⟨_, rfl⟩
      rw [← he_, ← ha_] at b2
      refine lm_G_sg 1 (pc' := 41) (L' := [some (.ref 64), some (.int (b2i w)), some (.int (nI (8 + n)))]) (S' := []) (σ' := lm_T (lm_wr M2 70 ((nI (8 + n)).toNatClampNeg) 0) v G) rfl ⟨(vp_in_nI (by omega) (by omega)), trivial, trivial⟩ ?_
      rw [show (nI (8 + n)).toNatClampNeg = (8 + n) from nI_clamp (by omega)]
      refine lm_G_sg 6 (pc' := 50) (L' := [some (.ref 64), some (.int (b2i w)), some (.int (nI (8 + n)))]) (S' := [.int 9, .int 0, .ref 64, .int (nI (8 + n)), .ref 71]) (σ' := lm_T (lm_wr M2 70 (8 + n) 0) v G) rfl trivial ?_
      have zb0 : ¬ (lm_wr M2 70 (8 + n) 0) 64 25 = 0 := z2
      have bb0 : BM (lm_wr M2 70 (8 + n) 0) e_ a_ := b2
      have fb0 : FrP M (lm_wr M2 70 (8 + n) 0) := FrP_wr (FrP_tr v1 f2) (by omega)
      revert zb0 bb0 fb0
      generalize lm_wr M2 70 (8 + n) 0 = B0
      intro zb0 bb0 fb0
      refine lm_G_ca (j := 160) (as := [.ref 64, .int 0, .int 9]) (rest := [.int (nI (8 + n)), .ref 71]) rfl (Or.inl rfl) (Nat.le_of_ble_eq_true rfl) (Nat.le_of_ble_eq_true rfl) (Nat.le_of_ble_eq_true rfl) (Nat.le_of_ble_eq_true rfl) rfl ?_
      refine m_readNumberB (lo := 0) (hi := 9) zb0 ?_
      show lm_G X (d + 3) 169 106 0 0 53 [some (.ref 64), some (.int (b2i w)), some (.int (nI (8 + n)))] [.int 0, .int (nI (8 + n)), .ref 71] (lm_T B0 v G) Q
      refine lm_G_sg 1 (pc' := 54) (L' := [some (.ref 64), some (.int (b2i w)), some (.int (nI (8 + n)))]) (S' := []) (σ' := lm_T (lm_wr B0 71 ((nI (8 + n)).toNatClampNeg) 0) v G) rfl ⟨(vp_in_nI (by omega) (by omega)), trivial, trivial⟩ ?_
      rw [show (nI (8 + n)).toNatClampNeg = (8 + n) from nI_clamp (by omega)]
      refine lm_G_sg 6 (pc' := 63) (L' := [some (.ref 64), some (.int (b2i w)), some (.int (nI (8 + n)))]) (S' := [.int 30, .int 0, .ref 64, .int (nI (8 + n)), .ref 72]) (σ' := lm_T (lm_wr B0 71 (8 + n) 0) v G) rfl trivial ?_
      have zb1 : ¬ (lm_wr B0 71 (8 + n) 0) 64 25 = 0 := zb0
      have bb1 : BM (lm_wr B0 71 (8 + n) 0) e_ a_ := bb0
      have fb1 : FrP M (lm_wr B0 71 (8 + n) 0) := FrP_wr (fb0) (by omega)
      revert zb1 bb1 fb1
      generalize lm_wr B0 71 (8 + n) 0 = B1
      intro zb1 bb1 fb1
      refine lm_G_ca (j := 160) (as := [.ref 64, .int 0, .int 30]) (rest := [.int (nI (8 + n)), .ref 72]) rfl (Or.inl rfl) (Nat.le_of_ble_eq_true rfl) (Nat.le_of_ble_eq_true rfl) (Nat.le_of_ble_eq_true rfl) (Nat.le_of_ble_eq_true rfl) rfl ?_
      refine m_readNumberB (lo := 0) (hi := 30) zb1 ?_
      show lm_G X (d + 3) 169 106 0 0 66 [some (.ref 64), some (.int (b2i w)), some (.int (nI (8 + n)))] [.int 0, .int (nI (8 + n)), .ref 72] (lm_T B1 v G) Q
      refine lm_G_sg 1 (pc' := 67) (L' := [some (.ref 64), some (.int (b2i w)), some (.int (nI (8 + n)))]) (S' := []) (σ' := lm_T (lm_wr B1 72 ((nI (8 + n)).toNatClampNeg) 0) v G) rfl ⟨(vp_in_nI (by omega) (by omega)), trivial, trivial⟩ ?_
      rw [show (nI (8 + n)).toNatClampNeg = (8 + n) from nI_clamp (by omega)]
      refine lm_G_sg 6 (pc' := 76) (L' := [some (.ref 64), some (.int (b2i w)), some (.int (nI (8 + n)))]) (S' := [.int 9, .int 0, .ref 64, .int (nI (8 + n)), .ref 73]) (σ' := lm_T (lm_wr B1 72 (8 + n) 0) v G) rfl trivial ?_
      have zb2 : ¬ (lm_wr B1 72 (8 + n) 0) 64 25 = 0 := zb1
      have bb2 : BM (lm_wr B1 72 (8 + n) 0) e_ a_ := bb1
      have fb2 : FrP M (lm_wr B1 72 (8 + n) 0) := FrP_wr (fb1) (by omega)
      revert zb2 bb2 fb2
      generalize lm_wr B1 72 (8 + n) 0 = B2
      intro zb2 bb2 fb2
      refine lm_G_ca (j := 160) (as := [.ref 64, .int 0, .int 9]) (rest := [.int (nI (8 + n)), .ref 73]) rfl (Or.inl rfl) (Nat.le_of_ble_eq_true rfl) (Nat.le_of_ble_eq_true rfl) (Nat.le_of_ble_eq_true rfl) (Nat.le_of_ble_eq_true rfl) rfl ?_
      refine m_readNumberB (lo := 0) (hi := 9) zb2 ?_
      show lm_G X (d + 3) 169 106 0 0 79 [some (.ref 64), some (.int (b2i w)), some (.int (nI (8 + n)))] [.int 0, .int (nI (8 + n)), .ref 73] (lm_T B2 v G) Q
      refine lm_G_sg 1 (pc' := 80) (L' := [some (.ref 64), some (.int (b2i w)), some (.int (nI (8 + n)))]) (S' := []) (σ' := lm_T (lm_wr B2 73 ((nI (8 + n)).toNatClampNeg) 0) v G) rfl ⟨(vp_in_nI (by omega) (by omega)), trivial, trivial⟩ ?_
      rw [show (nI (8 + n)).toNatClampNeg = (8 + n) from nI_clamp (by omega)]
      refine lm_G_sg 8 (pc' := 90) (L' := [some (.ref 64), some (.int (b2i w)), some (.int (nI (8 + n)))]) (S' := []) (σ' := lm_T (lm_wr (lm_wr B2 73 (8 + n) 0) 68 5 ((B2 68 5) + 1)) v G) rfl ⟨(lm_inb_ok rfl), trivial, (lm_inb_ok rfl), trivial, trivial⟩ ?_
      exact lm_G_re rfl trivial (Nat.zero_le _) (Nat.zero_le _) (her e_ a_ (by rw [he_, ha_]; rw [ep, nuL_f er2]) _ v (by exact bb2) (by exact zb2) (FrP_w68 (FrP_wr (fb2) (by omega)) (by omega)))
    ·
      show lm_G X (d + 3) 169 106 0 0 40 [some (.ref 64), some (.int (b2i w)), some (.int (nI (8 + n)))] [.int (nI x2), .int (nI (8 + n)), .ref 70] (lm_T M2 v G) Q
      obtain ⟨y2, y2b, _⟩ := rdN_b er2
      refine lm_G_sg 1 (pc' := 41) (L' := [some (.ref 64), some (.int (b2i w)), some (.int (nI (8 + n)))]) (S' := []) (σ' := lm_T (lm_wr M2 70 ((nI (8 + n)).toNatClampNeg) (nI x2)) v G) rfl ⟨(vp_in_nI (by omega) (by omega)), trivial, trivial⟩ ?_
      rw [show (nI (8 + n)).toNatClampNeg = (8 + n) from nI_clamp (by omega)]
      have u2 : GM (lm_wr M2 70 (8 + n) (nI x2)) T (e2 T p) := GM_w g2 (by decide) (by decide)
      have v2 : FrP M (lm_wr M2 70 (8 + n) (nI x2)) := FrP_wr (FrP_tr v1 (FrP_K f2)) (by omega)
      have w70 : (lm_wr M2 70 (8 + n) (nI x2)) 70 = upd (M 70) (8 + n) (nI x2) := by show upd (M2 70) (8 + n) (nI x2) = _; rw [FrK_row f2 (by decide), o1 70 (by decide) (by decide)]
      have k2_69 : (lm_wr M2 70 (8 + n) (nI x2)) 69 = N1 69 := (wr_row (by decide)).trans (FrK_row f2 (by decide))
      have o2 : ∀ a, a ≠ 64 → a ≠ 69 → a ≠ 70 → (lm_wr M2 70 (8 + n) (nI x2)) a = M a := fun a h1 h69 h70 => by rw [wr_row h70]; exact (FrK_row f2 h1).trans (o1 a h1 h69)
      revert u2 v2 w70 k2_69 o2
      generalize lm_wr M2 70 (8 + n) (nI x2) = N2
      intro u2 v2 w70 k2_69 o2
      refine lm_G_sg 6 (pc' := 50) (L' := [some (.ref 64), some (.int (b2i w)), some (.int (nI (8 + n)))]) (S' := [.int 9, .int 0, .ref 64, .int (nI (8 + n)), .ref 71]) (σ' := lm_T N2 v G) rfl trivial ?_
      refine lm_G_ca (j := 160) (as := [.ref 64, .int 0, .int 9]) (rest := [.int (nI (8 + n)), .ref 71]) rfl (Or.inl rfl) (Nat.le_of_ble_eq_true rfl) (Nat.le_of_ble_eq_true rfl) (Nat.le_of_ble_eq_true rfl) (Nat.le_of_ble_eq_true rfl) rfl ?_
      refine m_readNumber (p := e2 T p) (lo := 0) (hi := 9) hT l2 u2 (by omega) (by omega) ⟨fun x3 er3 M3 g3 f3 => ?_, fun f3_ er3 M3 b3 z3 f3 => ?_⟩
      rotate_left
      ·
        show lm_G X (d + 3) 169 106 0 0 53 [some (.ref 64), some (.int (b2i w)), some (.int (nI (8 + n)))] [.int 0, .int (nI (8 + n)), .ref 71] (lm_T M3 v G) Q
        obtain ⟨e_, he_⟩ : ∃ q, q = f3_ := ⟨_, rfl⟩
        obtain ⟨a_, ha_⟩ : ∃ q, q = stS' T (e2 T p) := ⟨_, rfl⟩
        rw [← he_, ← ha_] at b3
        refine lm_G_sg 1 (pc' := 54) (L' := [some (.ref 64), some (.int (b2i w)), some (.int (nI (8 + n)))]) (S' := []) (σ' := lm_T (lm_wr M3 71 ((nI (8 + n)).toNatClampNeg) 0) v G) rfl ⟨(vp_in_nI (by omega) (by omega)), trivial, trivial⟩ ?_
        rw [show (nI (8 + n)).toNatClampNeg = (8 + n) from nI_clamp (by omega)]
        refine lm_G_sg 6 (pc' := 63) (L' := [some (.ref 64), some (.int (b2i w)), some (.int (nI (8 + n)))]) (S' := [.int 30, .int 0, .ref 64, .int (nI (8 + n)), .ref 72]) (σ' := lm_T (lm_wr M3 71 (8 + n) 0) v G) rfl trivial ?_
        have zb1 : ¬ (lm_wr M3 71 (8 + n) 0) 64 25 = 0 := z3
        have bb1 : BM (lm_wr M3 71 (8 + n) 0) e_ a_ := b3
        have fb1 : FrP M (lm_wr M3 71 (8 + n) 0) := FrP_wr (FrP_tr v2 f3) (by omega)
        revert zb1 bb1 fb1
        generalize lm_wr M3 71 (8 + n) 0 = B1
        intro zb1 bb1 fb1
        refine lm_G_ca (j := 160) (as := [.ref 64, .int 0, .int 30]) (rest := [.int (nI (8 + n)), .ref 72]) rfl (Or.inl rfl) (Nat.le_of_ble_eq_true rfl) (Nat.le_of_ble_eq_true rfl) (Nat.le_of_ble_eq_true rfl) (Nat.le_of_ble_eq_true rfl) rfl ?_
        refine m_readNumberB (lo := 0) (hi := 30) zb1 ?_
        show lm_G X (d + 3) 169 106 0 0 66 [some (.ref 64), some (.int (b2i w)), some (.int (nI (8 + n)))] [.int 0, .int (nI (8 + n)), .ref 72] (lm_T B1 v G) Q
        refine lm_G_sg 1 (pc' := 67) (L' := [some (.ref 64), some (.int (b2i w)), some (.int (nI (8 + n)))]) (S' := []) (σ' := lm_T (lm_wr B1 72 ((nI (8 + n)).toNatClampNeg) 0) v G) rfl ⟨(vp_in_nI (by omega) (by omega)), trivial, trivial⟩ ?_
        rw [show (nI (8 + n)).toNatClampNeg = (8 + n) from nI_clamp (by omega)]
        refine lm_G_sg 6 (pc' := 76) (L' := [some (.ref 64), some (.int (b2i w)), some (.int (nI (8 + n)))]) (S' := [.int 9, .int 0, .ref 64, .int (nI (8 + n)), .ref 73]) (σ' := lm_T (lm_wr B1 72 (8 + n) 0) v G) rfl trivial ?_
        have zb2 : ¬ (lm_wr B1 72 (8 + n) 0) 64 25 = 0 := zb1
        have bb2 : BM (lm_wr B1 72 (8 + n) 0) e_ a_ := bb1
        have fb2 : FrP M (lm_wr B1 72 (8 + n) 0) := FrP_wr (fb1) (by omega)
        revert zb2 bb2 fb2
        generalize lm_wr B1 72 (8 + n) 0 = B2
        intro zb2 bb2 fb2
        refine lm_G_ca (j := 160) (as := [.ref 64, .int 0, .int 9]) (rest := [.int (nI (8 + n)), .ref 73]) rfl (Or.inl rfl) (Nat.le_of_ble_eq_true rfl) (Nat.le_of_ble_eq_true rfl) (Nat.le_of_ble_eq_true rfl) (Nat.le_of_ble_eq_true rfl) rfl ?_
        refine m_readNumberB (lo := 0) (hi := 9) zb2 ?_
        show lm_G X (d + 3) 169 106 0 0 79 [some (.ref 64), some (.int (b2i w)), some (.int (nI (8 + n)))] [.int 0, .int (nI (8 + n)), .ref 73] (lm_T B2 v G) Q
        refine lm_G_sg 1 (pc' := 80) (L' := [some (.ref 64), some (.int (b2i w)), some (.int (nI (8 + n)))]) (S' := []) (σ' := lm_T (lm_wr B2 73 ((nI (8 + n)).toNatClampNeg) 0) v G) rfl ⟨(vp_in_nI (by omega) (by omega)), trivial, trivial⟩ ?_
        rw [show (nI (8 + n)).toNatClampNeg = (8 + n) from nI_clamp (by omega)]
        refine lm_G_sg 8 (pc' := 90) (L' := [some (.ref 64), some (.int (b2i w)), some (.int (nI (8 + n)))]) (S' := []) (σ' := lm_T (lm_wr (lm_wr B2 73 (8 + n) 0) 68 5 ((B2 68 5) + 1)) v G) rfl ⟨(lm_inb_ok rfl), trivial, (lm_inb_ok rfl), trivial, trivial⟩ ?_
        exact lm_G_re rfl trivial (Nat.zero_le _) (Nat.zero_le _) (her e_ a_ (by rw [he_, ha_]; rw [ep, nuL_x er2, nuL_f er3]) _ v (by exact bb2) (by exact zb2) (FrP_w68 (FrP_wr (fb2) (by omega)) (by omega)))
      ·
        show lm_G X (d + 3) 169 106 0 0 53 [some (.ref 64), some (.int (b2i w)), some (.int (nI (8 + n)))] [.int (nI x3), .int (nI (8 + n)), .ref 71] (lm_T M3 v G) Q
        obtain ⟨y3, y3b, _⟩ := rdN_b er3
        refine lm_G_sg 1 (pc' := 54) (L' := [some (.ref 64), some (.int (b2i w)), some (.int (nI (8 + n)))]) (S' := []) (σ' := lm_T (lm_wr M3 71 ((nI (8 + n)).toNatClampNeg) (nI x3)) v G) rfl ⟨(vp_in_nI (by omega) (by omega)), trivial, trivial⟩ ?_
        rw [show (nI (8 + n)).toNatClampNeg = (8 + n) from nI_clamp (by omega)]
        have u3 : GM (lm_wr M3 71 (8 + n) (nI x3)) T (e3 T p) := GM_w g3 (by decide) (by decide)
        have v3 : FrP M (lm_wr M3 71 (8 + n) (nI x3)) := FrP_wr (FrP_tr v2 (FrP_K f3)) (by omega)
        have w71 : (lm_wr M3 71 (8 + n) (nI x3)) 71 = upd (M 71) (8 + n) (nI x3) := by show upd (M3 71) (8 + n) (nI x3) = _; rw [FrK_row f3 (by decide), o2 71 (by decide) (by decide) (by decide)]
        have k3_69 : (lm_wr M3 71 (8 + n) (nI x3)) 69 = N2 69 := (wr_row (by decide)).trans (FrK_row f3 (by decide))
        have k3_70 : (lm_wr M3 71 (8 + n) (nI x3)) 70 = N2 70 := (wr_row (by decide)).trans (FrK_row f3 (by decide))
        have o3 : ∀ a, a ≠ 64 → a ≠ 69 → a ≠ 70 → a ≠ 71 → (lm_wr M3 71 (8 + n) (nI x3)) a = M a := fun a h1 h69 h70 h71 => by rw [wr_row h71]; exact (FrK_row f3 h1).trans (o2 a h1 h69 h70)
        revert u3 v3 w71 k3_69 k3_70 o3
        generalize lm_wr M3 71 (8 + n) (nI x3) = N3
        intro u3 v3 w71 k3_69 k3_70 o3
        refine lm_G_sg 6 (pc' := 63) (L' := [some (.ref 64), some (.int (b2i w)), some (.int (nI (8 + n)))]) (S' := [.int 30, .int 0, .ref 64, .int (nI (8 + n)), .ref 72]) (σ' := lm_T N3 v G) rfl trivial ?_
        refine lm_G_ca (j := 160) (as := [.ref 64, .int 0, .int 30]) (rest := [.int (nI (8 + n)), .ref 72]) rfl (Or.inl rfl) (Nat.le_of_ble_eq_true rfl) (Nat.le_of_ble_eq_true rfl) (Nat.le_of_ble_eq_true rfl) (Nat.le_of_ble_eq_true rfl) rfl ?_
        refine m_readNumber (p := e3 T p) (lo := 0) (hi := 30) hT l3 u3 (by omega) (by omega) ⟨fun x4 er4 M4 g4 f4 => ?_, fun f4_ er4 M4 b4 z4 f4 => ?_⟩
        rotate_left
        ·
          show lm_G X (d + 3) 169 106 0 0 66 [some (.ref 64), some (.int (b2i w)), some (.int (nI (8 + n)))] [.int 0, .int (nI (8 + n)), .ref 72] (lm_T M4 v G) Q
          obtain ⟨e_, he_⟩ : ∃ q, q = f4_ := ⟨_, rfl⟩
          obtain ⟨a_, ha_⟩ : ∃ q, q = stS' T (e3 T p) := ⟨_, rfl⟩
          rw [← he_, ← ha_] at b4
          refine lm_G_sg 1 (pc' := 67) (L' := [some (.ref 64), some (.int (b2i w)), some (.int (nI (8 + n)))]) (S' := []) (σ' := lm_T (lm_wr M4 72 ((nI (8 + n)).toNatClampNeg) 0) v G) rfl ⟨(vp_in_nI (by omega) (by omega)), trivial, trivial⟩ ?_
          rw [show (nI (8 + n)).toNatClampNeg = (8 + n) from nI_clamp (by omega)]
          refine lm_G_sg 6 (pc' := 76) (L' := [some (.ref 64), some (.int (b2i w)), some (.int (nI (8 + n)))]) (S' := [.int 9, .int 0, .ref 64, .int (nI (8 + n)), .ref 73]) (σ' := lm_T (lm_wr M4 72 (8 + n) 0) v G) rfl trivial ?_
          have zb2 : ¬ (lm_wr M4 72 (8 + n) 0) 64 25 = 0 := z4
          have bb2 : BM (lm_wr M4 72 (8 + n) 0) e_ a_ := b4
          have fb2 : FrP M (lm_wr M4 72 (8 + n) 0) := FrP_wr (FrP_tr v3 f4) (by omega)
          revert zb2 bb2 fb2
          generalize lm_wr M4 72 (8 + n) 0 = B2
          intro zb2 bb2 fb2
          refine lm_G_ca (j := 160) (as := [.ref 64, .int 0, .int 9]) (rest := [.int (nI (8 + n)), .ref 73]) rfl (Or.inl rfl) (Nat.le_of_ble_eq_true rfl) (Nat.le_of_ble_eq_true rfl) (Nat.le_of_ble_eq_true rfl) (Nat.le_of_ble_eq_true rfl) rfl ?_
          refine m_readNumberB (lo := 0) (hi := 9) zb2 ?_
          show lm_G X (d + 3) 169 106 0 0 79 [some (.ref 64), some (.int (b2i w)), some (.int (nI (8 + n)))] [.int 0, .int (nI (8 + n)), .ref 73] (lm_T B2 v G) Q
          refine lm_G_sg 1 (pc' := 80) (L' := [some (.ref 64), some (.int (b2i w)), some (.int (nI (8 + n)))]) (S' := []) (σ' := lm_T (lm_wr B2 73 ((nI (8 + n)).toNatClampNeg) 0) v G) rfl ⟨(vp_in_nI (by omega) (by omega)), trivial, trivial⟩ ?_
          rw [show (nI (8 + n)).toNatClampNeg = (8 + n) from nI_clamp (by omega)]
          refine lm_G_sg 8 (pc' := 90) (L' := [some (.ref 64), some (.int (b2i w)), some (.int (nI (8 + n)))]) (S' := []) (σ' := lm_T (lm_wr (lm_wr B2 73 (8 + n) 0) 68 5 ((B2 68 5) + 1)) v G) rfl ⟨(lm_inb_ok rfl), trivial, (lm_inb_ok rfl), trivial, trivial⟩ ?_
          exact lm_G_re rfl trivial (Nat.zero_le _) (Nat.zero_le _) (her e_ a_ (by rw [he_, ha_]; rw [ep, nuL_x er2, nuL_x er3, nuL_f er4]) _ v (by exact bb2) (by exact zb2) (FrP_w68 (FrP_wr (fb2) (by omega)) (by omega)))
        ·
          show lm_G X (d + 3) 169 106 0 0 66 [some (.ref 64), some (.int (b2i w)), some (.int (nI (8 + n)))] [.int (nI x4), .int (nI (8 + n)), .ref 72] (lm_T M4 v G) Q
          obtain ⟨y4, y4b, _⟩ := rdN_b er4
          refine lm_G_sg 1 (pc' := 67) (L' := [some (.ref 64), some (.int (b2i w)), some (.int (nI (8 + n)))]) (S' := []) (σ' := lm_T (lm_wr M4 72 ((nI (8 + n)).toNatClampNeg) (nI x4)) v G) rfl ⟨(vp_in_nI (by omega) (by omega)), trivial, trivial⟩ ?_
          rw [show (nI (8 + n)).toNatClampNeg = (8 + n) from nI_clamp (by omega)]
          have u4 : GM (lm_wr M4 72 (8 + n) (nI x4)) T (e4 T p) := GM_w g4 (by decide) (by decide)
          have v4 : FrP M (lm_wr M4 72 (8 + n) (nI x4)) := FrP_wr (FrP_tr v3 (FrP_K f4)) (by omega)
          have w72 : (lm_wr M4 72 (8 + n) (nI x4)) 72 = upd (M 72) (8 + n) (nI x4) := by show upd (M4 72) (8 + n) (nI x4) = _; rw [FrK_row f4 (by decide), o3 72 (by decide) (by decide) (by decide) (by decide)]
          have k4_69 : (lm_wr M4 72 (8 + n) (nI x4)) 69 = N3 69 := (wr_row (by decide)).trans (FrK_row f4 (by decide))
          have k4_70 : (lm_wr M4 72 (8 + n) (nI x4)) 70 = N3 70 := (wr_row (by decide)).trans (FrK_row f4 (by decide))
          have k4_71 : (lm_wr M4 72 (8 + n) (nI x4)) 71 = N3 71 := (wr_row (by decide)).trans (FrK_row f4 (by decide))
          have o4 : ∀ a, a ≠ 64 → a ≠ 69 → a ≠ 70 → a ≠ 71 → a ≠ 72 → (lm_wr M4 72 (8 + n) (nI x4)) a = M a := fun a h1 h69 h70 h71 h72 => by rw [wr_row h72]; exact (FrK_row f4 h1).trans (o3 a h1 h69 h70 h71)
          revert u4 v4 w72 k4_69 k4_70 k4_71 o4
          generalize lm_wr M4 72 (8 + n) (nI x4) = N4
          intro u4 v4 w72 k4_69 k4_70 k4_71 o4
          refine lm_G_sg 6 (pc' := 76) (L' := [some (.ref 64), some (.int (b2i w)), some (.int (nI (8 + n)))]) (S' := [.int 9, .int 0, .ref 64, .int (nI (8 + n)), .ref 73]) (σ' := lm_T N4 v G) rfl trivial ?_
          refine lm_G_ca (j := 160) (as := [.ref 64, .int 0, .int 9]) (rest := [.int (nI (8 + n)), .ref 73]) rfl (Or.inl rfl) (Nat.le_of_ble_eq_true rfl) (Nat.le_of_ble_eq_true rfl) (Nat.le_of_ble_eq_true rfl) (Nat.le_of_ble_eq_true rfl) rfl ?_
          refine m_readNumber (p := e4 T p) (lo := 0) (hi := 9) hT l4 u4 (by omega) (by omega) ⟨fun x5 er5 M5 g5 f5 => ?_, fun f5_ er5 M5 b5 z5 f5 => ?_⟩
          rotate_left
          ·
            show lm_G X (d + 3) 169 106 0 0 79 [some (.ref 64), some (.int (b2i w)), some (.int (nI (8 + n)))] [.int 0, .int (nI (8 + n)), .ref 73] (lm_T M5 v G) Q
            obtain ⟨e_, he_⟩ : ∃ q, q = f5_ := ⟨_, rfl⟩
            obtain ⟨a_, ha_⟩ : ∃ q, q = stS' T (e4 T p) := ⟨_, rfl⟩
            rw [← he_, ← ha_] at b5
            refine lm_G_sg 1 (pc' := 80) (L' := [some (.ref 64), some (.int (b2i w)), some (.int (nI (8 + n)))]) (S' := []) (σ' := lm_T (lm_wr M5 73 ((nI (8 + n)).toNatClampNeg) 0) v G) rfl ⟨(vp_in_nI (by omega) (by omega)), trivial, trivial⟩ ?_
            rw [show (nI (8 + n)).toNatClampNeg = (8 + n) from nI_clamp (by omega)]
            refine lm_G_sg 8 (pc' := 90) (L' := [some (.ref 64), some (.int (b2i w)), some (.int (nI (8 + n)))]) (S' := []) (σ' := lm_T (lm_wr (lm_wr M5 73 (8 + n) 0) 68 5 ((M5 68 5) + 1)) v G) rfl ⟨(lm_inb_ok rfl), trivial, (lm_inb_ok rfl), trivial, trivial⟩ ?_
            exact lm_G_re rfl trivial (Nat.zero_le _) (Nat.zero_le _) (her e_ a_ (by rw [he_, ha_]; rw [ep, nuL_x er2, nuL_x er3, nuL_x er4, nuL_f er5]) _ v (by exact b5) (by exact z5) (FrP_w68 (FrP_wr (FrP_tr v4 f5) (by omega)) (by omega)))
          ·
            show lm_G X (d + 3) 169 106 0 0 79 [some (.ref 64), some (.int (b2i w)), some (.int (nI (8 + n)))] [.int (nI x5), .int (nI (8 + n)), .ref 73] (lm_T M5 v G) Q
            obtain ⟨y5, y5b, _⟩ := rdN_b er5
            refine lm_G_sg 1 (pc' := 80) (L' := [some (.ref 64), some (.int (b2i w)), some (.int (nI (8 + n)))]) (S' := []) (σ' := lm_T (lm_wr M5 73 ((nI (8 + n)).toNatClampNeg) (nI x5)) v G) rfl ⟨(vp_in_nI (by omega) (by omega)), trivial, trivial⟩ ?_
            rw [show (nI (8 + n)).toNatClampNeg = (8 + n) from nI_clamp (by omega)]
            have u5 : GM (lm_wr M5 73 (8 + n) (nI x5)) T (e5 T p) := GM_w g5 (by decide) (by decide)
            have v5 : FrP M (lm_wr M5 73 (8 + n) (nI x5)) := FrP_wr (FrP_tr v4 (FrP_K f5)) (by omega)
            have w73 : (lm_wr M5 73 (8 + n) (nI x5)) 73 = upd (M 73) (8 + n) (nI x5) := by show upd (M5 73) (8 + n) (nI x5) = _; rw [FrK_row f5 (by decide), o4 73 (by decide) (by decide) (by decide) (by decide) (by decide)]
            have k5_69 : (lm_wr M5 73 (8 + n) (nI x5)) 69 = N4 69 := (wr_row (by decide)).trans (FrK_row f5 (by decide))
            have k5_70 : (lm_wr M5 73 (8 + n) (nI x5)) 70 = N4 70 := (wr_row (by decide)).trans (FrK_row f5 (by decide))
            have k5_71 : (lm_wr M5 73 (8 + n) (nI x5)) 71 = N4 71 := (wr_row (by decide)).trans (FrK_row f5 (by decide))
            have k5_72 : (lm_wr M5 73 (8 + n) (nI x5)) 72 = N4 72 := (wr_row (by decide)).trans (FrK_row f5 (by decide))
            have o5 : ∀ a, a ≠ 64 → a ≠ 69 → a ≠ 70 → a ≠ 71 → a ≠ 72 → a ≠ 73 → (lm_wr M5 73 (8 + n) (nI x5)) a = M a := fun a h1 h69 h70 h71 h72 h73 => by rw [wr_row h73]; exact (FrK_row f5 h1).trans (o4 a h1 h69 h70 h71 h72)
            revert u5 v5 w73 k5_69 k5_70 k5_71 k5_72 o5
            generalize lm_wr M5 73 (8 + n) (nI x5) = N5
            intro u5 v5 w73 k5_69 k5_70 k5_71 k5_72 o5
            have h55 : N5 68 5 = nI n := by rw [o5 68 (by decide) (by decide) (by decide) (by decide) (by decide) (by decide), hd.1, en]
            refine lm_G_sg 5 (pc' := 87) (L' := [some (.ref 64), some (.int (b2i w)), some (.int (nI (8 + n)))]) (S' := [.int (N5 68 5), .int 5, .ref 68]) (σ' := lm_T N5 v G) rfl ⟨(lm_inb_ok rfl), trivial, trivial⟩ ?_
            rw [show N5 68 5 = nI n from h55]
            refine lm_G_sg 2 (pc' := 89) (L' := [some (.ref 64), some (.int (b2i w)), some (.int (nI (8 + n)))]) (S' := [.int ((nI n) + 1), .int 5, .ref 68]) (σ' := lm_T N5 v G) rfl trivial ?_
            rw [show (nI n) + 1 = nI (n + 1) from nI_add n 1]
            refine lm_G_sg 1 (pc' := 90) (L' := [some (.ref 64), some (.int (b2i w)), some (.int (nI (8 + n)))]) (S' := []) (σ' := lm_T (lm_wr N5 68 5 (nI (n + 1))) v G) rfl ⟨(lm_inb_ok rfl), trivial, trivial⟩ ?_
            exact lm_G_re rfl trivial (Nat.zero_le _) (Nat.zero_le _) (hok _ _ (by rw [ep, nuL_x er2, nuL_x er3, nuL_x er4, nuL_x er5]) _ v (GM_w u5 (by decide) (by decide)) (by
              obtain ⟨q1, q2, q3, q4, q5, q6, q7, q8, q9, q10, q11, q12⟩ := hd
              have r69 : N5 69 = upd (M 69) (8 + n) (b2i w) := k5_69.trans (k4_69.trans (k3_69.trans (k2_69.trans w69)))
              have r70 : N5 70 = upd (M 70) (8 + n) (nI x2) := k5_70.trans (k4_70.trans (k3_70.trans w70))
              have r71 : N5 71 = upd (M 71) (8 + n) (nI x3) := k5_71.trans (k4_71.trans w71)
              have r72 : N5 72 = upd (M 72) (8 + n) (nI x4) := k5_72.trans w72
              have r73 : N5 73 = upd (M 73) (8 + n) (nI x5) := w73
              have ro : ∀ a, 74 ≤ a → N5 a = M a := fun a ha => o5 a (by omega) (by omega) (by omega) (by omega) (by omega) (by omega)
              have r68 : N5 68 = M 68 := o5 68 (by decide) (by decide) (by decide) (by decide) (by decide) (by decide)
              refine ⟨?_, ?_, ?_, ?_, ?_, ?_, ?_, ?_, ?_, ?_, ?_, ?_⟩
              · show nI (n + 1) = nI (dNo D + 1)
                rw [en]
              · show N5 68 6 = _
                rw [r68]; exact q2
              · show N5 68 7 = _
                rw [r68]; exact q3
              · show upH (N5 70) (dNo D + 1) 8 _
                rw [r70, en]; exact up_ad q4 _
              · show upH (N5 71) (dNo D + 1) 8 _
                rw [r71, en]; exact up_ad q5 _
              · show upH (N5 72) (dNo D + 1) 8 _
                rw [r72, en]; exact up_ad q6 _
              · show upH (N5 73) (dNo D + 1) 8 _
                rw [r73, en]; exact up_ad q7 _
              · show upH (N5 69) (dNo D + 1) 8 _
                rw [r69, en]; exact up_ad q8 _
              · show upH (N5 74) (dM D) 6 _
                rw [ro 74 (by decide)]; exact q9
              · show upH (N5 75) (dM D) 6 _
                rw [ro 75 (by decide)]; exact q10
              · show N5 68 8 = _ ∧ ∀ i, i < (dR0 D).length → N5 76 (700 + i) = _
                rw [r68, ro 76 (by decide)]; exact q11
              · show N5 68 9 = _ ∧ ∀ i, i < (dR1 D).length → N5 77 (700 + i) = _
                rw [r68, ro 77 (by decide)]; exact q12) (FrP_w68 v5 (by omega)))
