/-! ===== contracts: the class reads lines ===== -/
theorem FrV_Ex {M M1 : Nat → Fn} (h : FrEx M M1) : FrV M M1 := by
  refine ⟨Fr_mn h.1 (fun a ha => ?_), fun k hk => h.2.1 k (by omega)⟩
  unfold frV at ha
  unfold frE
  rw [decide_eq_false_iff_not] at ha ⊢
  omega
theorem FrV_E {M M1 : Nat → Fn} (h : FrE M M1) : FrV M M1 := by
  refine ⟨Fr_mn h.1 (fun a ha => ?_), fun k hk => h.2.1 k (by omega)⟩
  unfold frV at ha
  unfold frE
  rw [decide_eq_false_iff_not] at ha ⊢
  omega
theorem nar_b : ∀ w : Bool, vp_nar .boolean (b2i w) = b2i w := by decide
set_option maxRecDepth 10000 in
theorem c_readSign {X : lm_X} {d v : Nat} {M : Nat → Nat → Int32} {G : Nat → Nat → Int64} {Q : lm_O → lm_S → Prop} {T : Tx} {p c : Nat} (hT : okT T) (ht : RT M T p) (hp : p ≤ tN T) (hc : c < 128) (hQ : (isSg T p c = true → ∀ M1, RT M1 T (enS T p) → FrR M M1 → Q (.inl (some (.int 1))) (lm_T M1 v G)) ∧ (isSg T p c = false → ∀ M1, BC M1 1 (stS' T p) → FrV M M1 → Q (.inl (some (.int 0))) (lm_T M1 v G))) : lm_Q X (d + 2) 34 [.ref 1, .int (nI c)] (lm_T M v G) Q := by
  show lm_G X (d + 2) 34 106 0 0 0 [some (.ref 1), some (.int (nI c))] [] (lm_T M v G) Q
  obtain ⟨el1, el2, el3⟩ := en_le hp
  refine lm_G_sg 2 (pc' := 2) (L' := [some (.ref 1), some (.int (nI c))]) (S' := [.int (nI c), .ref 1]) (σ' := lm_T M v G) rfl trivial ?_
  refine lm_G_ca (j := 31) (as := [.ref 1, .int (nI c)]) (rest := []) rfl (Or.inl rfl) (Nat.le_of_ble_eq_true rfl) (Nat.le_of_ble_eq_true rfl) (Nat.le_of_ble_eq_true rfl) (Nat.le_of_ble_eq_true rfl) rfl ?_
  refine c_isSign (c := c) hT ht hp hc ?_
  show lm_G X (d + 2) 34 106 0 0 5 [some (.ref 1), some (.int (nI c))] [.int (b2i (isSg T p c))] (lm_T M v G) Q
  refine lm_G_br (b := ¬ (b2i (isSg T p c)) = 0) (t := 14) (S' := []) rfl (fun g0 => ?_) (fun g0 => ?_)
  ·
    refine lm_G_sg 1 (pc' := 15) (L' := [some (.ref 1), some (.int (nI c))]) (S' := [.ref 1]) (σ' := lm_T M v G) rfl trivial ?_
    refine lm_G_ca (j := 26) (as := [.ref 1]) (rest := []) rfl (Or.inl rfl) (Nat.le_of_ble_eq_true rfl) (Nat.le_of_ble_eq_true rfl) (Nat.le_of_ble_eq_true rfl) (Nat.le_of_ble_eq_true rfl) rfl ?_
    refine c_nextToken hT ht.1 el2 ht.2.2.2.1 (fun M1 t1 f1 => ?_)
    show lm_G X (d + 2) 34 106 0 0 18 [some (.ref 1), some (.int (nI c))] [] (lm_T M1 v G) Q
    refine lm_G_sg 1 (pc' := 19) (L' := [some (.ref 1), some (.int (nI c))]) (S' := [.int 1]) (σ' := lm_T M1 v G) rfl trivial ?_
    exact lm_G_re rfl (by decide) (Nat.zero_le _) (Nat.zero_le _) (hQ.1 (b2i_1 g0) _ t1 f1)
  ·
    refine lm_G_sg 2 (pc' := 10) (L' := [some (.ref 1), some (.int (nI c))]) (S' := [.int 1, .ref 1]) (σ' := lm_T M v G) rfl trivial ?_
    refine lm_G_ca (j := 25) (as := [.ref 1, .int 1]) (rest := []) rfl (Or.inl rfl) (Nat.le_of_ble_eq_true rfl) (Nat.le_of_ble_eq_true rfl) (Nat.le_of_ble_eq_true rfl) (Nat.le_of_ble_eq_true rfl) rfl ?_
    refine c_fail ?_
    show lm_G X (d + 2) 34 106 0 0 13 [some (.ref 1), some (.int (nI c))] [.int 0] (lm_T (lm_wr (lm_wr M 1 10 1) 1 11 (M 1 7)) v G) Q
    exact lm_G_re rfl (by decide) (Nat.zero_le _) (Nat.zero_le _) (hQ.2 (b2i_0 (Classical.not_not.mp g0)) _ ⟨rfl, ht.2.2.1⟩ (FrV_w1 (FrV_w1 (FrV_rf _) (by omega)) (by omega)))
set_option maxRecDepth 10000 in
theorem c_readNumber {X : lm_X} {d v : Nat} {M : Nat → Nat → Int32} {G : Nat → Nat → Int64} {Q : lm_O → lm_S → Prop} {T : Tx} {p lo hi : Nat} (hT : okT T) (ht : RT M T p) (hp : p ≤ tN T) (hlo : lo ≤ 9999) (hhi : hi ≤ 9999) (hQ : (∀ x, rdN T p lo hi = .inl x → ∀ M1, RT M1 T (enS T p) → FrR M M1 → Q (.inl (some (.int (nI x)))) (lm_T M1 v G)) ∧ (∀ f, rdN T p lo hi = .inr f → ∀ M1, BC M1 f (stS' T p) → FrV M M1 → Q (.inl (some (.int (-1)))) (lm_T M1 v G))) : lm_Q X (d + 2) 35 [.ref 1, .int (nI lo), .int (nI hi)] (lm_T M v G) Q := by
  show lm_G X (d + 2) 35 106 0 0 0 [some (.ref 1), some (.int (nI lo)), some (.int (nI hi)), none] [] (lm_T M v G) Q
  have kl := kn_le (T := T) (p := p)
  obtain ⟨el1, el2, el3⟩ := en_le hp
  have k39 : ∀ (er : rdN T p lo hi = .inr 2), lm_G X (d + 2) 35 106 0 0 39 [some (.ref 1), some (.int (nI lo)), some (.int (nI hi)), none] [] (lm_T M v G) Q := by
    intro er
    refine lm_G_sg 2 (pc' := 41) (L' := [some (.ref 1), some (.int (nI lo)), some (.int (nI hi)), none]) (S' := [.int 2, .ref 1]) (σ' := lm_T M v G) rfl trivial ?_
    refine lm_G_ca (j := 25) (as := [.ref 1, .int 2]) (rest := []) rfl (Or.inl rfl) (Nat.le_of_ble_eq_true rfl) (Nat.le_of_ble_eq_true rfl) (Nat.le_of_ble_eq_true rfl) (Nat.le_of_ble_eq_true rfl) rfl ?_
    refine c_fail ?_
    show lm_G X (d + 2) 35 106 0 0 44 [some (.ref 1), some (.int (nI lo)), some (.int (nI hi)), none] [.int 0] (lm_T (lm_wr (lm_wr M 1 10 2) 1 11 (M 1 7)) v G) Q
    refine lm_G_sg 2 (pc' := 46) (L' := [some (.ref 1), some (.int (nI lo)), some (.int (nI hi)), none]) (S' := [.int (-1)]) (σ' := lm_T (lm_wr (lm_wr M 1 10 2) 1 11 (M 1 7)) v G) rfl trivial ?_
    exact lm_G_re rfl trivial (Nat.zero_le _) (Nat.zero_le _) (hQ.2 2 (er) _ ⟨rfl, ht.2.2.1⟩ (FrV_w1 (FrV_w1 (FrV_rf _) (by omega)) (by omega)))
  refine lm_G_sg 2 (pc' := 4) (L' := [some (.ref 1), some (.int (nI lo)), some (.int (nI hi)), none]) (S' := [.int (M 1 6)]) (σ' := lm_T M v G) rfl trivial ?_
  rw [show M 1 6 = nI (knS T p) from ht.2.1]
  refine lm_G_sg 1 (pc' := 5) (L' := [some (.ref 1), some (.int (nI lo)), some (.int (nI hi)), none]) (S' := [.int 2, .int (nI (knS T p))]) (σ' := lm_T M v G) rfl trivial ?_
  refine lm_G_br (b := (nI (knS T p)) = 2) (t := 16) (S' := []) rfl (fun g0 => ?_) (fun g0 => ?_)
  rotate_left
  ·
    refine lm_G_sg 2 (pc' := 10) (L' := [some (.ref 1), some (.int (nI lo)), some (.int (nI hi)), none]) (S' := [.int 1, .ref 1]) (σ' := lm_T M v G) rfl trivial ?_
    refine lm_G_ca (j := 25) (as := [.ref 1, .int 1]) (rest := []) rfl (Or.inl rfl) (Nat.le_of_ble_eq_true rfl) (Nat.le_of_ble_eq_true rfl) (Nat.le_of_ble_eq_true rfl) (Nat.le_of_ble_eq_true rfl) rfl ?_
    refine c_fail ?_
    show lm_G X (d + 2) 35 106 0 0 13 [some (.ref 1), some (.int (nI lo)), some (.int (nI hi)), none] [.int 0] (lm_T (lm_wr (lm_wr M 1 10 1) 1 11 (M 1 7)) v G) Q
    refine lm_G_sg 2 (pc' := 15) (L' := [some (.ref 1), some (.int (nI lo)), some (.int (nI hi)), none]) (S' := [.int (-1)]) (σ' := lm_T (lm_wr (lm_wr M 1 10 1) 1 11 (M 1 7)) v G) rfl trivial ?_
    exact lm_G_re rfl trivial (Nat.zero_le _) (Nat.zero_le _) (hQ.2 1 (by unfold rdN; rw [if_neg (fun q => g0 (by rw [q]; rfl))]) _ ⟨rfl, ht.2.2.1⟩ (FrV_w1 (FrV_w1 (FrV_rf _) (by omega)) (by omega)))
  ·
    have k2 : knS T p = 2 := (nI_eq (b := 2) (by omega) (by omega)).mp g0
    refine lm_G_sg 1 (pc' := 17) (L' := [some (.ref 1), some (.int (nI lo)), some (.int (nI hi)), none]) (S' := [.ref 1]) (σ' := lm_T M v G) rfl trivial ?_
    refine lm_G_ca (j := 32) (as := [.ref 1]) (rest := []) rfl (Or.inl rfl) (Nat.le_of_ble_eq_true rfl) (Nat.le_of_ble_eq_true rfl) (Nat.le_of_ble_eq_true rfl) (Nat.le_of_ble_eq_true rfl) rfl ?_
    refine c_isLong hT ht hp ?_
    show lm_G X (d + 2) 35 106 0 0 20 [some (.ref 1), some (.int (nI lo)), some (.int (nI hi)), none] [.int (b2i (lgS T p))] (lm_T M v G) Q
    refine lm_G_br (b := ¬ (b2i (lgS T p)) = 0) (t := 39) (S' := []) rfl (fun g1 => ?_) (fun g1 => ?_)
    ·
      exact k39 (by
          have gl := b2i_1 g1
          unfold lgS at gl
          rw [Bool.and_eq_true] at gl
          have l4 := of_decide_eq_true gl.2
          unfold rdN
          rw [if_pos k2, if_neg (fun q => by omega)])
    ·
      have l4 : lnS T p ≤ 4 := by
        have gl := b2i_0 (Classical.not_not.mp g1)
        unfold lgS at gl
        rw [decide_eq_true k2, Bool.true_and] at gl
        exact Nat.le_of_not_lt (of_decide_eq_false gl)
      have n9 := nu_le k2 l4
      refine lm_G_sg 2 (pc' := 27) (L' := [some (.ref 1), some (.int (nI lo)), some (.int (nI hi)), none]) (S' := [.int (M 1 9)]) (σ' := lm_T M v G) rfl trivial ?_
      rw [show M 1 9 = nI (nuS T p) from ht.2.2.2.2 k2 l4]
      refine lm_G_sg 1 (pc' := 28) (L' := [some (.ref 1), some (.int (nI lo)), some (.int (nI hi)), none]) (S' := [.int (nI lo), .int (nI (nuS T p))]) (σ' := lm_T M v G) rfl trivial ?_
      refine lm_G_br (b := (nI (nuS T p)) < (nI lo)) (t := 39) (S' := []) rfl (fun g2 => ?_) (fun g2 => ?_)
      ·
        exact k39 (by
            have q2 := (nI_ltI (by omega) (by omega)).mp g2
            unfold rdN
            rw [if_pos k2, if_neg (fun q => by omega)])
      ·
        have q2 : lo ≤ nuS T p := Nat.le_of_not_lt (fun w => g2 (nI_lt w (by omega)))
        refine lm_G_sg 2 (pc' := 35) (L' := [some (.ref 1), some (.int (nI lo)), some (.int (nI hi)), none]) (S' := [.int (M 1 9)]) (σ' := lm_T M v G) rfl trivial ?_
        rw [show M 1 9 = nI (nuS T p) from ht.2.2.2.2 k2 l4]
        refine lm_G_sg 1 (pc' := 36) (L' := [some (.ref 1), some (.int (nI lo)), some (.int (nI hi)), none]) (S' := [.int (nI hi), .int (nI (nuS T p))]) (σ' := lm_T M v G) rfl trivial ?_
        refine lm_G_br (b := (nI (nuS T p)) ≤ (nI hi)) (t := 47) (S' := []) rfl (fun g3 => ?_) (fun g3 => ?_)
        rotate_left
        ·
          exact k39 (by
              have q3 : ¬ nuS T p ≤ hi := fun w => g3 (nI_le w (by omega))
              unfold rdN
              rw [if_pos k2, if_neg (fun q => by omega)])
        ·
          have q3 : nuS T p ≤ hi := (nI_leI (by omega) (by omega)).mp g3
          refine lm_G_sg 2 (pc' := 51) (L' := [some (.ref 1), some (.int (nI lo)), some (.int (nI hi)), none]) (S' := [.int (M 1 9)]) (σ' := lm_T M v G) rfl trivial ?_
          rw [show M 1 9 = nI (nuS T p) from ht.2.2.2.2 k2 l4]
          refine lm_G_sg 2 (pc' := 53) (L' := [some (.ref 1), some (.int (nI lo)), some (.int (nI hi)), some (.int (nI (nuS T p)))]) (S' := [.ref 1]) (σ' := lm_T M v G) rfl trivial ?_
          refine lm_G_ca (j := 26) (as := [.ref 1]) (rest := []) rfl (Or.inl rfl) (Nat.le_of_ble_eq_true rfl) (Nat.le_of_ble_eq_true rfl) (Nat.le_of_ble_eq_true rfl) (Nat.le_of_ble_eq_true rfl) rfl ?_
          refine c_nextToken hT ht.1 el2 ht.2.2.2.1 (fun M1 t1 f1 => ?_)
          show lm_G X (d + 2) 35 106 0 0 56 [some (.ref 1), some (.int (nI lo)), some (.int (nI hi)), some (.int (nI (nuS T p)))] [] (lm_T M1 v G) Q
          refine lm_G_sg 1 (pc' := 57) (L' := [some (.ref 1), some (.int (nI lo)), some (.int (nI hi)), some (.int (nI (nuS T p)))]) (S' := [.int (nI (nuS T p))]) (σ' := lm_T M1 v G) rfl trivial ?_
          exact lm_G_re rfl trivial (Nat.zero_le _) (Nat.zero_le _) (hQ.1 _ (by unfold rdN; rw [if_pos k2, if_pos ⟨l4, q2, q3⟩]) _ t1 f1)
def CL (X : lm_X) (T : Tx) (d j : Nat) (as : List Value) (spec : Dr → Nat → LR) : Prop := ∀ (v : Nat) (M : Nat → Nat → Int32) (G : Nat → Nat → Int64) (Q : lm_O → lm_S → Prop) (p : Nat) (D : Dr) (K : Cd), RT M T p → p ≤ tN T → knS T p ≠ 0 → DC M D K → okD D → K.length ≤ p → (∀ r D', spec D p = .inl (r, D') → ∀ M1 K1, RT M1 T r → DC M1 D' K1 → K1.length ≤ r → FrV M M1 → M1 1 11 = M 1 11 → Q (.inl (some (.int 1))) (lm_T M1 v G)) → (∀ e a, spec D p = .inr (e, a) → ∀ M1, BC M1 e a → FrV M M1 → Q (.inl (some (.int 0))) (lm_T M1 v G)) → lm_Q X d j as (lm_T M v G) Q
theorem RT_w {M : Nat → Fn} {T : Tx} {p : Nat} (h : RT M T p) {a j : Nat} {x : Int32} (h1 : a ≠ 1) (h2 : a ≠ 2) : RT (lm_wr M a j x) T p := by
  unfold RT RDc
  rw [wr_row (fun e => h1 e.symm), wr_row (fun e => h2 e.symm)]
  exact h
theorem FrR_r {M M1 : Nat → Fn} (h : FrR M M1) {a : Nat} (ha : 2 ≤ a) : M1 a = M a := h.1 a (frO1 ha)
def lnP (T : Tx) (f : Dr → Nat → LR) (D : Dr) (p : Nat) : LR := seL T (f D p)
set_option maxRecDepth 10000 in
theorem c_readPerson {X : lm_X} {T : Tx} {w : Bool} (hT : okT T) : ∀ d, CL X T (d + 3) 36 [.ref 1, .int (b2i w)] (lnP T (peL T w)) := by
  intro d
  intro v M G Q p D K ht hp h0 hd hD hkl hok her
  show lm_G X (d + 3) 36 106 0 0 0 [some (.ref 1), some (.int (b2i w)), none] [] (lm_T M v G) Q
  have hn := hT.1
  obtain ⟨g1_, g2_, g3_, g4_, g5_⟩ := e_ge hp
  obtain ⟨l1, l2, l3, l4, l5⟩ := e_le hp
  have hgt : p < e1 T p := en_gt hp h0
  have hN := hD.1
  have hM := hD.2.1
  refine lm_G_sg 3 (pc' := 7) (L' := [some (.ref 1), some (.int (b2i w)), none]) (S' := [.int (M 3 0)]) (σ' := lm_T M v G) rfl trivial ?_
  rw [show M 3 0 = nI (dNo D) from hd.1]
  refine lm_G_sg 3 (pc' := 11) (L' := [some (.ref 1), some (.int (b2i w)), some (.int (nI (dNo D)))]) (S' := [.int 8, .int (nI (dNo D))]) (σ' := lm_T M v G) rfl trivial ?_
  refine lm_G_br (b := (nI (dNo D)) < 8) (t := 20) (S' := []) rfl (fun g0 => ?_) (fun g0 => ?_)
  rotate_left
  ·
    have h8 : 8 ≤ dNo D := Nat.le_of_not_lt (fun w => g0 (nI_lt (b := 8) w (by omega)))
    refine lm_G_sg 2 (pc' := 16) (L' := [some (.ref 1), some (.int (b2i w)), some (.int (nI (dNo D)))]) (S' := [.int 2, .ref 1]) (σ' := lm_T M v G) rfl trivial ?_
    refine lm_G_ca (j := 25) (as := [.ref 1, .int 2]) (rest := []) rfl (Or.inl rfl) (Nat.le_of_ble_eq_true rfl) (Nat.le_of_ble_eq_true rfl) (Nat.le_of_ble_eq_true rfl) (Nat.le_of_ble_eq_true rfl) rfl ?_
    refine c_fail ?_
    show lm_G X (d + 3) 36 106 0 0 19 [some (.ref 1), some (.int (b2i w)), some (.int (nI (dNo D)))] [.int 0] (lm_T (lm_wr (lm_wr M 1 10 2) 1 11 (M 1 7)) v G) Q
    exact lm_G_re rfl (by decide) (Nat.zero_le _) (Nat.zero_le _) (her _ _ (by unfold lnP peL; rw [if_pos h8]; rfl) _ ⟨rfl, ht.2.2.1⟩ (FrV_w1 (FrV_w1 (FrV_rf _) (by omega)) (by omega)))
  ·
    have h8 : ¬ 8 ≤ dNo D := Nat.not_le_of_lt ((nI_ltI (b := 8) (by omega) (by omega)).mp g0)
    have ep : peL T w D p = nuL T (e1 T p) 1 20 fun b => nuL T (e2 T p) 0 9 fun r => nuL T (e3 T p) 0 30 fun q => nuL T (e4 T p) 0 9 fun c => .inl (e5 T p, adP D w b r q c) := if_neg h8
    obtain ⟨n, en⟩ : ∃ q, q = dNo D := ⟨_, rfl⟩
    rw [← en] at h8 hN ⊢
    refine lm_G_sg 1 (pc' := 21) (L' := [some (.ref 1), some (.int (b2i w)), some (.int (nI n))]) (S' := [.ref 1]) (σ' := lm_T M v G) rfl trivial ?_
    refine lm_G_ca (j := 26) (as := [.ref 1]) (rest := []) rfl (Or.inl rfl) (Nat.le_of_ble_eq_true rfl) (Nat.le_of_ble_eq_true rfl) (Nat.le_of_ble_eq_true rfl) (Nat.le_of_ble_eq_true rfl) rfl ?_
    refine c_nextToken (p := e1 T p) hT ht.1 l1 ht.2.2.2.1 (fun M1 t1 f1 => ?_)
    show lm_G X (d + 3) 36 106 0 0 24 [some (.ref 1), some (.int (b2i w)), some (.int (nI n))] [] (lm_T M1 v G) Q
    refine lm_G_sg 6 (pc' := 34) (L' := [some (.ref 1), some (.int (b2i w)), some (.int (nI n))]) (S' := []) (σ' := lm_T (lm_wr M1 8 ((nI n).toNatClampNeg) (vp_nar .boolean (b2i w))) v G) rfl ⟨(vp_in_nI (by omega) (by omega)), trivial, trivial⟩ ?_
    rw [show (nI n).toNatClampNeg = n from nI_clamp (by omega)]
    rw [nar_b]
    have u1 : RT (lm_wr M1 8 n (b2i w)) T (e1 T p) := RT_w t1 (by decide) (by decide)
    have v1 : FrV M (lm_wr M1 8 n (b2i w)) := FrV_wr (FrV_R f1) rfl (by decide)
    have w8_ : (lm_wr M1 8 n (b2i w)) 8 = upd (M 8) n (b2i w) := by show upd (M1 8) n (b2i w) = _; rw [FrR_r f1 (by decide)]
    have o1 : ∀ a, 2 ≤ a → a ≠ 8 → (lm_wr M1 8 n (b2i w)) a = M a := fun a h1 h2 => by rw [wr_row h2]; exact FrR_r f1 h1
    have z1 : ∀ k, k = 4 ∨ k = 11 → (lm_wr M1 8 n (b2i w)) 1 k = M 1 k := fun k hk => f1.2 k (by omega) (by omega) (by omega) (by omega)
    revert u1 v1 w8_ o1 z1
    generalize lm_wr M1 8 n (b2i w) = N1
    intro u1 v1 w8_ o1 z1
    refine lm_G_sg 7 (pc' := 46) (L' := [some (.ref 1), some (.int (b2i w)), some (.int (nI n))]) (S' := [.int 20, .int 1, .ref 1, .int (nI n), .ref 4]) (σ' := lm_T N1 v G) rfl trivial ?_
    refine lm_G_ca (j := 35) (as := [.ref 1, .int 1, .int 20]) (rest := [.int (nI n), .ref 4]) rfl (Or.inl rfl) (Nat.le_of_ble_eq_true rfl) (Nat.le_of_ble_eq_true rfl) (Nat.le_of_ble_eq_true rfl) (Nat.le_of_ble_eq_true rfl) rfl ?_
    refine c_readNumber (p := e1 T p) (lo := 1) (hi := 20) hT u1 l1 (by omega) (by omega) ⟨fun x2 er2 M2 t2 f2 => ?_, fun f2_ er2 M2 b2 f2 => ?_⟩
    rotate_left
    ·
      show lm_G X (d + 3) 36 106 0 0 49 [some (.ref 1), some (.int (b2i w)), some (.int (nI n))] [.int (-1), .int (nI n), .ref 4] (lm_T M2 v G) Q
      refine lm_G_sg 1 (pc' := 50) (L' := [some (.ref 1), some (.int (b2i w)), some (.int (nI n))]) (S' := []) (σ' := lm_T (lm_wr M2 4 ((nI n).toNatClampNeg) (-1)) v G) rfl ⟨(vp_in_nI (by omega) (by omega)), trivial, trivial⟩ ?_
      rw [show (nI n).toNatClampNeg = n from nI_clamp (by omega)]
      refine lm_G_sg 5 (pc' := 59) (L' := [some (.ref 1), some (.int (b2i w)), some (.int (nI n))]) (S' := [.int ((lm_wr M2 4 n (-1)) 4 (nI n).toNatClampNeg)]) (σ' := lm_T (lm_wr M2 4 n (-1)) v G) rfl ⟨(vp_in_nI (by omega) (by omega)), trivial, trivial⟩ ?_
      rw [show (nI n).toNatClampNeg = n from nI_clamp (by omega)]
      show lm_G X (d + 3) 36 106 0 0 59 [some (.ref 1), some (.int (b2i w)), some (.int (nI n))] [.int ((lm_wr M2 4 n (-1)) 4 n)] (lm_T (lm_wr M2 4 n (-1)) v G) Q
      rw [wr_same]
      refine lm_G_sg 1 (pc' := 60) (L' := [some (.ref 1), some (.int (b2i w)), some (.int (nI n))]) (S' := [.int (-1), .int (-1)]) (σ' := lm_T (lm_wr M2 4 n (-1)) v G) rfl trivial ?_
      refine lm_G_br (b := ¬ (-1) = (-1)) (t := 65) (S' := []) rfl (fun hc => absurd rfl hc) (fun hc => ?_)
      refine lm_G_sg 1 (pc' := 64) (L' := [some (.ref 1), some (.int (b2i w)), some (.int (nI n))]) (S' := [.int 0]) (σ' := lm_T (lm_wr M2 4 n (-1)) v G) rfl trivial ?_
      exact lm_G_re rfl (by decide) (Nat.zero_le _) (Nat.zero_le _) (her _ _ (by unfold lnP; rw [ep, nuL_f er2]; rfl) _ b2 (FrV_wr (FrV_tr v1 f2) rfl (by decide)))
    ·
      show lm_G X (d + 3) 36 106 0 0 49 [some (.ref 1), some (.int (b2i w)), some (.int (nI n))] [.int (nI x2), .int (nI n), .ref 4] (lm_T M2 v G) Q
      obtain ⟨y2, y2b, _⟩ := rdN_b er2
      refine lm_G_sg 1 (pc' := 50) (L' := [some (.ref 1), some (.int (b2i w)), some (.int (nI n))]) (S' := []) (σ' := lm_T (lm_wr M2 4 ((nI n).toNatClampNeg) (nI x2)) v G) rfl ⟨(vp_in_nI (by omega) (by omega)), trivial, trivial⟩ ?_
      rw [show (nI n).toNatClampNeg = n from nI_clamp (by omega)]
      refine lm_G_sg 5 (pc' := 59) (L' := [some (.ref 1), some (.int (b2i w)), some (.int (nI n))]) (S' := [.int ((lm_wr M2 4 n (nI x2)) 4 (nI n).toNatClampNeg)]) (σ' := lm_T (lm_wr M2 4 n (nI x2)) v G) rfl ⟨(vp_in_nI (by omega) (by omega)), trivial, trivial⟩ ?_
      rw [show (nI n).toNatClampNeg = n from nI_clamp (by omega)]
      show lm_G X (d + 3) 36 106 0 0 59 [some (.ref 1), some (.int (b2i w)), some (.int (nI n))] [.int ((lm_wr M2 4 n (nI x2)) 4 n)] (lm_T (lm_wr M2 4 n (nI x2)) v G) Q
      rw [wr_same]
      refine lm_G_sg 1 (pc' := 60) (L' := [some (.ref 1), some (.int (b2i w)), some (.int (nI n))]) (S' := [.int (-1), .int (nI x2)]) (σ' := lm_T (lm_wr M2 4 n (nI x2)) v G) rfl trivial ?_
      refine lm_G_br (b := ¬ (nI x2) = (-1)) (t := 65) (S' := []) rfl (fun hc => ?_) (fun hc => absurd (Classical.not_not.mp hc) (nI_m1 (by omega)))
      have u2 : RT (lm_wr M2 4 n (nI x2)) T (e2 T p) := RT_w t2 (by decide) (by decide)
      have v2 : FrV M (lm_wr M2 4 n (nI x2)) := FrV_wr (FrV_tr v1 (FrV_R f2)) rfl (by decide)
      have w4_ : (lm_wr M2 4 n (nI x2)) 4 = upd (M 4) n (nI x2) := by show upd (M2 4) n (nI x2) = _; rw [FrR_r f2 (by decide), o1 4 (by decide) (by decide)]
      have k2_8 : (lm_wr M2 4 n (nI x2)) 8 = N1 8 := (wr_row (by decide)).trans (FrR_r f2 (by decide))
      have o2 : ∀ a, 2 ≤ a → a ≠ 8 → a ≠ 4 → (lm_wr M2 4 n (nI x2)) a = M a := fun a h1 h8 h4 => by rw [wr_row h4]; exact (FrR_r f2 h1).trans (o1 a h1 h8)
      have z2 : ∀ k, k = 4 ∨ k = 11 → (lm_wr M2 4 n (nI x2)) 1 k = M 1 k := fun k hk => (f2.2 k (by omega) (by omega) (by omega) (by omega)).trans (z1 k hk)
      revert u2 v2 w4_ k2_8 o2 z2
      generalize lm_wr M2 4 n (nI x2) = N2
      intro u2 v2 w4_ k2_8 o2 z2
      refine lm_G_sg 7 (pc' := 77) (L' := [some (.ref 1), some (.int (b2i w)), some (.int (nI n))]) (S' := [.int 9, .int 0, .ref 1, .int (nI n), .ref 5]) (σ' := lm_T N2 v G) rfl trivial ?_
      refine lm_G_ca (j := 35) (as := [.ref 1, .int 0, .int 9]) (rest := [.int (nI n), .ref 5]) rfl (Or.inl rfl) (Nat.le_of_ble_eq_true rfl) (Nat.le_of_ble_eq_true rfl) (Nat.le_of_ble_eq_true rfl) (Nat.le_of_ble_eq_true rfl) rfl ?_
      refine c_readNumber (p := e2 T p) (lo := 0) (hi := 9) hT u2 l2 (by omega) (by omega) ⟨fun x3 er3 M3 t3 f3 => ?_, fun f3_ er3 M3 b3 f3 => ?_⟩
      rotate_left
      ·
        show lm_G X (d + 3) 36 106 0 0 80 [some (.ref 1), some (.int (b2i w)), some (.int (nI n))] [.int (-1), .int (nI n), .ref 5] (lm_T M3 v G) Q
        refine lm_G_sg 1 (pc' := 81) (L' := [some (.ref 1), some (.int (b2i w)), some (.int (nI n))]) (S' := []) (σ' := lm_T (lm_wr M3 5 ((nI n).toNatClampNeg) (-1)) v G) rfl ⟨(vp_in_nI (by omega) (by omega)), trivial, trivial⟩ ?_
        rw [show (nI n).toNatClampNeg = n from nI_clamp (by omega)]
        refine lm_G_sg 5 (pc' := 90) (L' := [some (.ref 1), some (.int (b2i w)), some (.int (nI n))]) (S' := [.int ((lm_wr M3 5 n (-1)) 5 (nI n).toNatClampNeg)]) (σ' := lm_T (lm_wr M3 5 n (-1)) v G) rfl ⟨(vp_in_nI (by omega) (by omega)), trivial, trivial⟩ ?_
        rw [show (nI n).toNatClampNeg = n from nI_clamp (by omega)]
        show lm_G X (d + 3) 36 106 0 0 90 [some (.ref 1), some (.int (b2i w)), some (.int (nI n))] [.int ((lm_wr M3 5 n (-1)) 5 n)] (lm_T (lm_wr M3 5 n (-1)) v G) Q
        rw [wr_same]
        refine lm_G_sg 1 (pc' := 91) (L' := [some (.ref 1), some (.int (b2i w)), some (.int (nI n))]) (S' := [.int (-1), .int (-1)]) (σ' := lm_T (lm_wr M3 5 n (-1)) v G) rfl trivial ?_
        refine lm_G_br (b := ¬ (-1) = (-1)) (t := 96) (S' := []) rfl (fun hc => absurd rfl hc) (fun hc => ?_)
        refine lm_G_sg 1 (pc' := 95) (L' := [some (.ref 1), some (.int (b2i w)), some (.int (nI n))]) (S' := [.int 0]) (σ' := lm_T (lm_wr M3 5 n (-1)) v G) rfl trivial ?_
        exact lm_G_re rfl (by decide) (Nat.zero_le _) (Nat.zero_le _) (her _ _ (by unfold lnP; rw [ep, nuL_x er2, nuL_f er3]; rfl) _ b3 (FrV_wr (FrV_tr v2 f3) rfl (by decide)))
      ·
        show lm_G X (d + 3) 36 106 0 0 80 [some (.ref 1), some (.int (b2i w)), some (.int (nI n))] [.int (nI x3), .int (nI n), .ref 5] (lm_T M3 v G) Q
        obtain ⟨y3, y3b, _⟩ := rdN_b er3
        refine lm_G_sg 1 (pc' := 81) (L' := [some (.ref 1), some (.int (b2i w)), some (.int (nI n))]) (S' := []) (σ' := lm_T (lm_wr M3 5 ((nI n).toNatClampNeg) (nI x3)) v G) rfl ⟨(vp_in_nI (by omega) (by omega)), trivial, trivial⟩ ?_
        rw [show (nI n).toNatClampNeg = n from nI_clamp (by omega)]
        refine lm_G_sg 5 (pc' := 90) (L' := [some (.ref 1), some (.int (b2i w)), some (.int (nI n))]) (S' := [.int ((lm_wr M3 5 n (nI x3)) 5 (nI n).toNatClampNeg)]) (σ' := lm_T (lm_wr M3 5 n (nI x3)) v G) rfl ⟨(vp_in_nI (by omega) (by omega)), trivial, trivial⟩ ?_
        rw [show (nI n).toNatClampNeg = n from nI_clamp (by omega)]
        show lm_G X (d + 3) 36 106 0 0 90 [some (.ref 1), some (.int (b2i w)), some (.int (nI n))] [.int ((lm_wr M3 5 n (nI x3)) 5 n)] (lm_T (lm_wr M3 5 n (nI x3)) v G) Q
        rw [wr_same]
        refine lm_G_sg 1 (pc' := 91) (L' := [some (.ref 1), some (.int (b2i w)), some (.int (nI n))]) (S' := [.int (-1), .int (nI x3)]) (σ' := lm_T (lm_wr M3 5 n (nI x3)) v G) rfl trivial ?_
        refine lm_G_br (b := ¬ (nI x3) = (-1)) (t := 96) (S' := []) rfl (fun hc => ?_) (fun hc => absurd (Classical.not_not.mp hc) (nI_m1 (by omega)))
        have u3 : RT (lm_wr M3 5 n (nI x3)) T (e3 T p) := RT_w t3 (by decide) (by decide)
        have v3 : FrV M (lm_wr M3 5 n (nI x3)) := FrV_wr (FrV_tr v2 (FrV_R f3)) rfl (by decide)
        have w5_ : (lm_wr M3 5 n (nI x3)) 5 = upd (M 5) n (nI x3) := by show upd (M3 5) n (nI x3) = _; rw [FrR_r f3 (by decide), o2 5 (by decide) (by decide) (by decide)]
        have k3_8 : (lm_wr M3 5 n (nI x3)) 8 = N2 8 := (wr_row (by decide)).trans (FrR_r f3 (by decide))
        have k3_4 : (lm_wr M3 5 n (nI x3)) 4 = N2 4 := (wr_row (by decide)).trans (FrR_r f3 (by decide))
        have o3 : ∀ a, 2 ≤ a → a ≠ 8 → a ≠ 4 → a ≠ 5 → (lm_wr M3 5 n (nI x3)) a = M a := fun a h1 h8 h4 h5 => by rw [wr_row h5]; exact (FrR_r f3 h1).trans (o2 a h1 h8 h4)
        have z3 : ∀ k, k = 4 ∨ k = 11 → (lm_wr M3 5 n (nI x3)) 1 k = M 1 k := fun k hk => (f3.2 k (by omega) (by omega) (by omega) (by omega)).trans (z2 k hk)
        revert u3 v3 w5_ k3_8 k3_4 o3 z3
        generalize lm_wr M3 5 n (nI x3) = N3
        intro u3 v3 w5_ k3_8 k3_4 o3 z3
        refine lm_G_sg 7 (pc' := 108) (L' := [some (.ref 1), some (.int (b2i w)), some (.int (nI n))]) (S' := [.int 30, .int 0, .ref 1, .int (nI n), .ref 6]) (σ' := lm_T N3 v G) rfl trivial ?_
        refine lm_G_ca (j := 35) (as := [.ref 1, .int 0, .int 30]) (rest := [.int (nI n), .ref 6]) rfl (Or.inl rfl) (Nat.le_of_ble_eq_true rfl) (Nat.le_of_ble_eq_true rfl) (Nat.le_of_ble_eq_true rfl) (Nat.le_of_ble_eq_true rfl) rfl ?_
        refine c_readNumber (p := e3 T p) (lo := 0) (hi := 30) hT u3 l3 (by omega) (by omega) ⟨fun x4 er4 M4 t4 f4 => ?_, fun f4_ er4 M4 b4 f4 => ?_⟩
        rotate_left
        ·
          show lm_G X (d + 3) 36 106 0 0 111 [some (.ref 1), some (.int (b2i w)), some (.int (nI n))] [.int (-1), .int (nI n), .ref 6] (lm_T M4 v G) Q
          refine lm_G_sg 1 (pc' := 112) (L' := [some (.ref 1), some (.int (b2i w)), some (.int (nI n))]) (S' := []) (σ' := lm_T (lm_wr M4 6 ((nI n).toNatClampNeg) (-1)) v G) rfl ⟨(vp_in_nI (by omega) (by omega)), trivial, trivial⟩ ?_
          rw [show (nI n).toNatClampNeg = n from nI_clamp (by omega)]
          refine lm_G_sg 5 (pc' := 121) (L' := [some (.ref 1), some (.int (b2i w)), some (.int (nI n))]) (S' := [.int ((lm_wr M4 6 n (-1)) 6 (nI n).toNatClampNeg)]) (σ' := lm_T (lm_wr M4 6 n (-1)) v G) rfl ⟨(vp_in_nI (by omega) (by omega)), trivial, trivial⟩ ?_
          rw [show (nI n).toNatClampNeg = n from nI_clamp (by omega)]
          show lm_G X (d + 3) 36 106 0 0 121 [some (.ref 1), some (.int (b2i w)), some (.int (nI n))] [.int ((lm_wr M4 6 n (-1)) 6 n)] (lm_T (lm_wr M4 6 n (-1)) v G) Q
          rw [wr_same]
          refine lm_G_sg 1 (pc' := 122) (L' := [some (.ref 1), some (.int (b2i w)), some (.int (nI n))]) (S' := [.int (-1), .int (-1)]) (σ' := lm_T (lm_wr M4 6 n (-1)) v G) rfl trivial ?_
          refine lm_G_br (b := ¬ (-1) = (-1)) (t := 127) (S' := []) rfl (fun hc => absurd rfl hc) (fun hc => ?_)
          refine lm_G_sg 1 (pc' := 126) (L' := [some (.ref 1), some (.int (b2i w)), some (.int (nI n))]) (S' := [.int 0]) (σ' := lm_T (lm_wr M4 6 n (-1)) v G) rfl trivial ?_
          exact lm_G_re rfl (by decide) (Nat.zero_le _) (Nat.zero_le _) (her _ _ (by unfold lnP; rw [ep, nuL_x er2, nuL_x er3, nuL_f er4]; rfl) _ b4 (FrV_wr (FrV_tr v3 f4) rfl (by decide)))
        ·
          show lm_G X (d + 3) 36 106 0 0 111 [some (.ref 1), some (.int (b2i w)), some (.int (nI n))] [.int (nI x4), .int (nI n), .ref 6] (lm_T M4 v G) Q
          obtain ⟨y4, y4b, _⟩ := rdN_b er4
          refine lm_G_sg 1 (pc' := 112) (L' := [some (.ref 1), some (.int (b2i w)), some (.int (nI n))]) (S' := []) (σ' := lm_T (lm_wr M4 6 ((nI n).toNatClampNeg) (nI x4)) v G) rfl ⟨(vp_in_nI (by omega) (by omega)), trivial, trivial⟩ ?_
          rw [show (nI n).toNatClampNeg = n from nI_clamp (by omega)]
          refine lm_G_sg 5 (pc' := 121) (L' := [some (.ref 1), some (.int (b2i w)), some (.int (nI n))]) (S' := [.int ((lm_wr M4 6 n (nI x4)) 6 (nI n).toNatClampNeg)]) (σ' := lm_T (lm_wr M4 6 n (nI x4)) v G) rfl ⟨(vp_in_nI (by omega) (by omega)), trivial, trivial⟩ ?_
          rw [show (nI n).toNatClampNeg = n from nI_clamp (by omega)]
          show lm_G X (d + 3) 36 106 0 0 121 [some (.ref 1), some (.int (b2i w)), some (.int (nI n))] [.int ((lm_wr M4 6 n (nI x4)) 6 n)] (lm_T (lm_wr M4 6 n (nI x4)) v G) Q
          rw [wr_same]
          refine lm_G_sg 1 (pc' := 122) (L' := [some (.ref 1), some (.int (b2i w)), some (.int (nI n))]) (S' := [.int (-1), .int (nI x4)]) (σ' := lm_T (lm_wr M4 6 n (nI x4)) v G) rfl trivial ?_
          refine lm_G_br (b := ¬ (nI x4) = (-1)) (t := 127) (S' := []) rfl (fun hc => ?_) (fun hc => absurd (Classical.not_not.mp hc) (nI_m1 (by omega)))
          have u4 : RT (lm_wr M4 6 n (nI x4)) T (e4 T p) := RT_w t4 (by decide) (by decide)
          have v4 : FrV M (lm_wr M4 6 n (nI x4)) := FrV_wr (FrV_tr v3 (FrV_R f4)) rfl (by decide)
          have w6_ : (lm_wr M4 6 n (nI x4)) 6 = upd (M 6) n (nI x4) := by show upd (M4 6) n (nI x4) = _; rw [FrR_r f4 (by decide), o3 6 (by decide) (by decide) (by decide) (by decide)]
          have k4_8 : (lm_wr M4 6 n (nI x4)) 8 = N3 8 := (wr_row (by decide)).trans (FrR_r f4 (by decide))
          have k4_4 : (lm_wr M4 6 n (nI x4)) 4 = N3 4 := (wr_row (by decide)).trans (FrR_r f4 (by decide))
          have k4_5 : (lm_wr M4 6 n (nI x4)) 5 = N3 5 := (wr_row (by decide)).trans (FrR_r f4 (by decide))
          have o4 : ∀ a, 2 ≤ a → a ≠ 8 → a ≠ 4 → a ≠ 5 → a ≠ 6 → (lm_wr M4 6 n (nI x4)) a = M a := fun a h1 h8 h4 h5 h6 => by rw [wr_row h6]; exact (FrR_r f4 h1).trans (o3 a h1 h8 h4 h5)
          have z4 : ∀ k, k = 4 ∨ k = 11 → (lm_wr M4 6 n (nI x4)) 1 k = M 1 k := fun k hk => (f4.2 k (by omega) (by omega) (by omega) (by omega)).trans (z3 k hk)
          revert u4 v4 w6_ k4_8 k4_4 k4_5 o4 z4
          generalize lm_wr M4 6 n (nI x4) = N4
          intro u4 v4 w6_ k4_8 k4_4 k4_5 o4 z4
          refine lm_G_sg 7 (pc' := 139) (L' := [some (.ref 1), some (.int (b2i w)), some (.int (nI n))]) (S' := [.int 9, .int 0, .ref 1, .int (nI n), .ref 7]) (σ' := lm_T N4 v G) rfl trivial ?_
          refine lm_G_ca (j := 35) (as := [.ref 1, .int 0, .int 9]) (rest := [.int (nI n), .ref 7]) rfl (Or.inl rfl) (Nat.le_of_ble_eq_true rfl) (Nat.le_of_ble_eq_true rfl) (Nat.le_of_ble_eq_true rfl) (Nat.le_of_ble_eq_true rfl) rfl ?_
          refine c_readNumber (p := e4 T p) (lo := 0) (hi := 9) hT u4 l4 (by omega) (by omega) ⟨fun x5 er5 M5 t5 f5 => ?_, fun f5_ er5 M5 b5 f5 => ?_⟩
          rotate_left
          ·
            show lm_G X (d + 3) 36 106 0 0 142 [some (.ref 1), some (.int (b2i w)), some (.int (nI n))] [.int (-1), .int (nI n), .ref 7] (lm_T M5 v G) Q
            refine lm_G_sg 1 (pc' := 143) (L' := [some (.ref 1), some (.int (b2i w)), some (.int (nI n))]) (S' := []) (σ' := lm_T (lm_wr M5 7 ((nI n).toNatClampNeg) (-1)) v G) rfl ⟨(vp_in_nI (by omega) (by omega)), trivial, trivial⟩ ?_
            rw [show (nI n).toNatClampNeg = n from nI_clamp (by omega)]
            refine lm_G_sg 5 (pc' := 152) (L' := [some (.ref 1), some (.int (b2i w)), some (.int (nI n))]) (S' := [.int ((lm_wr M5 7 n (-1)) 7 (nI n).toNatClampNeg)]) (σ' := lm_T (lm_wr M5 7 n (-1)) v G) rfl ⟨(vp_in_nI (by omega) (by omega)), trivial, trivial⟩ ?_
            rw [show (nI n).toNatClampNeg = n from nI_clamp (by omega)]
            show lm_G X (d + 3) 36 106 0 0 152 [some (.ref 1), some (.int (b2i w)), some (.int (nI n))] [.int ((lm_wr M5 7 n (-1)) 7 n)] (lm_T (lm_wr M5 7 n (-1)) v G) Q
            rw [wr_same]
            refine lm_G_sg 1 (pc' := 153) (L' := [some (.ref 1), some (.int (b2i w)), some (.int (nI n))]) (S' := [.int (-1), .int (-1)]) (σ' := lm_T (lm_wr M5 7 n (-1)) v G) rfl trivial ?_
            refine lm_G_br (b := ¬ (-1) = (-1)) (t := 158) (S' := []) rfl (fun hc => absurd rfl hc) (fun hc => ?_)
            refine lm_G_sg 1 (pc' := 157) (L' := [some (.ref 1), some (.int (b2i w)), some (.int (nI n))]) (S' := [.int 0]) (σ' := lm_T (lm_wr M5 7 n (-1)) v G) rfl trivial ?_
            exact lm_G_re rfl (by decide) (Nat.zero_le _) (Nat.zero_le _) (her _ _ (by unfold lnP; rw [ep, nuL_x er2, nuL_x er3, nuL_x er4, nuL_f er5]; rfl) _ b5 (FrV_wr (FrV_tr v4 f5) rfl (by decide)))
          ·
            show lm_G X (d + 3) 36 106 0 0 142 [some (.ref 1), some (.int (b2i w)), some (.int (nI n))] [.int (nI x5), .int (nI n), .ref 7] (lm_T M5 v G) Q
            obtain ⟨y5, y5b, _⟩ := rdN_b er5
            refine lm_G_sg 1 (pc' := 143) (L' := [some (.ref 1), some (.int (b2i w)), some (.int (nI n))]) (S' := []) (σ' := lm_T (lm_wr M5 7 ((nI n).toNatClampNeg) (nI x5)) v G) rfl ⟨(vp_in_nI (by omega) (by omega)), trivial, trivial⟩ ?_
            rw [show (nI n).toNatClampNeg = n from nI_clamp (by omega)]
            refine lm_G_sg 5 (pc' := 152) (L' := [some (.ref 1), some (.int (b2i w)), some (.int (nI n))]) (S' := [.int ((lm_wr M5 7 n (nI x5)) 7 (nI n).toNatClampNeg)]) (σ' := lm_T (lm_wr M5 7 n (nI x5)) v G) rfl ⟨(vp_in_nI (by omega) (by omega)), trivial, trivial⟩ ?_
            rw [show (nI n).toNatClampNeg = n from nI_clamp (by omega)]
            show lm_G X (d + 3) 36 106 0 0 152 [some (.ref 1), some (.int (b2i w)), some (.int (nI n))] [.int ((lm_wr M5 7 n (nI x5)) 7 n)] (lm_T (lm_wr M5 7 n (nI x5)) v G) Q
            rw [wr_same]
            refine lm_G_sg 1 (pc' := 153) (L' := [some (.ref 1), some (.int (b2i w)), some (.int (nI n))]) (S' := [.int (-1), .int (nI x5)]) (σ' := lm_T (lm_wr M5 7 n (nI x5)) v G) rfl trivial ?_
            refine lm_G_br (b := ¬ (nI x5) = (-1)) (t := 158) (S' := []) rfl (fun hc => ?_) (fun hc => absurd (Classical.not_not.mp hc) (nI_m1 (by omega)))
            have u5 : RT (lm_wr M5 7 n (nI x5)) T (e5 T p) := RT_w t5 (by decide) (by decide)
            have v5 : FrV M (lm_wr M5 7 n (nI x5)) := FrV_wr (FrV_tr v4 (FrV_R f5)) rfl (by decide)
            have w7_ : (lm_wr M5 7 n (nI x5)) 7 = upd (M 7) n (nI x5) := by show upd (M5 7) n (nI x5) = _; rw [FrR_r f5 (by decide), o4 7 (by decide) (by decide) (by decide) (by decide) (by decide)]
            have k5_8 : (lm_wr M5 7 n (nI x5)) 8 = N4 8 := (wr_row (by decide)).trans (FrR_r f5 (by decide))
            have k5_4 : (lm_wr M5 7 n (nI x5)) 4 = N4 4 := (wr_row (by decide)).trans (FrR_r f5 (by decide))
            have k5_5 : (lm_wr M5 7 n (nI x5)) 5 = N4 5 := (wr_row (by decide)).trans (FrR_r f5 (by decide))
            have k5_6 : (lm_wr M5 7 n (nI x5)) 6 = N4 6 := (wr_row (by decide)).trans (FrR_r f5 (by decide))
            have o5 : ∀ a, 2 ≤ a → a ≠ 8 → a ≠ 4 → a ≠ 5 → a ≠ 6 → a ≠ 7 → (lm_wr M5 7 n (nI x5)) a = M a := fun a h1 h8 h4 h5 h6 h7 => by rw [wr_row h7]; exact (FrR_r f5 h1).trans (o4 a h1 h8 h4 h5 h6)
            have z5 : ∀ k, k = 4 ∨ k = 11 → (lm_wr M5 7 n (nI x5)) 1 k = M 1 k := fun k hk => (f5.2 k (by omega) (by omega) (by omega) (by omega)).trans (z4 k hk)
            revert u5 v5 w7_ k5_8 k5_4 k5_5 k5_6 o5 z5
            generalize lm_wr M5 7 n (nI x5) = N5
            intro u5 v5 w7_ k5_8 k5_4 k5_5 k5_6 o5 z5
            have h30 : N5 3 0 = nI n := by rw [o5 3 (by decide) (by decide) (by decide) (by decide) (by decide) (by decide), hd.1, en]
            refine lm_G_sg 4 (pc' := 166) (L' := [some (.ref 1), some (.int (b2i w)), some (.int (nI n))]) (S' := [.int (N5 3 0), .ref 3]) (σ' := lm_T N5 v G) rfl trivial ?_
            rw [show N5 3 0 = nI n from h30]
            refine lm_G_sg 2 (pc' := 168) (L' := [some (.ref 1), some (.int (b2i w)), some (.int (nI n))]) (S' := [.int ((nI n) + 1), .ref 3]) (σ' := lm_T N5 v G) rfl trivial ?_
            rw [show (nI n) + 1 = nI (n + 1) from nI_add n 1]
            refine lm_G_sg 3 (pc' := 174) (L' := [some (.ref 1), some (.int (b2i w)), some (.int (nI n))]) (S' := [.int 59, .ref 1]) (σ' := lm_T (lm_wr N5 3 0 (nI (n + 1))) v G) rfl ⟨trivial, trivial, trivial⟩ ?_
            have u6 : RT (lm_wr N5 3 0 (nI (n + 1))) T (e5 T p) := RT_w u5 (by decide) (by decide)
            have v6 : FrV M (lm_wr N5 3 0 (nI (n + 1))) := FrV_wr v5 rfl (by decide)
            have y6 : (lm_wr N5 3 0 (nI (n + 1))) 1 11 = M 1 11 := z5 11 (Or.inr rfl)
            have d6 : DC (lm_wr N5 3 0 (nI (n + 1))) (adP D w x2 x3 x4 x5) K := by
              obtain ⟨q1, q2, q3, q4, q5, q6, q7, q8, q9, q10, q11, q12, q13, q14⟩ := hd
              have r8 : N5 8 = upd (M 8) n (b2i w) := k5_8.trans (k4_8.trans (k3_8.trans (k2_8.trans w8_)))
              have r4 : N5 4 = upd (M 4) n (nI x2) := k5_4.trans (k4_4.trans (k3_4.trans w4_))
              have r5 : N5 5 = upd (M 5) n (nI x3) := k5_5.trans (k4_5.trans w5_)
              have r6 : N5 6 = upd (M 6) n (nI x4) := k5_6.trans w6_
              have r7 : N5 7 = upd (M 7) n (nI x5) := w7_
              have ro : ∀ a, 9 ≤ a → N5 a = M a := fun a ha => o5 a (by omega) (by omega) (by omega) (by omega) (by omega) (by omega)
              have r3 : N5 3 = M 3 := o5 3 (by decide) (by decide) (by decide) (by decide) (by decide) (by decide)
              refine ⟨?_, ?_, ?_, (z5 4 (Or.inl rfl)).trans q4, ?_, ?_, ?_, ?_, ?_, ?_, ?_, ?_, ?_, ?_⟩
              · show nI (n + 1) = nI (dNo D + 1)
                rw [en]
              · show N5 3 6 = _
                rw [r3]; exact q2
              · show N5 3 9 = _
                rw [r3]; exact q3
              · show Ag (dNo D + 1) (N5 4) _
                rw [r4, en]; exact Ag_ad q5 _
              · show Ag (dNo D + 1) (N5 5) _
                rw [r5, en]; exact Ag_ad q6 _
              · show Ag (dNo D + 1) (N5 6) _
                rw [r6, en]; exact Ag_ad q7 _
              · show Ag (dNo D + 1) (N5 7) _
                rw [r7, en]; exact Ag_ad q8 _
              · show Ag (dNo D + 1) (N5 8) _
                rw [r8, en]; exact Ag_ad q9 _
              · show Ag (dM D) (N5 9) _
                rw [ro 9 (by decide)]; exact q10
              · show Ag (dM D) (N5 10) _
                rw [ro 10 (by decide)]; exact q11
              · show N5 3 11 = _ ∧ ∀ i, i < K.length → N5 11 i = _
                rw [r3, ro 11 (by decide)]; exact q12
              · show ∃ a, a + (dR0 D).length ≤ K.length ∧ N5 12 0 = nI a ∧ N5 13 0 = nI (a + (dR0 D).length) ∧ _
                rw [ro 12 (by decide), ro 13 (by decide)]; exact q13
              · show ∃ a, a + (dR1 D).length ≤ K.length ∧ N5 12 1 = nI a ∧ N5 13 1 = nI (a + (dR1 D).length) ∧ _
                rw [ro 12 (by decide), ro 13 (by decide)]; exact q14
            revert u6 v6 y6 d6
            generalize lm_wr N5 3 0 (nI (n + 1)) = N6
            intro u6 v6 y6 d6
            refine lm_G_ca (j := 34) (as := [.ref 1, .int 59]) (rest := []) rfl (Or.inl rfl) (Nat.le_of_ble_eq_true rfl) (Nat.le_of_ble_eq_true rfl) (Nat.le_of_ble_eq_true rfl) (Nat.le_of_ble_eq_true rfl) rfl ?_
            refine c_readSign (c := 59) hT u6 l5 (by omega) ⟨fun s9 M9 t9 f9 => ?_, fun s9 M9 b9 f9 => ?_⟩
            ·
              show lm_G X (d + 3) 36 106 0 0 177 [some (.ref 1), some (.int (b2i w)), some (.int (nI n))] [.int 1] (lm_T M9 v G) Q
              exact lm_G_re rfl (by decide) (Nat.zero_le _) (Nat.zero_le _) (hok _ _ (by unfold lnP; rw [ep, nuL_x er2, nuL_x er3, nuL_x er4, nuL_x er5]; simp only [seL]; rw [if_pos s9]) _ K t9 (DC_R d6 f9) (Nat.le_trans hkl (Nat.le_trans (by omega : p ≤ e5 T p) (Nat.le_trans (st_le l5).1 (en_le l5).1))) (FrV_tr v6 (FrV_R f9)) ((f9.2 11 (by decide) (by decide) (by decide) (by decide)).trans y6))
            ·
              show lm_G X (d + 3) 36 106 0 0 177 [some (.ref 1), some (.int (b2i w)), some (.int (nI n))] [.int 0] (lm_T M9 v G) Q
              exact lm_G_re rfl (by decide) (Nat.zero_le _) (Nat.zero_le _) (her _ _ (by unfold lnP; rw [ep, nuL_x er2, nuL_x er3, nuL_x er4, nuL_x er5]; simp only [seL]; rw [if_neg (by rw [s9]; decide)]) _ b9 (FrV_tr v6 f9))
