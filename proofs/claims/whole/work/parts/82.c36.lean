/-! ===== contracts: the model reads a test, an expression ===== -/
set_option maxRecDepth 10000 in
theorem m_readNot {X : lm_X} {T : Tx} {J : Bool} {h w : Nat} {sub : Nat → PR} (hT : okT T) (hL : okL T sub) (hsub : ∀ d, MQe X T J (d + (h + 2)) 164 [.ref 64, .int (nI w)] sub) : ∀ d, MQe X T J (d + (h + 3)) 165 [.ref 64, .int (nI w)] (tst T sub) := by
  refine fun d => ⟨?_, m_ntB (hsub d).2⟩
  intro M G Q p K hg hp h28 hk hkl hok her
  show lm_G X (d + (h + 3)) 165 106 0 0 0 [some (.ref 64), some (.int (nI w)), none, none] [] (lm_T M (vvJ J) G) Q
  have hn := hT.1
  have kB94 : ∀ (n : Nat) (M9 : Nat → Fn) (e9 : Nat) (a9 : Nat) (n9 : n ≤ 7) (z9 : ¬ M9 64 25 = 0) (b9 : BM M9 e9 a9) (f9 : FrP M M9) (q9 : tst T sub p = .inr (e9, a9)), lm_G X (d + (h + 3)) 165 106 0 0 94 [some (.ref 64), some (.int (nI w)), some (.int (nI n)), none] [] (lm_T M9 (vvJ J) G) Q := by
    intro n M9 e9 a9 n9 z9 b9 f9 q9
    refine lm_G_sg 2 (pc' := 96) (L' := [some (.ref 64), some (.int (nI w)), some (.int (nI n)), some (.int 0)]) (S' := []) (σ' := lm_T M9 (vvJ J) G) rfl trivial ?_
    refine lm_ind (α := Unit) (St := fun (j : Nat) zz => lm_G X (d + (h + 3)) 165 106 0 0 96 [some (.ref 64), some (.int (nI w)), some (.int (nI n)), some (.int (nI j))] [] (lm_T M9 (vvJ J) G) Q) (Inv := fun (j : Nat) zz => True) (n) (fun j zz hjb hIb ihb => ?_) (fun zz hIb => ?_) (0) () (by omega) ?_
    ·
      replace hIb : True := hIb
      replace ihb : ∀ (_ : True), lm_G X (d + (h + 3)) 165 106 0 0 96 [some (.ref 64), some (.int (nI w)), some (.int (nI n)), some (.int (nI (j + 1)))] [] (lm_T M9 (vvJ J) G) Q := fun q => ihb () q
      show lm_G X (d + (h + 3)) 165 106 0 0 96 [some (.ref 64), some (.int (nI w)), some (.int (nI n)), some (.int (nI j))] [] (lm_T M9 (vvJ J) G) Q
      refine lm_G_sg 2 (pc' := 98) (L' := [some (.ref 64), some (.int (nI w)), some (.int (nI n)), some (.int (nI j))]) (S' := [.int (nI n), .int (nI j)]) (σ' := lm_T M9 (vvJ J) G) rfl trivial ?_
      refine lm_G_br (b := (nI n) ≤ (nI j)) (t := 113) (S' := []) rfl (fun hc => absurd hc (nI_ge hjb (by omega))) (fun hc => ?_)
      refine lm_G_sg 2 (pc' := 104) (L' := [some (.ref 64), some (.int (nI w)), some (.int (nI n)), some (.int (nI j))]) (S' := [.int (-28), .ref 64]) (σ' := lm_T M9 (vvJ J) G) rfl trivial ?_
      refine lm_G_ca (j := 161) (as := [.ref 64, .int (-28)]) (rest := []) rfl (Or.inl rfl) (Nat.le_of_ble_eq_true rfl) (Nat.le_of_ble_eq_true rfl) (Nat.le_of_ble_eq_true rfl) (Nat.le_of_ble_eq_true rfl) rfl ?_
      refine m_layB z9 ?_
      show lm_G X (d + (h + 3)) 165 106 0 0 107 [some (.ref 64), some (.int (nI w)), some (.int (nI n)), some (.int (nI j))] [] (lm_T M9 (vvJ J) G) Q
      refine lm_G_sg 1 (pc' := 110) (L' := [some (.ref 64), some (.int (nI w)), some (.int (nI n)), some (.int ((nI j) + 1))]) (S' := []) (σ' := lm_T M9 (vvJ J) G) rfl trivial ?_
      rw [nI_1]
      refine lm_G_sg 1 (pc' := 96) (L' := [some (.ref 64), some (.int (nI w)), some (.int (nI n)), some (.int (nI (j + 1)))]) (S' := []) (σ' := lm_T M9 (vvJ J) G) rfl trivial ?_
      exact ihb  trivial
    ·
      replace hIb : True := hIb
      show lm_G X (d + (h + 3)) 165 106 0 0 96 [some (.ref 64), some (.int (nI w)), some (.int (nI n)), some (.int (nI n))] [] (lm_T M9 (vvJ J) G) Q
      refine lm_G_sg 2 (pc' := 98) (L' := [some (.ref 64), some (.int (nI w)), some (.int (nI n)), some (.int (nI n))]) (S' := [.int (nI n), .int (nI n)]) (σ' := lm_T M9 (vvJ J) G) rfl trivial ?_
      refine lm_G_br (b := (nI n) ≤ (nI n)) (t := 113) (S' := []) rfl (fun hc => ?_) (fun hc => absurd (nI_le (Nat.le_refl _) (by omega)) hc)
      exact lm_G_re rfl trivial (Nat.zero_le _) (Nat.zero_le _) (her _ _ q9 _ b9 z9 f9)
    ·
      trivial
  have kB45 : ∀ (n : Nat) (M9 : Nat → Fn) (e9 : Nat) (a9 : Nat) (n9 : n ≤ 7) (z9 : ¬ M9 64 25 = 0) (b9 : BM M9 e9 a9) (f9 : FrP M M9) (q9 : tst T sub p = .inr (e9, a9)), lm_G X (d + (h + 3)) 165 106 0 0 45 [some (.ref 64), some (.int (nI w)), some (.int (nI n)), none] [] (lm_T M9 (vvJ J) G) Q := by
    intro n M9 e9 a9 n9 z9 b9 f9 q9
    refine lm_G_sg 2 (pc' := 48) (L' := [some (.ref 64), some (.int (nI w)), some (.int (nI n)), none]) (S' := [.int 60, .ref 64]) (σ' := lm_T M9 (vvJ J) G) rfl trivial ?_
    refine lm_G_ca (j := 157) (as := [.ref 64, .int 60]) (rest := []) rfl (Or.inl rfl) (Nat.le_of_ble_eq_true rfl) (Nat.le_of_ble_eq_true rfl) (Nat.le_of_ble_eq_true rfl) (Nat.le_of_ble_eq_true rfl) rfl ?_
    refine m_isMarkedB (c := 60) z9 ?_
    show lm_G X (d + (h + 3)) 165 106 0 0 51 [some (.ref 64), some (.int (nI w)), some (.int (nI n)), none] [.int 0] (lm_T M9 (vvJ J) G) Q
    refine lm_G_br (b := ¬ 0 = 0) (t := 63) (S' := []) rfl (fun hc => absurd rfl hc) (fun hc => ?_)
    refine lm_G_sg 2 (pc' := 57) (L' := [some (.ref 64), some (.int (nI w)), some (.int (nI n)), none]) (S' := [.int 61, .ref 64]) (σ' := lm_T M9 (vvJ J) G) rfl trivial ?_
    refine lm_G_ca (j := 157) (as := [.ref 64, .int 61]) (rest := []) rfl (Or.inl rfl) (Nat.le_of_ble_eq_true rfl) (Nat.le_of_ble_eq_true rfl) (Nat.le_of_ble_eq_true rfl) (Nat.le_of_ble_eq_true rfl) rfl ?_
    refine m_isMarkedB (c := 61) z9 ?_
    show lm_G X (d + (h + 3)) 165 106 0 0 60 [some (.ref 64), some (.int (nI w)), some (.int (nI n)), none] [.int 0] (lm_T M9 (vvJ J) G) Q
    refine lm_G_br (b := 0 = 0) (t := 94) (S' := []) rfl (fun hc => ?_) (fun hc => absurd rfl hc)
    exact kB94 n M9 e9 a9 n9 z9 b9 f9 q9
  have kB2 : ∀ (n : Nat) (M9 : Nat → Fn) (e9 : Nat) (a9 : Nat) (n9 : n ≤ 7) (z9 : ¬ M9 64 25 = 0) (b9 : BM M9 e9 a9) (f9 : FrP M M9) (q9 : tst T sub p = .inr (e9, a9)), lm_G X (d + (h + 3)) 165 106 0 0 2 [some (.ref 64), some (.int (nI w)), some (.int (nI n)), none] [] (lm_T M9 (vvJ J) G) Q := by
    intro n M9 e9 a9 n9 z9 b9 f9 q9
    refine lm_G_sg 2 (pc' := 6) (L' := [some (.ref 64), some (.int (nI w)), some (.int (nI n)), none]) (S' := [.ref 1013, .ref 64]) (σ' := lm_T M9 (vvJ J) G) rfl trivial ?_
    refine lm_G_ca (j := 155) (as := [.ref 64, .ref 1013]) (rest := []) rfl (Or.inl rfl) (Nat.le_of_ble_eq_true rfl) (Nat.le_of_ble_eq_true rfl) (Nat.le_of_ble_eq_true rfl) (Nat.le_of_ble_eq_true rfl) rfl ?_
    refine m_isB13 z9 ?_
    show lm_G X (d + (h + 3)) 165 106 0 0 9 [some (.ref 64), some (.int (nI w)), some (.int (nI n)), none] [.int 0] (lm_T M9 (vvJ J) G) Q
    refine lm_G_br (b := 0 = 0) (t := 40) (S' := []) rfl (fun hc => ?_) (fun hc => absurd rfl hc)
    refine lm_G_sg 2 (pc' := 42) (L' := [some (.ref 64), some (.int (nI w)), some (.int (nI n)), none]) (S' := [.int (nI w), .ref 64]) (σ' := lm_T M9 (vvJ J) G) rfl trivial ?_
    refine lm_G_ca (j := 164) (as := [.ref 64, .int (nI w)]) (rest := []) rfl (Or.inl rfl) (Nat.le_of_ble_eq_true rfl) (Nat.le_of_ble_eq_true rfl) (Nat.le_of_ble_eq_true rfl) (Nat.le_of_ble_eq_true rfl) rfl ?_
    refine (hsub d).2 _ _ _ _ z9 ?_
    show lm_G X (d + (h + 3)) 165 106 0 0 45 [some (.ref 64), some (.int (nI w)), some (.int (nI n)), none] [] (lm_T M9 (vvJ J) G) Q
    exact kB45 n M9 e9 a9 n9 z9 b9 f9 q9
  have k94 : ∀ (nk : Nat) (M3 : Nat → Fn) (u : Nat) (c : Cd) (nk6 : nk ≤ 6) (g3 : GM M3 T u) (l3 : u ≤ tN T) (k3 : MCode M3 J (K ++ c)) (kl3 : (K ++ c).length + nk ≤ u) (F3 : FrJ J M M3) (eR : tst T sub p = .inl (u, c ++ List.replicate nk (2, 6))), lm_G X (d + (h + 3)) 165 106 0 0 94 [some (.ref 64), some (.int (nI w)), some (.int (nI nk)), none] [] (lm_T M3 (vvJ J) G) Q := by
    intro nk M3 u c nk6 g3 l3 k3 kl3 F3 eR
    refine lm_G_sg 2 (pc' := 96) (L' := [some (.ref 64), some (.int (nI w)), some (.int (nI nk)), some (.int 0)]) (S' := []) (σ' := lm_T M3 (vvJ J) G) rfl trivial ?_
    refine lm_ind (α := (Nat → Fn)) (St := fun (j : Nat) zz => (fun (M4 : Nat → Fn) => lm_G X (d + (h + 3)) 165 106 0 0 96 [some (.ref 64), some (.int (nI w)), some (.int (nI nk)), some (.int (nI j))] [] (lm_T M4 (vvJ J) G) Q) zz) (Inv := fun (j : Nat) zz => (fun (M4 : Nat → Fn) => GM M4 T u ∧ MCode M4 J (K ++ c ++ List.replicate j (2, 6)) ∧ FrJ J M M4) zz) (nk) (fun j zz hj4 hI4 ih4 => ?_) (fun zz hI4 => ?_) (0) M3 (by omega) ?_
    ·
      revert ih4 hI4
      revert zz
      intro M4 hI4 ih4
      replace hI4 : GM M4 T u ∧ MCode M4 J (K ++ c ++ List.replicate j (2, 6)) ∧ FrJ J M M4 := hI4
      replace ih4 : ∀ (M4 : Nat → Fn) (_ : GM M4 T u ∧ MCode M4 J (K ++ c ++ List.replicate (j + 1) (2, 6)) ∧ FrJ J M M4), lm_G X (d + (h + 3)) 165 106 0 0 96 [some (.ref 64), some (.int (nI w)), some (.int (nI nk)), some (.int (nI (j + 1)))] [] (lm_T M4 (vvJ J) G) Q := fun M4 q => ih4 M4 q
      show lm_G X (d + (h + 3)) 165 106 0 0 96 [some (.ref 64), some (.int (nI w)), some (.int (nI nk)), some (.int (nI j))] [] (lm_T M4 (vvJ J) G) Q
      obtain ⟨g4, k4, F4⟩ := hI4
      refine lm_G_sg 2 (pc' := 98) (L' := [some (.ref 64), some (.int (nI w)), some (.int (nI nk)), some (.int (nI j))]) (S' := [.int (nI nk), .int (nI j)]) (σ' := lm_T M4 (vvJ J) G) rfl trivial ?_
      refine lm_G_br (b := (nI nk) ≤ (nI j)) (t := 113) (S' := []) rfl (fun hc => absurd hc (nI_ge hj4 (by omega))) (fun hc => ?_)
      refine lm_G_sg 2 (pc' := 104) (L' := [some (.ref 64), some (.int (nI w)), some (.int (nI nk)), some (.int (nI j))]) (S' := [.int (-28), .ref 64]) (σ' := lm_T M4 (vvJ J) G) rfl trivial ?_
      rw [show (-28 : Int32) = encM (2, 6) from by decide]
      refine lm_G_ca (j := 161) (as := [.ref 64, .int (encM (2, 6))]) (rest := []) rfl (Or.inl rfl) (Nat.le_of_ble_eq_true rfl) (Nat.le_of_ble_eq_true rfl) (Nat.le_of_ble_eq_true rfl) (Nat.le_of_ble_eq_true rfl) rfl ?_
      refine m_lay (x := (2, 6)) g4 ((F4.2.1 28 (by decide) (by decide) (by decide) (by decide) (by decide) (by decide) (by decide)).trans h28) k4 (by simp only [List.length_append, List.length_replicate] at kl3 ⊢; omega) (fun M5 g5 k5 f5 => ?_)
      show lm_G X (d + (h + 3)) 165 106 0 0 107 [some (.ref 64), some (.int (nI w)), some (.int (nI nk)), some (.int (nI j))] [] (lm_T M5 (vvJ J) G) Q
      rw [List.append_assoc, ← List.replicate_succ'] at k5
      refine lm_G_sg 1 (pc' := 110) (L' := [some (.ref 64), some (.int (nI w)), some (.int (nI nk)), some (.int ((nI j) + 1))]) (S' := []) (σ' := lm_T M5 (vvJ J) G) rfl trivial ?_
      rw [nI_1]
      refine lm_G_sg 1 (pc' := 96) (L' := [some (.ref 64), some (.int (nI w)), some (.int (nI nk)), some (.int (nI (j + 1)))]) (S' := []) (σ' := lm_T M5 (vvJ J) G) rfl trivial ?_
      exact ih4 _ (⟨g5, k5, FrJ_tr F4 f5⟩)
    ·
      revert hI4
      revert zz
      intro M4 hI4
      replace hI4 : GM M4 T u ∧ MCode M4 J (K ++ c ++ List.replicate nk (2, 6)) ∧ FrJ J M M4 := hI4
      show lm_G X (d + (h + 3)) 165 106 0 0 96 [some (.ref 64), some (.int (nI w)), some (.int (nI nk)), some (.int (nI nk))] [] (lm_T M4 (vvJ J) G) Q
      obtain ⟨g4, k4, F4⟩ := hI4
      refine lm_G_sg 2 (pc' := 98) (L' := [some (.ref 64), some (.int (nI w)), some (.int (nI nk)), some (.int (nI nk))]) (S' := [.int (nI nk), .int (nI nk)]) (σ' := lm_T M4 (vvJ J) G) rfl trivial ?_
      refine lm_G_br (b := (nI nk) ≤ (nI nk)) (t := 113) (S' := []) rfl (fun hc => ?_) (fun hc => absurd (nI_le (Nat.le_refl _) (by omega)) hc)
      exact lm_G_re rfl trivial (Nat.zero_le _) (Nat.zero_le _) (hok _ _ eR _ g4 (by rw [← List.append_assoc]; exact k4) F4)
    ·
      try dsimp only
      exact ⟨g3, by rw [List.replicate_zero, List.append_nil]; exact k3, F3⟩
  have k40a : ∀ (nk : Nat) (M0 : Nat → Fn) (p6 : Nat) (nk6 : nk ≤ 6) (enk : nk = ntN T 6 p) (ep6 : p6 = ntP T 6 p) (hw13 : isWd T p6 w13 = false) (g0 : GM M0 T p6) (f0 : FrK M M0), lm_G X (d + (h + 3)) 165 106 0 0 40 [some (.ref 64), some (.int (nI w)), some (.int (nI nk)), none] [] (lm_T M0 (vvJ J) G) Q := by
    intro nk M0 p6 nk6 enk ep6 hw13 g0 f0
    obtain ⟨n1, n2⟩ := nt_le 6 p hp
    rw [← enk, ← ep6] at n1
    rw [← ep6] at n2
    have etst : tst T sub p = (match lvl T 2 sub p6 with
      | .inl (r, c) => .inl (r, c ++ List.replicate nk (2, 6))
      | .inr e => .inr e) := by unfold tst; rw [← ep6, ← enk, if_neg (by rw [hw13]; decide)]; rfl
    refine lm_G_sg 2 (pc' := 42) (L' := [some (.ref 64), some (.int (nI w)), some (.int (nI nk)), none]) (S' := [.int (nI w), .ref 64]) (σ' := lm_T M0 (vvJ J) G) rfl trivial ?_
    refine lm_G_ca (j := 164) (as := [.ref 64, .int (nI w)]) (rest := []) rfl (Or.inl rfl) (Nat.le_of_ble_eq_true rfl) (Nat.le_of_ble_eq_true rfl) (Nat.le_of_ble_eq_true rfl) (Nat.le_of_ble_eq_true rfl) rfl ?_
    refine (hsub d).1 M0 G _ (p6) (K) g0 n2 ((f0.2 28 (by decide) (by decide) (by decide) (by decide) (by decide)).trans h28) (MC_K hk f0) (by omega) (fun r3 c3 er3 M3 g3 k3 f3 => ?_) (fun e3 a3 er3 M3 b3 z3 f3 => ?_)
    ·
      show lm_G X (d + (h + 3)) 165 106 0 0 45 [some (.ref 64), some (.int (nI w)), some (.int (nI nk)), none] [] (lm_T M3 (vvJ J) G) Q
      obtain ⟨o1, o2, o3⟩ := hL _ _ _ n2 er3
      have F3 := FrJ_tr (FrJ_K f0) f3
      obtain ⟨u, eu⟩ : ∃ q, q = r3 := ⟨_, rfl⟩
      rw [← eu] at o1 o2 o3 er3 g3
      have l3 := o2
      have kl3 : (K ++ c3).length + nk ≤ u := by rw [List.length_append]; omega
      have k80 : ∀ (h9 : ¬ opS T 2 u = 9), lm_G X (d + (h + 3)) 165 106 0 0 80 [some (.ref 64), some (.int (nI w)), some (.int (nI nk)), some (.int (encM (2, opS T 2 u)))] [] (lm_T M3 (vvJ J) G) Q := by
        intro h9
        have hg_ := en_gt l3 (op_kn h9)
        have hl := (en_le l3).2.1
        refine lm_G_sg 1 (pc' := 81) (L' := [some (.ref 64), some (.int (nI w)), some (.int (nI nk)), some (.int (encM (2, opS T 2 u)))]) (S' := [.ref 64]) (σ' := lm_T M3 (vvJ J) G) rfl trivial ?_
        refine lm_G_ca (j := 153) (as := [.ref 64]) (rest := []) rfl (Or.inl rfl) (Nat.le_of_ble_eq_true rfl) (Nat.le_of_ble_eq_true rfl) (Nat.le_of_ble_eq_true rfl) (Nat.le_of_ble_eq_true rfl) rfl ?_
        refine m_stepOn (p := enS T u) hT g3.1.1 hl g3.1.2.2.2.2.1 (fun M4 r4 f4 => ?_)
        show lm_G X (d + (h + 3)) 165 106 0 0 84 [some (.ref 64), some (.int (nI w)), some (.int (nI nk)), some (.int (encM (2, opS T 2 u)))] [] (lm_T M4 (vvJ J) G) Q
        have g4 : GM M4 T (enS T u) := ⟨r4, (f4.2 25 (by decide) (by decide) (by decide) (by decide) (by decide)).trans g3.2⟩
        have k4 := MC_K k3 f4
        have F4 := FrJ_tr F3 (FrJ_K f4)
        have h284 : M4 64 28 = b2i J := ((F4.2.1 28 (by decide) (by decide) (by decide) (by decide) (by decide) (by decide) (by decide)).trans h28)
        refine lm_G_sg 2 (pc' := 86) (L' := [some (.ref 64), some (.int (nI w)), some (.int (nI nk)), some (.int (encM (2, opS T 2 u)))]) (S' := [.int (nI w), .ref 64]) (σ' := lm_T M4 (vvJ J) G) rfl trivial ?_
        refine lm_G_ca (j := 164) (as := [.ref 64, .int (nI w)]) (rest := []) rfl (Or.inl rfl) (Nat.le_of_ble_eq_true rfl) (Nat.le_of_ble_eq_true rfl) (Nat.le_of_ble_eq_true rfl) (Nat.le_of_ble_eq_true rfl) rfl ?_
        refine (hsub d).1 M4 G _ (enS T u) (K ++ c3) g4 hl h284 k4 (by omega) (fun r6 c6 er6 M6 g6 k6 f6 => ?_) (fun e6 a6 er6 M6 b6 z6 f6 => ?_)
        ·
          show lm_G X (d + (h + 3)) 165 106 0 0 89 [some (.ref 64), some (.int (nI w)), some (.int (nI nk)), some (.int (encM (2, opS T 2 u)))] [] (lm_T M6 (vvJ J) G) Q
          obtain ⟨p1, p2, p3⟩ := hL _ _ _ hl er6
          have F6 := FrJ_tr F4 f6
          have h286 : M6 64 28 = b2i J := ((F6.2.1 28 (by decide) (by decide) (by decide) (by decide) (by decide) (by decide) (by decide)).trans h28)
          refine lm_G_sg 2 (pc' := 91) (L' := [some (.ref 64), some (.int (nI w)), some (.int (nI nk)), some (.int (encM (2, opS T 2 u)))]) (S' := [.int (encM (2, opS T 2 u)), .ref 64]) (σ' := lm_T M6 (vvJ J) G) rfl trivial ?_
          refine lm_G_ca (j := 161) (as := [.ref 64, .int (encM (2, opS T 2 u))]) (rest := []) rfl (Or.inl rfl) (Nat.le_of_ble_eq_true rfl) (Nat.le_of_ble_eq_true rfl) (Nat.le_of_ble_eq_true rfl) (Nat.le_of_ble_eq_true rfl) rfl ?_
          refine m_lay (x := (2, opS T 2 u)) g6 h286 k6 (by simp only [List.length_append] at kl3 ⊢; omega) (fun M7 g7 k7 f7 => ?_)
          show lm_G X (d + (h + 3)) 165 106 0 0 94 [some (.ref 64), some (.int (nI w)), some (.int (nI nk)), some (.int (encM (2, opS T 2 u)))] [] (lm_T M7 (vvJ J) G) Q
          rw [List.append_assoc, List.append_assoc, ← List.append_assoc c3] at k7
          refine lm_G_jk (L := [some (.ref 64), some (.int (nI w)), some (.int (nI nk)), none]) ⟨rfl, rfl, rfl, trivial⟩ ?_
          exact k94 nk M7 r6 _ nk6 g7 p2 k7 (by simp only [List.length_append, List.length_cons, List.length_nil] at kl3 ⊢; omega) (FrJ_tr F6 f7) (by rw [etst, lvl_i er3, if_pos rfl, chn_i (f := 0) h9 er6]; rfl)
        ·
          show lm_G X (d + (h + 3)) 165 106 0 0 89 [some (.ref 64), some (.int (nI w)), some (.int (nI nk)), some (.int (encM (2, opS T 2 u)))] [] (lm_T M6 (vvJ J) G) Q
          refine lm_G_sg 2 (pc' := 91) (L' := [some (.ref 64), some (.int (nI w)), some (.int (nI nk)), some (.int (encM (2, opS T 2 u)))]) (S' := [.int (encM (2, opS T 2 u)), .ref 64]) (σ' := lm_T M6 (vvJ J) G) rfl trivial ?_
          refine lm_G_ca (j := 161) (as := [.ref 64, .int (encM (2, opS T 2 u))]) (rest := []) rfl (Or.inl rfl) (Nat.le_of_ble_eq_true rfl) (Nat.le_of_ble_eq_true rfl) (Nat.le_of_ble_eq_true rfl) (Nat.le_of_ble_eq_true rfl) rfl ?_
          refine m_layB z6 ?_
          show lm_G X (d + (h + 3)) 165 106 0 0 94 [some (.ref 64), some (.int (nI w)), some (.int (nI nk)), some (.int (encM (2, opS T 2 u)))] [] (lm_T M6 (vvJ J) G) Q
          refine lm_G_jk (L := [some (.ref 64), some (.int (nI w)), some (.int (nI nk)), none]) ⟨rfl, rfl, rfl, trivial⟩ ?_
          exact kB94 nk _ _ _ (by omega) z6 b6 (FrP_tr (FrP_J F4) f6) (by rw [etst, lvl_i er3, if_pos rfl, chn_r (f := 0) h9 er6])
      refine lm_G_sg 2 (pc' := 48) (L' := [some (.ref 64), some (.int (nI w)), some (.int (nI nk)), none]) (S' := [.int 60, .ref 64]) (σ' := lm_T M3 (vvJ J) G) rfl trivial ?_
      refine lm_G_ca (j := 157) (as := [.ref 64, .int 60]) (rest := []) rfl (Or.inl rfl) (Nat.le_of_ble_eq_true rfl) (Nat.le_of_ble_eq_true rfl) (Nat.le_of_ble_eq_true rfl) (Nat.le_of_ble_eq_true rfl) rfl ?_
      refine m_isMarked (c := 60) hT l3 g3 (by decide) (by omega) ?_
      show lm_G X (d + (h + 3)) 165 106 0 0 51 [some (.ref 64), some (.int (nI w)), some (.int (nI nk)), none] [.int (b2i (isSg T u 60))] (lm_T M3 (vvJ J) G) Q
      refine lm_G_br (b := ¬ (b2i (isSg T u 60)) = 0) (t := 63) (S' := []) rfl (fun s1 => ?_) (fun s1 => ?_)
      ·
        refine lm_G_sg 2 (pc' := 66) (L' := [some (.ref 64), some (.int (nI w)), some (.int (nI nk)), none]) (S' := [.int 60, .ref 64]) (σ' := lm_T M3 (vvJ J) G) rfl trivial ?_
        refine lm_G_ca (j := 157) (as := [.ref 64, .int 60]) (rest := []) rfl (Or.inl rfl) (Nat.le_of_ble_eq_true rfl) (Nat.le_of_ble_eq_true rfl) (Nat.le_of_ble_eq_true rfl) (Nat.le_of_ble_eq_true rfl) rfl ?_
        refine m_isMarked (c := 60) hT l3 g3 (by decide) (by omega) ?_
        show lm_G X (d + (h + 3)) 165 106 0 0 69 [some (.ref 64), some (.int (nI w)), some (.int (nI nk)), none] [.int (b2i (isSg T u 60))] (lm_T M3 (vvJ J) G) Q
        refine lm_G_br (b := (b2i (isSg T u 60)) = 0) (t := 77) (S' := []) rfl (fun hc => absurd hc (by rw [b2i_1 s1]; decide)) (fun hc => ?_)
        have eo : opS T 2 u = 4 := by simp [opS, b2i_1 s1]
        refine lm_G_sg 3 (pc' := 80) (L' := [some (.ref 64), some (.int (nI w)), some (.int (nI nk)), some (.int (-24))]) (S' := []) (σ' := lm_T M3 (vvJ J) G) rfl trivial ?_
        have k_ := k80 (by rw [eo]; decide)
        rw [show encM (2, opS T 2 u) = -24 from by rw [eo]; decide] at k_
        exact k_ 
      ·
        refine lm_G_sg 2 (pc' := 57) (L' := [some (.ref 64), some (.int (nI w)), some (.int (nI nk)), none]) (S' := [.int 61, .ref 64]) (σ' := lm_T M3 (vvJ J) G) rfl trivial ?_
        refine lm_G_ca (j := 157) (as := [.ref 64, .int 61]) (rest := []) rfl (Or.inl rfl) (Nat.le_of_ble_eq_true rfl) (Nat.le_of_ble_eq_true rfl) (Nat.le_of_ble_eq_true rfl) (Nat.le_of_ble_eq_true rfl) rfl ?_
        refine m_isMarked (c := 61) hT l3 g3 (by decide) (by omega) ?_
        show lm_G X (d + (h + 3)) 165 106 0 0 60 [some (.ref 64), some (.int (nI w)), some (.int (nI nk)), none] [.int (b2i (isSg T u 61))] (lm_T M3 (vvJ J) G) Q
        refine lm_G_br (b := (b2i (isSg T u 61)) = 0) (t := 94) (S' := []) rfl (fun s2 => ?_) (fun s2 => ?_)
        rotate_left
        ·
          refine lm_G_sg 2 (pc' := 66) (L' := [some (.ref 64), some (.int (nI w)), some (.int (nI nk)), none]) (S' := [.int 60, .ref 64]) (σ' := lm_T M3 (vvJ J) G) rfl trivial ?_
          refine lm_G_ca (j := 157) (as := [.ref 64, .int 60]) (rest := []) rfl (Or.inl rfl) (Nat.le_of_ble_eq_true rfl) (Nat.le_of_ble_eq_true rfl) (Nat.le_of_ble_eq_true rfl) (Nat.le_of_ble_eq_true rfl) rfl ?_
          refine m_isMarked (c := 60) hT l3 g3 (by decide) (by omega) ?_
          show lm_G X (d + (h + 3)) 165 106 0 0 69 [some (.ref 64), some (.int (nI w)), some (.int (nI nk)), none] [.int (b2i (isSg T u 60))] (lm_T M3 (vvJ J) G) Q
          refine lm_G_br (b := (b2i (isSg T u 60)) = 0) (t := 77) (S' := []) rfl (fun hc => ?_) (fun hc => absurd (by rw [b2i_0 (Classical.not_not.mp s1)]; rfl) hc)
          have eo : opS T 2 u = 5 := by simp [opS, b2i_0 (Classical.not_not.mp s1), b2i_1 s2]
          refine lm_G_sg 2 (pc' := 80) (L' := [some (.ref 64), some (.int (nI w)), some (.int (nI nk)), some (.int (-25))]) (S' := []) (σ' := lm_T M3 (vvJ J) G) rfl trivial ?_
          have k_ := k80 (by rw [eo]; decide)
          rw [show encM (2, opS T 2 u) = -25 from by rw [eo]; decide] at k_
          exact k_ 
        ·
          have h9 : opS T 2 u = 9 := by simp [opS, b2i_0 (Classical.not_not.mp s1), b2i_0 s2]
          exact k94 nk M3 u c3 nk6 g3 l3 k3 kl3 F3 (by rw [etst, lvl_i er3, if_pos rfl, chn_9 h9])
    ·
      show lm_G X (d + (h + 3)) 165 106 0 0 45 [some (.ref 64), some (.int (nI w)), some (.int (nI nk)), none] [] (lm_T M3 (vvJ J) G) Q
      exact kB45 nk _ _ _ (by omega) z3 b3 (FrP_tr (FrP_K f0) f3) (by rw [etst, lvl_r er3])
  refine lm_G_sg 2 (pc' := 2) (L' := [some (.ref 64), some (.int (nI w)), some (.int 0), none]) (S' := []) (σ' := lm_T M (vvJ J) G) rfl trivial ?_
  refine lm_ind (α := (Nat → Fn)) (St := fun (j : Nat) zz => (fun (M1 : Nat → Fn) => lm_G X (d + (h + 3)) 165 106 0 0 2 [some (.ref 64), some (.int (nI w)), some (.int (nI j)), none] [] (lm_T M1 (vvJ J) G) Q) zz) (Inv := fun (j : Nat) zz => (fun (M1 : Nat → Fn) => GM M1 T (ntP T j p) ∧ (ntP T j p) ≤ tN T ∧ FrK M M1 ∧ (∀ i, i < j → isWd T (ntP T i p) w13 = true)) zz) (6) (fun j zz hj hI ih => ?_) (fun zz hI => ?_) (0) M (by omega) ?_
  ·
    revert ih hI
    revert zz
    intro M1 hI ih
    replace hI : GM M1 T (ntP T j p) ∧ (ntP T j p) ≤ tN T ∧ FrK M M1 ∧ (∀ i, i < j → isWd T (ntP T i p) w13 = true) := hI
    replace ih : ∀ (M1 : Nat → Fn) (_ : GM M1 T (ntP T (j + 1) p) ∧ (ntP T (j + 1) p) ≤ tN T ∧ FrK M M1 ∧ (∀ i, i < (j + 1) → isWd T (ntP T i p) w13 = true)), lm_G X (d + (h + 3)) 165 106 0 0 2 [some (.ref 64), some (.int (nI w)), some (.int (nI (j + 1))), none] [] (lm_T M1 (vvJ J) G) Q := fun M1 q => ih M1 q
    show lm_G X (d + (h + 3)) 165 106 0 0 2 [some (.ref 64), some (.int (nI w)), some (.int (nI j)), none] [] (lm_T M1 (vvJ J) G) Q
    obtain ⟨g1, l1, f1, y1⟩ := hI
    refine lm_G_sg 2 (pc' := 6) (L' := [some (.ref 64), some (.int (nI w)), some (.int (nI j)), none]) (S' := [.ref 1013, .ref 64]) (σ' := lm_T M1 (vvJ J) G) rfl trivial ?_
    refine lm_G_ca (j := 155) (as := [.ref 64, .ref 1013]) (rest := []) rfl (Or.inl rfl) (Nat.le_of_ble_eq_true rfl) (Nat.le_of_ble_eq_true rfl) (Nat.le_of_ble_eq_true rfl) (Nat.le_of_ble_eq_true rfl) rfl ?_
    refine m_is13 hT l1 g1 ?_
    show lm_G X (d + (h + 3)) 165 106 0 0 9 [some (.ref 64), some (.int (nI w)), some (.int (nI j)), none] [.int (b2i (isWd T (ntP T j p) w13))] (lm_T M1 (vvJ J) G) Q
    refine lm_G_br (b := (b2i (isWd T (ntP T j p) w13)) = 0) (t := 40) (S' := []) rfl (fun s1 => ?_) (fun s1 => ?_)
    ·
      have hs := nt_s j p (b2i_0 s1) (6 - j)
      rw [show j + (6 - j) = 6 by omega, nt_n j y1] at hs
      exact k40a j M1 _ (by omega) hs.2.symm hs.1.symm (b2i_0 s1) g1 f1
    ·
      refine lm_G_sg 2 (pc' := 15) (L' := [some (.ref 64), some (.int (nI w)), some (.int (nI j)), none]) (S' := [.int 6, .int (nI j)]) (σ' := lm_T M1 (vvJ J) G) rfl trivial ?_
      refine lm_G_br (b := ¬ (nI j) = 6) (t := 23) (S' := []) rfl (fun hc => ?_) (fun hc => absurd ((nI_eq (b := 6) (by omega) (by omega)).mp (Classical.not_not.mp hc)) (by omega))
      refine lm_G_sg 1 (pc' := 26) (L' := [some (.ref 64), some (.int (nI w)), some (.int ((nI j) + 1)), none]) (S' := []) (σ' := lm_T M1 (vvJ J) G) rfl trivial ?_
      rw [nI_1]
      refine lm_G_sg 2 (pc' := 30) (L' := [some (.ref 64), some (.int (nI w)), some (.int (nI (j + 1))), none]) (S' := [.int (M1 64 25)]) (σ' := lm_T M1 (vvJ J) G) rfl trivial ?_
      rw [show M1 64 25 = 0 from g1.2]
      refine lm_G_br (b := ¬ 0 = 0) (t := 2) (S' := []) rfl (fun hc => absurd rfl hc) (fun hc => ?_)
      have y2 : ∀ i, i < j + 1 → isWd T (ntP T i p) w13 = true := fun i hi => by
        by_cases e : i = j
        · rw [e]; exact b2i_1 s1
        · exact y1 i (by omega)
      refine lm_G_sg 1 (pc' := 34) (L' := [some (.ref 64), some (.int (nI w)), some (.int (nI (j + 1))), none]) (S' := [.ref 64]) (σ' := lm_T M1 (vvJ J) G) rfl trivial ?_
      refine lm_G_ca (j := 153) (as := [.ref 64]) (rest := []) rfl (Or.inl rfl) (Nat.le_of_ble_eq_true rfl) (Nat.le_of_ble_eq_true rfl) (Nat.le_of_ble_eq_true rfl) (Nat.le_of_ble_eq_true rfl) rfl ?_
      refine m_stepOn (p := enS T (ntP T j p)) hT g1.1.1 (en_le l1).2.1 g1.1.2.2.2.2.1 (fun M2 r2 f2 => ?_)
      show lm_G X (d + (h + 3)) 165 106 0 0 37 [some (.ref 64), some (.int (nI w)), some (.int (nI (j + 1))), none] [] (lm_T M2 (vvJ J) G) Q
      refine lm_G_sg 1 (pc' := 2) (L' := [some (.ref 64), some (.int (nI w)), some (.int (nI (j + 1))), none]) (S' := []) (σ' := lm_T M2 (vvJ J) G) rfl trivial ?_
      exact ih _ (by rw [nt_p y2]; exact ⟨⟨r2, (f2.2 25 (by decide) (by decide) (by decide) (by decide) (by decide)).trans g1.2⟩, (en_le l1).2.1, FrK_tr f1 f2, y2⟩)
  ·
    revert hI
    revert zz
    intro M1 hI
    replace hI : GM M1 T (ntP T 6 p) ∧ (ntP T 6 p) ≤ tN T ∧ FrK M M1 ∧ (∀ i, i < 6 → isWd T (ntP T i p) w13 = true) := hI
    show lm_G X (d + (h + 3)) 165 106 0 0 2 [some (.ref 64), some (.int (nI w)), some (.int (nI 6)), none] [] (lm_T M1 (vvJ J) G) Q
    obtain ⟨g1, l1, f1, y1⟩ := hI
    refine lm_G_sg 2 (pc' := 6) (L' := [some (.ref 64), some (.int (nI w)), some (.int (nI 6)), none]) (S' := [.ref 1013, .ref 64]) (σ' := lm_T M1 (vvJ J) G) rfl trivial ?_
    refine lm_G_ca (j := 155) (as := [.ref 64, .ref 1013]) (rest := []) rfl (Or.inl rfl) (Nat.le_of_ble_eq_true rfl) (Nat.le_of_ble_eq_true rfl) (Nat.le_of_ble_eq_true rfl) (Nat.le_of_ble_eq_true rfl) rfl ?_
    refine m_is13 hT l1 g1 ?_
    show lm_G X (d + (h + 3)) 165 106 0 0 9 [some (.ref 64), some (.int (nI w)), some (.int (nI 6)), none] [.int (b2i (isWd T (ntP T 6 p) w13))] (lm_T M1 (vvJ J) G) Q
    refine lm_G_br (b := (b2i (isWd T (ntP T 6 p) w13)) = 0) (t := 40) (S' := []) rfl (fun s1 => ?_) (fun s1 => ?_)
    ·
      exact k40a 6 M1 _ (by omega) (nt_n 6 y1).symm rfl (b2i_0 s1) g1 f1
    ·
      refine lm_G_sg 2 (pc' := 15) (L' := [some (.ref 64), some (.int (nI w)), some (.int (nI 6)), none]) (S' := [.int 6, .int (nI 6)]) (σ' := lm_T M1 (vvJ J) G) rfl trivial ?_
      refine lm_G_br (b := ¬ (nI 6) = 6) (t := 23) (S' := []) rfl (fun hc => absurd rfl hc) (fun hc => ?_)
      refine lm_G_sg 2 (pc' := 20) (L' := [some (.ref 64), some (.int (nI w)), some (.int (nI 6)), none]) (S' := [.int 2, .ref 64]) (σ' := lm_T M1 (vvJ J) G) rfl trivial ?_
      refine lm_G_ca (j := 154) (as := [.ref 64, .int 2]) (rest := []) rfl (Or.inl rfl) (Nat.le_of_ble_eq_true rfl) (Nat.le_of_ble_eq_true rfl) (Nat.le_of_ble_eq_true rfl) (Nat.le_of_ble_eq_true rfl) rfl ?_
      refine m_wrong g1.2 ?_
      show lm_G X (d + (h + 3)) 165 106 0 0 23 [some (.ref 64), some (.int (nI w)), some (.int (nI 6)), none] [] (lm_T (lm_wr (lm_wr M1 64 25 2) 64 26 (M1 64 23)) (vvJ J) G) Q
      have z1 : ¬ (lm_wr (lm_wr M1 64 25 2) 64 26 (M1 64 23)) 64 25 = 0 := wr_nz (by decide)
      refine lm_G_sg 1 (pc' := 26) (L' := [some (.ref 64), some (.int (nI w)), some (.int ((nI 6) + 1)), none]) (S' := []) (σ' := lm_T (lm_wr (lm_wr M1 64 25 2) 64 26 (M1 64 23)) (vvJ J) G) rfl trivial ?_
      rw [nI_1]
      refine lm_G_sg 2 (pc' := 30) (L' := [some (.ref 64), some (.int (nI w)), some (.int (nI (6 + 1))), none]) (S' := [.int 2]) (σ' := lm_T (lm_wr (lm_wr M1 64 25 2) 64 26 (M1 64 23)) (vvJ J) G) rfl trivial ?_
      refine lm_G_br (b := ¬ 2 = 0) (t := 2) (S' := []) rfl (fun hc => ?_) (fun hc => absurd (Classical.not_not.mp hc) z1)
      exact kB2 (6 + 1) _ 2 _ (by omega) z1 ⟨rfl, g1.1.2.2.1⟩ (FrP_w64 (FrP_w64 (FrP_K f1) (by decide)) (by decide)) (by unfold tst; rw [if_pos (b2i_1 s1)])
  ·
    try dsimp only
    exact ⟨hg, hp, FrK_rf _, fun i hi => absurd hi (Nat.not_lt_zero i)⟩
