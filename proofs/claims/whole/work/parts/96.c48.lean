/-! ===== contracts: the law's own methods ===== -/
set_option maxRecDepth 10000 in
theorem w_hills {X : lm_X} {d v : Nat} {M : Nat → Nat → Int32} {G : Nat → Nat → Int64} {Q : lm_O → lm_S → Prop} {x0 : Int32} {a : An} {P : (Nat → Fn) → Prop} (hn : a ≠ .inr true) (hX : ∀ Q' : lm_O → lm_S → Prop, (∀ M1, P M1 → Q' (cO1 a) (lm_T M1 v G)) → lm_Q X d 87 [.ref 0, .int x0] (lm_T M v G) Q') (hQ : ∀ M1, P M1 → Q (.inl (some (.int (cd a)))) (lm_T M1 v (gO a G))) : lm_Q X (d + 1) 245 [.ref 0, .int x0, .ref 105] (lm_T M v G) Q := by
  show lm_G X (d + 1) 245 106 0 0 0 [some (.ref 0), some (.int x0), some (.ref 105), none] [] (lm_T M v G) Q
  refine lm_G_sg 4 (pc' := 4) (L' := [some (.ref 0), some (.int x0), some (.ref 105), none]) (S' := [.int x0, .ref 0, .int 0, .ref 105]) (σ' := lm_T M v G) rfl trivial ?_
  refine lm_G_ca (j := 87) (as := [.ref 0, .int x0]) (rest := [.int 0, .ref 105]) rfl (Or.inl rfl) (Nat.le_of_ble_eq_true rfl) (Nat.le_of_ble_eq_true rfl) (Nat.le_of_ble_eq_true rfl) (Nat.le_of_ble_eq_true rfl) rfl ?_
  refine hX _ (fun M1 h1 => ?_)
  cases a with
  | inl y =>
    show lm_G X (d + 1) 245 106 1 6 7 [some (.ref 0), some (.int x0), some (.ref 105), none] [.int y, .int 0, .ref 105] (lm_T M1 v G) Q
    refine lm_G_sg 4 (pc' := 16) (L' := [some (.ref 0), some (.int x0), some (.ref 105), none]) (S' := [.int 0]) (σ' := lm_T M1 v (lm_wg G 105 0 y.toInt64)) rfl ⟨(lm_inb_ok rfl), trivial, trivial⟩ ?_
    exact lm_G_re rfl trivial (Nat.le_of_ble_eq_true rfl) (Nat.le_of_ble_eq_true rfl) (hQ M1 h1)
  | inr b =>
    cases b with
    | false =>
      refine ⟨by decide, ?_⟩
      show lm_nl [some (.ref 0), some (.int x0), some (.ref 105), none] 3 = true ∧ 3 < 4 ∧ lm_G X (d + 1) 245 106 1 6 13 [some (.ref 0), some (.int x0), some (.ref 105), none] [] (lm_T M1 v G) Q
      refine ⟨rfl, by decide, ?_⟩
      refine lm_G_sg 1 (pc' := 14) (L' := [some (.ref 0), some (.int x0), some (.ref 105), none]) (S' := [.int 1]) (σ' := lm_T M1 v G) rfl trivial ?_
      exact lm_G_re rfl trivial (Nat.le_of_ble_eq_true rfl) (Nat.le_of_ble_eq_true rfl) (hQ M1 h1)
    | true =>
      exact absurd rfl hn
set_option maxRecDepth 10000 in
theorem w_count {X : lm_X} {d v : Nat} {M : Nat → Nat → Int32} {G : Nat → Nat → Int64} {Q : lm_O → lm_S → Prop} {x0 : Int32} {a : An} {P : (Nat → Fn) → Prop} (hn : a ≠ .inr true) (hX : ∀ Q' : lm_O → lm_S → Prop, (∀ M1, P M1 → Q' (cO a) (lm_T M1 v G)) → lm_Q X d 89 [.ref 0, .int x0] (lm_T M v G) Q') (hQ : ∀ M1, P M1 → Q (.inl (some (.int (cd a)))) (lm_T M1 v (gO a G))) : lm_Q X (d + 1) 246 [.ref 0, .int x0, .ref 105] (lm_T M v G) Q := by
  show lm_G X (d + 1) 246 106 0 0 0 [some (.ref 0), some (.int x0), some (.ref 105), none] [] (lm_T M v G) Q
  refine lm_G_sg 4 (pc' := 4) (L' := [some (.ref 0), some (.int x0), some (.ref 105), none]) (S' := [.int x0, .ref 0, .int 0, .ref 105]) (σ' := lm_T M v G) rfl trivial ?_
  refine lm_G_ca (j := 89) (as := [.ref 0, .int x0]) (rest := [.int 0, .ref 105]) rfl (Or.inl rfl) (Nat.le_of_ble_eq_true rfl) (Nat.le_of_ble_eq_true rfl) (Nat.le_of_ble_eq_true rfl) (Nat.le_of_ble_eq_true rfl) rfl ?_
  refine hX _ (fun M1 h1 => ?_)
  cases a with
  | inl y =>
    show lm_G X (d + 1) 246 106 1 6 7 [some (.ref 0), some (.int x0), some (.ref 105), none] [.int y, .int 0, .ref 105] (lm_T M1 v G) Q
    refine lm_G_sg 4 (pc' := 16) (L' := [some (.ref 0), some (.int x0), some (.ref 105), none]) (S' := [.int 0]) (σ' := lm_T M1 v (lm_wg G 105 0 y.toInt64)) rfl ⟨(lm_inb_ok rfl), trivial, trivial⟩ ?_
    exact lm_G_re rfl trivial (Nat.le_of_ble_eq_true rfl) (Nat.le_of_ble_eq_true rfl) (hQ M1 h1)
  | inr b =>
    cases b with
    | false =>
      refine ⟨by decide, ?_⟩
      show lm_nl [some (.ref 0), some (.int x0), some (.ref 105), none] 3 = true ∧ 3 < 4 ∧ lm_G X (d + 1) 246 106 1 6 13 [some (.ref 0), some (.int x0), some (.ref 105), none] [] (lm_T M1 v G) Q
      refine ⟨rfl, by decide, ?_⟩
      refine lm_G_sg 1 (pc' := 14) (L' := [some (.ref 0), some (.int x0), some (.ref 105), none]) (S' := [.int 1]) (σ' := lm_T M1 v G) rfl trivial ?_
      exact lm_G_re rfl trivial (Nat.le_of_ble_eq_true rfl) (Nat.le_of_ble_eq_true rfl) (hQ M1 h1)
    | true =>
      exact absurd rfl hn
set_option maxRecDepth 10000 in
theorem w_person {X : lm_X} {d v : Nat} {M : Nat → Nat → Int32} {G : Nat → Nat → Int64} {Q : lm_O → lm_S → Prop} {x0 x1 : Int32} {a : An} {P : (Nat → Fn) → Prop} (hn : a ≠ .inr true) (hX : ∀ Q' : lm_O → lm_S → Prop, (∀ M1, P M1 → Q' (cO a) (lm_T M1 v G)) → lm_Q X d 90 [.ref 0, .int x0, .int x1] (lm_T M v G) Q') (hQ : ∀ M1, P M1 → Q (.inl (some (.int (cd a)))) (lm_T M1 v (gO a G))) : lm_Q X (d + 1) 247 [.ref 0, .int x0, .int x1, .ref 105] (lm_T M v G) Q := by
  show lm_G X (d + 1) 247 106 0 0 0 [some (.ref 0), some (.int x0), some (.int x1), some (.ref 105), none] [] (lm_T M v G) Q
  refine lm_G_sg 5 (pc' := 5) (L' := [some (.ref 0), some (.int x0), some (.int x1), some (.ref 105), none]) (S' := [.int x1, .int x0, .ref 0, .int 0, .ref 105]) (σ' := lm_T M v G) rfl trivial ?_
  refine lm_G_ca (j := 90) (as := [.ref 0, .int x0, .int x1]) (rest := [.int 0, .ref 105]) rfl (Or.inl rfl) (Nat.le_of_ble_eq_true rfl) (Nat.le_of_ble_eq_true rfl) (Nat.le_of_ble_eq_true rfl) (Nat.le_of_ble_eq_true rfl) rfl ?_
  refine hX _ (fun M1 h1 => ?_)
  cases a with
  | inl y =>
    show lm_G X (d + 1) 247 106 1 6 8 [some (.ref 0), some (.int x0), some (.int x1), some (.ref 105), none] [.int y, .int 0, .ref 105] (lm_T M1 v G) Q
    refine lm_G_sg 4 (pc' := 18) (L' := [some (.ref 0), some (.int x0), some (.int x1), some (.ref 105), none]) (S' := [.int 0]) (σ' := lm_T M1 v (lm_wg G 105 0 y.toInt64)) rfl ⟨(lm_inb_ok rfl), trivial, trivial⟩ ?_
    exact lm_G_re rfl trivial (Nat.le_of_ble_eq_true rfl) (Nat.le_of_ble_eq_true rfl) (hQ M1 h1)
  | inr b =>
    cases b with
    | false =>
      refine ⟨by decide, ?_⟩
      show lm_nl [some (.ref 0), some (.int x0), some (.int x1), some (.ref 105), none] 4 = true ∧ 4 < 5 ∧ lm_G X (d + 1) 247 106 1 6 15 [some (.ref 0), some (.int x0), some (.int x1), some (.ref 105), none] [] (lm_T M1 v G) Q
      refine ⟨rfl, by decide, ?_⟩
      refine lm_G_sg 1 (pc' := 16) (L' := [some (.ref 0), some (.int x0), some (.int x1), some (.ref 105), none]) (S' := [.int 1]) (σ' := lm_T M1 v G) rfl trivial ?_
      exact lm_G_re rfl trivial (Nat.le_of_ble_eq_true rfl) (Nat.le_of_ble_eq_true rfl) (hQ M1 h1)
    | true =>
      exact absurd rfl hn
set_option maxRecDepth 10000 in
theorem w_tune {X : lm_X} {d v : Nat} {M : Nat → Nat → Int32} {G : Nat → Nat → Int64} {Q : lm_O → lm_S → Prop} {x0 x1 : Int32} {a : An} {P : (Nat → Fn) → Prop} (hn : a ≠ .inr true) (hX : ∀ Q' : lm_O → lm_S → Prop, (∀ M1, P M1 → Q' (cO a) (lm_T M1 v G)) → lm_Q X d 91 [.ref 0, .int x0, .int x1] (lm_T M v G) Q') (hQ : ∀ M1, P M1 → Q (.inl (some (.int (cd a)))) (lm_T M1 v (gO a G))) : lm_Q X (d + 1) 248 [.ref 0, .int x0, .int x1, .ref 105] (lm_T M v G) Q := by
  show lm_G X (d + 1) 248 106 0 0 0 [some (.ref 0), some (.int x0), some (.int x1), some (.ref 105), none] [] (lm_T M v G) Q
  refine lm_G_sg 5 (pc' := 5) (L' := [some (.ref 0), some (.int x0), some (.int x1), some (.ref 105), none]) (S' := [.int x1, .int x0, .ref 0, .int 0, .ref 105]) (σ' := lm_T M v G) rfl trivial ?_
  refine lm_G_ca (j := 91) (as := [.ref 0, .int x0, .int x1]) (rest := [.int 0, .ref 105]) rfl (Or.inl rfl) (Nat.le_of_ble_eq_true rfl) (Nat.le_of_ble_eq_true rfl) (Nat.le_of_ble_eq_true rfl) (Nat.le_of_ble_eq_true rfl) rfl ?_
  refine hX _ (fun M1 h1 => ?_)
  cases a with
  | inl y =>
    show lm_G X (d + 1) 248 106 1 6 8 [some (.ref 0), some (.int x0), some (.int x1), some (.ref 105), none] [.int y, .int 0, .ref 105] (lm_T M1 v G) Q
    refine lm_G_sg 4 (pc' := 18) (L' := [some (.ref 0), some (.int x0), some (.int x1), some (.ref 105), none]) (S' := [.int 0]) (σ' := lm_T M1 v (lm_wg G 105 0 y.toInt64)) rfl ⟨(lm_inb_ok rfl), trivial, trivial⟩ ?_
    exact lm_G_re rfl trivial (Nat.le_of_ble_eq_true rfl) (Nat.le_of_ble_eq_true rfl) (hQ M1 h1)
  | inr b =>
    cases b with
    | false =>
      refine ⟨by decide, ?_⟩
      show lm_nl [some (.ref 0), some (.int x0), some (.int x1), some (.ref 105), none] 4 = true ∧ 4 < 5 ∧ lm_G X (d + 1) 248 106 1 6 15 [some (.ref 0), some (.int x0), some (.int x1), some (.ref 105), none] [] (lm_T M1 v G) Q
      refine ⟨rfl, by decide, ?_⟩
      refine lm_G_sg 1 (pc' := 16) (L' := [some (.ref 0), some (.int x0), some (.int x1), some (.ref 105), none]) (S' := [.int 1]) (σ' := lm_T M1 v G) rfl trivial ?_
      exact lm_G_re rfl trivial (Nat.le_of_ble_eq_true rfl) (Nat.le_of_ble_eq_true rfl) (hQ M1 h1)
    | true =>
      exact absurd rfl hn
set_option maxRecDepth 10000 in
theorem w_hush {X : lm_X} {d v : Nat} {M : Nat → Nat → Int32} {G : Nat → Nat → Int64} {Q : lm_O → lm_S → Prop} {x0 : Int32} {a : An} {P : (Nat → Fn) → Prop} (hn : a ≠ .inr true) (hX : ∀ Q' : lm_O → lm_S → Prop, (∀ M1, P M1 → Q' (cO a) (lm_T M1 v G)) → lm_Q X d 93 [.ref 0, .int x0] (lm_T M v G) Q') (hQ : ∀ M1, P M1 → Q (.inl (some (.int (cd a)))) (lm_T M1 v (gO a G))) : lm_Q X (d + 1) 249 [.ref 0, .int x0, .ref 105] (lm_T M v G) Q := by
  show lm_G X (d + 1) 249 106 0 0 0 [some (.ref 0), some (.int x0), some (.ref 105), none] [] (lm_T M v G) Q
  refine lm_G_sg 4 (pc' := 4) (L' := [some (.ref 0), some (.int x0), some (.ref 105), none]) (S' := [.int x0, .ref 0, .int 0, .ref 105]) (σ' := lm_T M v G) rfl trivial ?_
  refine lm_G_ca (j := 93) (as := [.ref 0, .int x0]) (rest := [.int 0, .ref 105]) rfl (Or.inl rfl) (Nat.le_of_ble_eq_true rfl) (Nat.le_of_ble_eq_true rfl) (Nat.le_of_ble_eq_true rfl) (Nat.le_of_ble_eq_true rfl) rfl ?_
  refine hX _ (fun M1 h1 => ?_)
  cases a with
  | inl y =>
    show lm_G X (d + 1) 249 106 1 6 7 [some (.ref 0), some (.int x0), some (.ref 105), none] [.int y, .int 0, .ref 105] (lm_T M1 v G) Q
    refine lm_G_sg 4 (pc' := 16) (L' := [some (.ref 0), some (.int x0), some (.ref 105), none]) (S' := [.int 0]) (σ' := lm_T M1 v (lm_wg G 105 0 y.toInt64)) rfl ⟨(lm_inb_ok rfl), trivial, trivial⟩ ?_
    exact lm_G_re rfl trivial (Nat.le_of_ble_eq_true rfl) (Nat.le_of_ble_eq_true rfl) (hQ M1 h1)
  | inr b =>
    cases b with
    | false =>
      refine ⟨by decide, ?_⟩
      show lm_nl [some (.ref 0), some (.int x0), some (.ref 105), none] 3 = true ∧ 3 < 4 ∧ lm_G X (d + 1) 249 106 1 6 13 [some (.ref 0), some (.int x0), some (.ref 105), none] [] (lm_T M1 v G) Q
      refine ⟨rfl, by decide, ?_⟩
      refine lm_G_sg 1 (pc' := 14) (L' := [some (.ref 0), some (.int x0), some (.ref 105), none]) (S' := [.int 1]) (σ' := lm_T M1 v G) rfl trivial ?_
      exact lm_G_re rfl trivial (Nat.le_of_ble_eq_true rfl) (Nat.le_of_ble_eq_true rfl) (hQ M1 h1)
    | true =>
      exact absurd rfl hn
set_option maxRecDepth 10000 in
theorem w_cough {X : lm_X} {d v : Nat} {M : Nat → Nat → Int32} {G : Nat → Nat → Int64} {Q : lm_O → lm_S → Prop} {x0 : Int32} {a : An} {P : (Nat → Fn) → Prop} (hn : a ≠ .inr true) (hX : ∀ Q' : lm_O → lm_S → Prop, (∀ M1, P M1 → Q' (cO a) (lm_T M1 v G)) → lm_Q X d 94 [.ref 0, .int x0] (lm_T M v G) Q') (hQ : ∀ M1, P M1 → Q (.inl (some (.int (cd a)))) (lm_T M1 v (gO a G))) : lm_Q X (d + 1) 250 [.ref 0, .int x0, .ref 105] (lm_T M v G) Q := by
  show lm_G X (d + 1) 250 106 0 0 0 [some (.ref 0), some (.int x0), some (.ref 105), none] [] (lm_T M v G) Q
  refine lm_G_sg 4 (pc' := 4) (L' := [some (.ref 0), some (.int x0), some (.ref 105), none]) (S' := [.int x0, .ref 0, .int 0, .ref 105]) (σ' := lm_T M v G) rfl trivial ?_
  refine lm_G_ca (j := 94) (as := [.ref 0, .int x0]) (rest := [.int 0, .ref 105]) rfl (Or.inl rfl) (Nat.le_of_ble_eq_true rfl) (Nat.le_of_ble_eq_true rfl) (Nat.le_of_ble_eq_true rfl) (Nat.le_of_ble_eq_true rfl) rfl ?_
  refine hX _ (fun M1 h1 => ?_)
  cases a with
  | inl y =>
    show lm_G X (d + 1) 250 106 1 6 7 [some (.ref 0), some (.int x0), some (.ref 105), none] [.int y, .int 0, .ref 105] (lm_T M1 v G) Q
    refine lm_G_sg 4 (pc' := 16) (L' := [some (.ref 0), some (.int x0), some (.ref 105), none]) (S' := [.int 0]) (σ' := lm_T M1 v (lm_wg G 105 0 y.toInt64)) rfl ⟨(lm_inb_ok rfl), trivial, trivial⟩ ?_
    exact lm_G_re rfl trivial (Nat.le_of_ble_eq_true rfl) (Nat.le_of_ble_eq_true rfl) (hQ M1 h1)
  | inr b =>
    cases b with
    | false =>
      refine ⟨by decide, ?_⟩
      show lm_nl [some (.ref 0), some (.int x0), some (.ref 105), none] 3 = true ∧ 3 < 4 ∧ lm_G X (d + 1) 250 106 1 6 13 [some (.ref 0), some (.int x0), some (.ref 105), none] [] (lm_T M1 v G) Q
      refine ⟨rfl, by decide, ?_⟩
      refine lm_G_sg 1 (pc' := 14) (L' := [some (.ref 0), some (.int x0), some (.ref 105), none]) (S' := [.int 1]) (σ' := lm_T M1 v G) rfl trivial ?_
      exact lm_G_re rfl trivial (Nat.le_of_ble_eq_true rfl) (Nat.le_of_ble_eq_true rfl) (hQ M1 h1)
    | true =>
      exact absurd rfl hn
set_option maxRecDepth 10000 in
theorem w_sell {X : lm_X} {d v : Nat} {M : Nat → Nat → Int32} {G : Nat → Nat → Int64} {Q : lm_O → lm_S → Prop} {x0 x1 : Int32} {a : An} {P : (Nat → Fn) → Prop} (hn : a ≠ .inr true) (hX : ∀ Q' : lm_O → lm_S → Prop, (∀ M1, P M1 → Q' (cO a) (lm_T M1 v G)) → lm_Q X d 95 [.ref 0, .int x0, .int x1] (lm_T M v G) Q') (hQ : ∀ M1, P M1 → Q (.inl (some (.int (cd a)))) (lm_T M1 v (gO a G))) : lm_Q X (d + 1) 251 [.ref 0, .int x0, .int x1, .ref 105] (lm_T M v G) Q := by
  show lm_G X (d + 1) 251 106 0 0 0 [some (.ref 0), some (.int x0), some (.int x1), some (.ref 105), none] [] (lm_T M v G) Q
  refine lm_G_sg 5 (pc' := 5) (L' := [some (.ref 0), some (.int x0), some (.int x1), some (.ref 105), none]) (S' := [.int x1, .int x0, .ref 0, .int 0, .ref 105]) (σ' := lm_T M v G) rfl trivial ?_
  refine lm_G_ca (j := 95) (as := [.ref 0, .int x0, .int x1]) (rest := [.int 0, .ref 105]) rfl (Or.inl rfl) (Nat.le_of_ble_eq_true rfl) (Nat.le_of_ble_eq_true rfl) (Nat.le_of_ble_eq_true rfl) (Nat.le_of_ble_eq_true rfl) rfl ?_
  refine hX _ (fun M1 h1 => ?_)
  cases a with
  | inl y =>
    show lm_G X (d + 1) 251 106 1 6 8 [some (.ref 0), some (.int x0), some (.int x1), some (.ref 105), none] [.int y, .int 0, .ref 105] (lm_T M1 v G) Q
    refine lm_G_sg 4 (pc' := 18) (L' := [some (.ref 0), some (.int x0), some (.int x1), some (.ref 105), none]) (S' := [.int 0]) (σ' := lm_T M1 v (lm_wg G 105 0 y.toInt64)) rfl ⟨(lm_inb_ok rfl), trivial, trivial⟩ ?_
    exact lm_G_re rfl trivial (Nat.le_of_ble_eq_true rfl) (Nat.le_of_ble_eq_true rfl) (hQ M1 h1)
  | inr b =>
    cases b with
    | false =>
      refine ⟨by decide, ?_⟩
      show lm_nl [some (.ref 0), some (.int x0), some (.int x1), some (.ref 105), none] 4 = true ∧ 4 < 5 ∧ lm_G X (d + 1) 251 106 1 6 15 [some (.ref 0), some (.int x0), some (.int x1), some (.ref 105), none] [] (lm_T M1 v G) Q
      refine ⟨rfl, by decide, ?_⟩
      refine lm_G_sg 1 (pc' := 16) (L' := [some (.ref 0), some (.int x0), some (.int x1), some (.ref 105), none]) (S' := [.int 1]) (σ' := lm_T M1 v G) rfl trivial ?_
      exact lm_G_re rfl trivial (Nat.le_of_ble_eq_true rfl) (Nat.le_of_ble_eq_true rfl) (hQ M1 h1)
    | true =>
      exact absurd rfl hn
set_option maxRecDepth 10000 in
theorem w_go {X : lm_X} {d v : Nat} {M : Nat → Nat → Int32} {G : Nat → Nat → Int64} {Q : lm_O → lm_S → Prop} {x0 x1 : Int32} {a : An} {P : (Nat → Fn) → Prop} (hn : a ≠ .inr true) (hX : ∀ Q' : lm_O → lm_S → Prop, (∀ M1, P M1 → Q' (cO a) (lm_T M1 v G)) → lm_Q X d 96 [.ref 0, .int x0, .int x1] (lm_T M v G) Q') (hQ : ∀ M1, P M1 → Q (.inl (some (.int (cd a)))) (lm_T M1 v (gO a G))) : lm_Q X (d + 1) 252 [.ref 0, .int x0, .int x1, .ref 105] (lm_T M v G) Q := by
  show lm_G X (d + 1) 252 106 0 0 0 [some (.ref 0), some (.int x0), some (.int x1), some (.ref 105), none] [] (lm_T M v G) Q
  refine lm_G_sg 5 (pc' := 5) (L' := [some (.ref 0), some (.int x0), some (.int x1), some (.ref 105), none]) (S' := [.int x1, .int x0, .ref 0, .int 0, .ref 105]) (σ' := lm_T M v G) rfl trivial ?_
  refine lm_G_ca (j := 96) (as := [.ref 0, .int x0, .int x1]) (rest := [.int 0, .ref 105]) rfl (Or.inl rfl) (Nat.le_of_ble_eq_true rfl) (Nat.le_of_ble_eq_true rfl) (Nat.le_of_ble_eq_true rfl) (Nat.le_of_ble_eq_true rfl) rfl ?_
  refine hX _ (fun M1 h1 => ?_)
  cases a with
  | inl y =>
    show lm_G X (d + 1) 252 106 1 6 8 [some (.ref 0), some (.int x0), some (.int x1), some (.ref 105), none] [.int y, .int 0, .ref 105] (lm_T M1 v G) Q
    refine lm_G_sg 4 (pc' := 18) (L' := [some (.ref 0), some (.int x0), some (.int x1), some (.ref 105), none]) (S' := [.int 0]) (σ' := lm_T M1 v (lm_wg G 105 0 y.toInt64)) rfl ⟨(lm_inb_ok rfl), trivial, trivial⟩ ?_
    exact lm_G_re rfl trivial (Nat.le_of_ble_eq_true rfl) (Nat.le_of_ble_eq_true rfl) (hQ M1 h1)
  | inr b =>
    cases b with
    | false =>
      refine ⟨by decide, ?_⟩
      show lm_nl [some (.ref 0), some (.int x0), some (.int x1), some (.ref 105), none] 4 = true ∧ 4 < 5 ∧ lm_G X (d + 1) 252 106 1 6 15 [some (.ref 0), some (.int x0), some (.int x1), some (.ref 105), none] [] (lm_T M1 v G) Q
      refine ⟨rfl, by decide, ?_⟩
      refine lm_G_sg 1 (pc' := 16) (L' := [some (.ref 0), some (.int x0), some (.int x1), some (.ref 105), none]) (S' := [.int 1]) (σ' := lm_T M1 v G) rfl trivial ?_
      exact lm_G_re rfl trivial (Nat.le_of_ble_eq_true rfl) (Nat.le_of_ble_eq_true rfl) (hQ M1 h1)
    | true =>
      exact absurd rfl hn
set_option maxRecDepth 10000 in
theorem w_then {X : lm_X} {d v : Nat} {M : Nat → Nat → Int32} {G : Nat → Nat → Int64} {Q : lm_O → lm_S → Prop} {x0 x1 x2 : Int32} {a : An} {P : (Nat → Fn) → Prop} (hX : ∀ Q' : lm_O → lm_S → Prop, (∀ M1, P M1 → Q' (cO a) (lm_T M1 v G)) → lm_Q X d 99 [.ref 0, .int x0, .int x1, .int x2] (lm_T M v G) Q') (hQ : ∀ M1, P M1 → Q (.inl (some (.int (cd a)))) (lm_T M1 v (gO a G))) : lm_Q X (d + 1) 253 [.ref 0, .int x0, .int x1, .int x2, .ref 105] (lm_T M v G) Q := by
  show lm_G X (d + 1) 253 106 0 0 0 [some (.ref 0), some (.int x0), some (.int x1), some (.int x2), some (.ref 105), none] [] (lm_T M v G) Q
  refine lm_G_sg 6 (pc' := 7) (L' := [some (.ref 0), some (.int x0), some (.int x1), some (.int x2), some (.ref 105), none]) (S' := [.int x2, .int x1, .int x0, .ref 0, .int 0, .ref 105]) (σ' := lm_T M v G) rfl trivial ?_
  refine lm_G_ca (j := 99) (as := [.ref 0, .int x0, .int x1, .int x2]) (rest := [.int 0, .ref 105]) rfl (Or.inl rfl) (Nat.le_of_ble_eq_true rfl) (Nat.le_of_ble_eq_true rfl) (Nat.le_of_ble_eq_true rfl) (Nat.le_of_ble_eq_true rfl) rfl ?_
  refine hX _ (fun M1 h1 => ?_)
  cases a with
  | inl y =>
    show lm_G X (d + 1) 253 106 2 12 10 [some (.ref 0), some (.int x0), some (.int x1), some (.int x2), some (.ref 105), none] [.int y, .int 0, .ref 105] (lm_T M1 v G) Q
    refine lm_G_sg 4 (pc' := 24) (L' := [some (.ref 0), some (.int x0), some (.int x1), some (.int x2), some (.ref 105), none]) (S' := [.int 0]) (σ' := lm_T M1 v (lm_wg G 105 0 y.toInt64)) rfl ⟨(lm_inb_ok rfl), trivial, trivial⟩ ?_
    exact lm_G_re rfl trivial (Nat.le_of_ble_eq_true rfl) (Nat.le_of_ble_eq_true rfl) (hQ M1 h1)
  | inr b =>
    cases b with
    | false =>
      refine ⟨by decide, ?_⟩
      show lm_nl [some (.ref 0), some (.int x0), some (.int x1), some (.int x2), some (.ref 105), none] 5 = true ∧ 5 < 6 ∧ lm_G X (d + 1) 253 106 2 12 17 [some (.ref 0), some (.int x0), some (.int x1), some (.int x2), some (.ref 105), none] [] (lm_T M1 v G) Q
      refine ⟨rfl, by decide, ?_⟩
      refine lm_G_sg 1 (pc' := 18) (L' := [some (.ref 0), some (.int x0), some (.int x1), some (.int x2), some (.ref 105), none]) (S' := [.int 1]) (σ' := lm_T M1 v G) rfl trivial ?_
      exact lm_G_re rfl trivial (Nat.le_of_ble_eq_true rfl) (Nat.le_of_ble_eq_true rfl) (hQ M1 h1)
    | true =>
      refine ⟨by decide, ?_⟩
      show lm_nl [some (.ref 0), some (.int x0), some (.int x1), some (.int x2), some (.ref 105), none] 5 = true ∧ 5 < 6 ∧ lm_G X (d + 1) 253 106 2 12 21 [some (.ref 0), some (.int x0), some (.int x1), some (.int x2), some (.ref 105), none] [] (lm_T M1 v G) Q
      refine ⟨rfl, by decide, ?_⟩
      refine lm_G_sg 1 (pc' := 22) (L' := [some (.ref 0), some (.int x0), some (.int x1), some (.int x2), some (.ref 105), none]) (S' := [.int 2]) (σ' := lm_T M1 v G) rfl trivial ?_
      exact lm_G_re rfl trivial (Nat.le_of_ble_eq_true rfl) (Nat.le_of_ble_eq_true rfl) (hQ M1 h1)
set_option maxRecDepth 10000 in
theorem w_whose {X : lm_X} {d v : Nat} {M : Nat → Nat → Int32} {G : Nat → Nat → Int64} {Q : lm_O → lm_S → Prop} {x0 x1 x2 : Int32} {a : An} {P : (Nat → Fn) → Prop} (hX : ∀ Q' : lm_O → lm_S → Prop, (∀ M1, P M1 → Q' (cO a) (lm_T M1 v G)) → lm_Q X d 100 [.ref 0, .int x0, .int x1, .int x2] (lm_T M v G) Q') (hQ : ∀ M1, P M1 → Q (.inl (some (.int (cd a)))) (lm_T M1 v (gO a G))) : lm_Q X (d + 1) 254 [.ref 0, .int x0, .int x1, .int x2, .ref 105] (lm_T M v G) Q := by
  show lm_G X (d + 1) 254 106 0 0 0 [some (.ref 0), some (.int x0), some (.int x1), some (.int x2), some (.ref 105), none] [] (lm_T M v G) Q
  refine lm_G_sg 6 (pc' := 7) (L' := [some (.ref 0), some (.int x0), some (.int x1), some (.int x2), some (.ref 105), none]) (S' := [.int x2, .int x1, .int x0, .ref 0, .int 0, .ref 105]) (σ' := lm_T M v G) rfl trivial ?_
  refine lm_G_ca (j := 100) (as := [.ref 0, .int x0, .int x1, .int x2]) (rest := [.int 0, .ref 105]) rfl (Or.inl rfl) (Nat.le_of_ble_eq_true rfl) (Nat.le_of_ble_eq_true rfl) (Nat.le_of_ble_eq_true rfl) (Nat.le_of_ble_eq_true rfl) rfl ?_
  refine hX _ (fun M1 h1 => ?_)
  cases a with
  | inl y =>
    show lm_G X (d + 1) 254 106 2 12 10 [some (.ref 0), some (.int x0), some (.int x1), some (.int x2), some (.ref 105), none] [.int y, .int 0, .ref 105] (lm_T M1 v G) Q
    refine lm_G_sg 4 (pc' := 24) (L' := [some (.ref 0), some (.int x0), some (.int x1), some (.int x2), some (.ref 105), none]) (S' := [.int 0]) (σ' := lm_T M1 v (lm_wg G 105 0 y.toInt64)) rfl ⟨(lm_inb_ok rfl), trivial, trivial⟩ ?_
    exact lm_G_re rfl trivial (Nat.le_of_ble_eq_true rfl) (Nat.le_of_ble_eq_true rfl) (hQ M1 h1)
  | inr b =>
    cases b with
    | false =>
      refine ⟨by decide, ?_⟩
      show lm_nl [some (.ref 0), some (.int x0), some (.int x1), some (.int x2), some (.ref 105), none] 5 = true ∧ 5 < 6 ∧ lm_G X (d + 1) 254 106 2 12 17 [some (.ref 0), some (.int x0), some (.int x1), some (.int x2), some (.ref 105), none] [] (lm_T M1 v G) Q
      refine ⟨rfl, by decide, ?_⟩
      refine lm_G_sg 1 (pc' := 18) (L' := [some (.ref 0), some (.int x0), some (.int x1), some (.int x2), some (.ref 105), none]) (S' := [.int 1]) (σ' := lm_T M1 v G) rfl trivial ?_
      exact lm_G_re rfl trivial (Nat.le_of_ble_eq_true rfl) (Nat.le_of_ble_eq_true rfl) (hQ M1 h1)
    | true =>
      refine ⟨by decide, ?_⟩
      show lm_nl [some (.ref 0), some (.int x0), some (.int x1), some (.int x2), some (.ref 105), none] 5 = true ∧ 5 < 6 ∧ lm_G X (d + 1) 254 106 2 12 21 [some (.ref 0), some (.int x0), some (.int x1), some (.int x2), some (.ref 105), none] [] (lm_T M1 v G) Q
      refine ⟨rfl, by decide, ?_⟩
      refine lm_G_sg 1 (pc' := 22) (L' := [some (.ref 0), some (.int x0), some (.int x1), some (.int x2), some (.ref 105), none]) (S' := [.int 2]) (σ' := lm_T M1 v G) rfl trivial ?_
      exact lm_G_re rfl trivial (Nat.le_of_ble_eq_true rfl) (Nat.le_of_ble_eq_true rfl) (hQ M1 h1)
set_option maxRecDepth 10000 in
theorem w_gets {X : lm_X} {d v : Nat} {M : Nat → Nat → Int32} {G : Nat → Nat → Int64} {Q : lm_O → lm_S → Prop} {x0 x1 : Int32} {a : An} {P : (Nat → Fn) → Prop} (hn : a ≠ .inr true) (hX : ∀ Q' : lm_O → lm_S → Prop, (∀ M1, P M1 → Q' (cO a) (lm_T M1 v G)) → lm_Q X d 101 [.ref 0, .int x0, .int x1] (lm_T M v G) Q') (hQ : ∀ M1, P M1 → Q (.inl (some (.int (cd a)))) (lm_T M1 v (gO a G))) : lm_Q X (d + 1) 255 [.ref 0, .int x0, .int x1, .ref 105] (lm_T M v G) Q := by
  show lm_G X (d + 1) 255 106 0 0 0 [some (.ref 0), some (.int x0), some (.int x1), some (.ref 105), none] [] (lm_T M v G) Q
  refine lm_G_sg 5 (pc' := 5) (L' := [some (.ref 0), some (.int x0), some (.int x1), some (.ref 105), none]) (S' := [.int x1, .int x0, .ref 0, .int 0, .ref 105]) (σ' := lm_T M v G) rfl trivial ?_
  refine lm_G_ca (j := 101) (as := [.ref 0, .int x0, .int x1]) (rest := [.int 0, .ref 105]) rfl (Or.inl rfl) (Nat.le_of_ble_eq_true rfl) (Nat.le_of_ble_eq_true rfl) (Nat.le_of_ble_eq_true rfl) (Nat.le_of_ble_eq_true rfl) rfl ?_
  refine hX _ (fun M1 h1 => ?_)
  cases a with
  | inl y =>
    show lm_G X (d + 1) 255 106 1 6 8 [some (.ref 0), some (.int x0), some (.int x1), some (.ref 105), none] [.int y, .int 0, .ref 105] (lm_T M1 v G) Q
    refine lm_G_sg 4 (pc' := 18) (L' := [some (.ref 0), some (.int x0), some (.int x1), some (.ref 105), none]) (S' := [.int 0]) (σ' := lm_T M1 v (lm_wg G 105 0 y.toInt64)) rfl ⟨(lm_inb_ok rfl), trivial, trivial⟩ ?_
    exact lm_G_re rfl trivial (Nat.le_of_ble_eq_true rfl) (Nat.le_of_ble_eq_true rfl) (hQ M1 h1)
  | inr b =>
    cases b with
    | false =>
      refine ⟨by decide, ?_⟩
      show lm_nl [some (.ref 0), some (.int x0), some (.int x1), some (.ref 105), none] 4 = true ∧ 4 < 5 ∧ lm_G X (d + 1) 255 106 1 6 15 [some (.ref 0), some (.int x0), some (.int x1), some (.ref 105), none] [] (lm_T M1 v G) Q
      refine ⟨rfl, by decide, ?_⟩
      refine lm_G_sg 1 (pc' := 16) (L' := [some (.ref 0), some (.int x0), some (.int x1), some (.ref 105), none]) (S' := [.int 1]) (σ' := lm_T M1 v G) rfl trivial ?_
      exact lm_G_re rfl trivial (Nat.le_of_ble_eq_true rfl) (Nat.le_of_ble_eq_true rfl) (hQ M1 h1)
    | true =>
      exact absurd rfl hn
set_option maxRecDepth 10000 in
theorem w_silent {X : lm_X} {d v : Nat} {M : Nat → Nat → Int32} {G : Nat → Nat → Int64} {Q : lm_O → lm_S → Prop} {x0 x1 : Int32} {a : An} {P : (Nat → Fn) → Prop} (hX : ∀ Q' : lm_O → lm_S → Prop, (∀ M1, P M1 → Q' (cO a) (lm_T M1 v G)) → lm_Q X d 102 [.ref 0, .int x0, .int x1] (lm_T M v G) Q') (hQ : ∀ M1, P M1 → Q (.inl (some (.int (cd a)))) (lm_T M1 v (gO a G))) : lm_Q X (d + 1) 256 [.ref 0, .int x0, .int x1, .ref 105] (lm_T M v G) Q := by
  show lm_G X (d + 1) 256 106 0 0 0 [some (.ref 0), some (.int x0), some (.int x1), some (.ref 105), none] [] (lm_T M v G) Q
  refine lm_G_sg 5 (pc' := 5) (L' := [some (.ref 0), some (.int x0), some (.int x1), some (.ref 105), none]) (S' := [.int x1, .int x0, .ref 0, .int 0, .ref 105]) (σ' := lm_T M v G) rfl trivial ?_
  refine lm_G_ca (j := 102) (as := [.ref 0, .int x0, .int x1]) (rest := [.int 0, .ref 105]) rfl (Or.inl rfl) (Nat.le_of_ble_eq_true rfl) (Nat.le_of_ble_eq_true rfl) (Nat.le_of_ble_eq_true rfl) (Nat.le_of_ble_eq_true rfl) rfl ?_
  refine hX _ (fun M1 h1 => ?_)
  cases a with
  | inl y =>
    show lm_G X (d + 1) 256 106 2 12 8 [some (.ref 0), some (.int x0), some (.int x1), some (.ref 105), none] [.int y, .int 0, .ref 105] (lm_T M1 v G) Q
    refine lm_G_sg 4 (pc' := 22) (L' := [some (.ref 0), some (.int x0), some (.int x1), some (.ref 105), none]) (S' := [.int 0]) (σ' := lm_T M1 v (lm_wg G 105 0 y.toInt64)) rfl ⟨(lm_inb_ok rfl), trivial, trivial⟩ ?_
    exact lm_G_re rfl trivial (Nat.le_of_ble_eq_true rfl) (Nat.le_of_ble_eq_true rfl) (hQ M1 h1)
  | inr b =>
    cases b with
    | false =>
      refine ⟨by decide, ?_⟩
      show lm_nl [some (.ref 0), some (.int x0), some (.int x1), some (.ref 105), none] 4 = true ∧ 4 < 5 ∧ lm_G X (d + 1) 256 106 2 12 15 [some (.ref 0), some (.int x0), some (.int x1), some (.ref 105), none] [] (lm_T M1 v G) Q
      refine ⟨rfl, by decide, ?_⟩
      refine lm_G_sg 1 (pc' := 16) (L' := [some (.ref 0), some (.int x0), some (.int x1), some (.ref 105), none]) (S' := [.int 1]) (σ' := lm_T M1 v G) rfl trivial ?_
      exact lm_G_re rfl trivial (Nat.le_of_ble_eq_true rfl) (Nat.le_of_ble_eq_true rfl) (hQ M1 h1)
    | true =>
      refine ⟨by decide, ?_⟩
      show lm_nl [some (.ref 0), some (.int x0), some (.int x1), some (.ref 105), none] 4 = true ∧ 4 < 5 ∧ lm_G X (d + 1) 256 106 2 12 19 [some (.ref 0), some (.int x0), some (.int x1), some (.ref 105), none] [] (lm_T M1 v G) Q
      refine ⟨rfl, by decide, ?_⟩
      refine lm_G_sg 1 (pc' := 20) (L' := [some (.ref 0), some (.int x0), some (.int x1), some (.ref 105), none]) (S' := [.int 2]) (σ' := lm_T M1 v G) rfl trivial ?_
      exact lm_G_re rfl trivial (Nat.le_of_ble_eq_true rfl) (Nat.le_of_ble_eq_true rfl) (hQ M1 h1)
set_option maxRecDepth 10000 in
theorem w_loudest {X : lm_X} {d v : Nat} {M : Nat → Nat → Int32} {G : Nat → Nat → Int64} {Q : lm_O → lm_S → Prop} {x0 : Int32} {a : An} {P : (Nat → Fn) → Prop} (hn : a ≠ .inr true) (hX : ∀ Q' : lm_O → lm_S → Prop, (∀ M1, P M1 → Q' (cO1 a) (lm_T M1 v G)) → lm_Q X d 103 [.ref 0, .int x0] (lm_T M v G) Q') (hQ : ∀ M1, P M1 → Q (.inl (some (.int (cd a)))) (lm_T M1 v (gO a G))) : lm_Q X (d + 1) 257 [.ref 0, .int x0, .ref 105] (lm_T M v G) Q := by
  show lm_G X (d + 1) 257 106 0 0 0 [some (.ref 0), some (.int x0), some (.ref 105), none] [] (lm_T M v G) Q
  refine lm_G_sg 4 (pc' := 4) (L' := [some (.ref 0), some (.int x0), some (.ref 105), none]) (S' := [.int x0, .ref 0, .int 0, .ref 105]) (σ' := lm_T M v G) rfl trivial ?_
  refine lm_G_ca (j := 103) (as := [.ref 0, .int x0]) (rest := [.int 0, .ref 105]) rfl (Or.inl rfl) (Nat.le_of_ble_eq_true rfl) (Nat.le_of_ble_eq_true rfl) (Nat.le_of_ble_eq_true rfl) (Nat.le_of_ble_eq_true rfl) rfl ?_
  refine hX _ (fun M1 h1 => ?_)
  cases a with
  | inl y =>
    show lm_G X (d + 1) 257 106 1 6 7 [some (.ref 0), some (.int x0), some (.ref 105), none] [.int y, .int 0, .ref 105] (lm_T M1 v G) Q
    refine lm_G_sg 4 (pc' := 16) (L' := [some (.ref 0), some (.int x0), some (.ref 105), none]) (S' := [.int 0]) (σ' := lm_T M1 v (lm_wg G 105 0 y.toInt64)) rfl ⟨(lm_inb_ok rfl), trivial, trivial⟩ ?_
    exact lm_G_re rfl trivial (Nat.le_of_ble_eq_true rfl) (Nat.le_of_ble_eq_true rfl) (hQ M1 h1)
  | inr b =>
    cases b with
    | false =>
      refine ⟨by decide, ?_⟩
      show lm_nl [some (.ref 0), some (.int x0), some (.ref 105), none] 3 = true ∧ 3 < 4 ∧ lm_G X (d + 1) 257 106 1 6 13 [some (.ref 0), some (.int x0), some (.ref 105), none] [] (lm_T M1 v G) Q
      refine ⟨rfl, by decide, ?_⟩
      refine lm_G_sg 1 (pc' := 14) (L' := [some (.ref 0), some (.int x0), some (.ref 105), none]) (S' := [.int 1]) (σ' := lm_T M1 v G) rfl trivial ?_
      exact lm_G_re rfl trivial (Nat.le_of_ble_eq_true rfl) (Nat.le_of_ble_eq_true rfl) (hQ M1 h1)
    | true =>
      exact absurd rfl hn
set_option maxRecDepth 10000 in
theorem w_later {X : lm_X} {d v : Nat} {M : Nat → Nat → Int32} {G : Nat → Nat → Int64} {Q : lm_O → lm_S → Prop} {x0 x1 : Int32} {a : An} {P : (Nat → Fn) → Prop} (hX : ∀ Q' : lm_O → lm_S → Prop, (∀ M1, P M1 → Q' (cO a) (lm_T M1 v G)) → lm_Q X d 104 [.ref 0, .int x0, .int x1] (lm_T M v G) Q') (hQ : ∀ M1, P M1 → Q (.inl (some (.int (cd a)))) (lm_T M1 v (gO a G))) : lm_Q X (d + 1) 258 [.ref 0, .int x0, .int x1, .ref 105] (lm_T M v G) Q := by
  show lm_G X (d + 1) 258 106 0 0 0 [some (.ref 0), some (.int x0), some (.int x1), some (.ref 105), none] [] (lm_T M v G) Q
  refine lm_G_sg 5 (pc' := 5) (L' := [some (.ref 0), some (.int x0), some (.int x1), some (.ref 105), none]) (S' := [.int x1, .int x0, .ref 0, .int 0, .ref 105]) (σ' := lm_T M v G) rfl trivial ?_
  refine lm_G_ca (j := 104) (as := [.ref 0, .int x0, .int x1]) (rest := [.int 0, .ref 105]) rfl (Or.inl rfl) (Nat.le_of_ble_eq_true rfl) (Nat.le_of_ble_eq_true rfl) (Nat.le_of_ble_eq_true rfl) (Nat.le_of_ble_eq_true rfl) rfl ?_
  refine hX _ (fun M1 h1 => ?_)
  cases a with
  | inl y =>
    show lm_G X (d + 1) 258 106 2 12 8 [some (.ref 0), some (.int x0), some (.int x1), some (.ref 105), none] [.int y, .int 0, .ref 105] (lm_T M1 v G) Q
    refine lm_G_sg 4 (pc' := 22) (L' := [some (.ref 0), some (.int x0), some (.int x1), some (.ref 105), none]) (S' := [.int 0]) (σ' := lm_T M1 v (lm_wg G 105 0 y.toInt64)) rfl ⟨(lm_inb_ok rfl), trivial, trivial⟩ ?_
    exact lm_G_re rfl trivial (Nat.le_of_ble_eq_true rfl) (Nat.le_of_ble_eq_true rfl) (hQ M1 h1)
  | inr b =>
    cases b with
    | false =>
      refine ⟨by decide, ?_⟩
      show lm_nl [some (.ref 0), some (.int x0), some (.int x1), some (.ref 105), none] 4 = true ∧ 4 < 5 ∧ lm_G X (d + 1) 258 106 2 12 15 [some (.ref 0), some (.int x0), some (.int x1), some (.ref 105), none] [] (lm_T M1 v G) Q
      refine ⟨rfl, by decide, ?_⟩
      refine lm_G_sg 1 (pc' := 16) (L' := [some (.ref 0), some (.int x0), some (.int x1), some (.ref 105), none]) (S' := [.int 1]) (σ' := lm_T M1 v G) rfl trivial ?_
      exact lm_G_re rfl trivial (Nat.le_of_ble_eq_true rfl) (Nat.le_of_ble_eq_true rfl) (hQ M1 h1)
    | true =>
      refine ⟨by decide, ?_⟩
      show lm_nl [some (.ref 0), some (.int x0), some (.int x1), some (.ref 105), none] 4 = true ∧ 4 < 5 ∧ lm_G X (d + 1) 258 106 2 12 19 [some (.ref 0), some (.int x0), some (.int x1), some (.ref 105), none] [] (lm_T M1 v G) Q
      refine ⟨rfl, by decide, ?_⟩
      refine lm_G_sg 1 (pc' := 20) (L' := [some (.ref 0), some (.int x0), some (.int x1), some (.ref 105), none]) (S' := [.int 2]) (σ' := lm_T M1 v G) rfl trivial ?_
      exact lm_G_re rfl trivial (Nat.le_of_ble_eq_true rfl) (Nat.le_of_ble_eq_true rfl) (hQ M1 h1)
set_option maxRecDepth 10000 in
theorem w_hums {X : lm_X} {d v : Nat} {M : Nat → Nat → Int32} {G : Nat → Nat → Int64} {Q : lm_O → lm_S → Prop} {x0 x1 : Int32} {a : An} {P : (Nat → Fn) → Prop} (hn : a ≠ .inr true) (hX : ∀ Q' : lm_O → lm_S → Prop, (∀ M1, P M1 → Q' (cO a) (lm_T M1 v G)) → lm_Q X d 106 [.ref 0, .int x0, .int x1] (lm_T M v G) Q') (hQ : ∀ M1, P M1 → Q (.inl (some (.int (cd a)))) (lm_T M1 v (gO a G))) : lm_Q X (d + 1) 259 [.ref 0, .int x0, .int x1, .ref 105] (lm_T M v G) Q := by
  show lm_G X (d + 1) 259 106 0 0 0 [some (.ref 0), some (.int x0), some (.int x1), some (.ref 105), none] [] (lm_T M v G) Q
  refine lm_G_sg 5 (pc' := 5) (L' := [some (.ref 0), some (.int x0), some (.int x1), some (.ref 105), none]) (S' := [.int x1, .int x0, .ref 0, .int 0, .ref 105]) (σ' := lm_T M v G) rfl trivial ?_
  refine lm_G_ca (j := 106) (as := [.ref 0, .int x0, .int x1]) (rest := [.int 0, .ref 105]) rfl (Or.inl rfl) (Nat.le_of_ble_eq_true rfl) (Nat.le_of_ble_eq_true rfl) (Nat.le_of_ble_eq_true rfl) (Nat.le_of_ble_eq_true rfl) rfl ?_
  refine hX _ (fun M1 h1 => ?_)
  cases a with
  | inl y =>
    show lm_G X (d + 1) 259 106 1 6 8 [some (.ref 0), some (.int x0), some (.int x1), some (.ref 105), none] [.int y, .int 0, .ref 105] (lm_T M1 v G) Q
    refine lm_G_sg 4 (pc' := 18) (L' := [some (.ref 0), some (.int x0), some (.int x1), some (.ref 105), none]) (S' := [.int 0]) (σ' := lm_T M1 v (lm_wg G 105 0 y.toInt64)) rfl ⟨(lm_inb_ok rfl), trivial, trivial⟩ ?_
    exact lm_G_re rfl trivial (Nat.le_of_ble_eq_true rfl) (Nat.le_of_ble_eq_true rfl) (hQ M1 h1)
  | inr b =>
    cases b with
    | false =>
      refine ⟨by decide, ?_⟩
      show lm_nl [some (.ref 0), some (.int x0), some (.int x1), some (.ref 105), none] 4 = true ∧ 4 < 5 ∧ lm_G X (d + 1) 259 106 1 6 15 [some (.ref 0), some (.int x0), some (.int x1), some (.ref 105), none] [] (lm_T M1 v G) Q
      refine ⟨rfl, by decide, ?_⟩
      refine lm_G_sg 1 (pc' := 16) (L' := [some (.ref 0), some (.int x0), some (.int x1), some (.ref 105), none]) (S' := [.int 1]) (σ' := lm_T M1 v G) rfl trivial ?_
      exact lm_G_re rfl trivial (Nat.le_of_ble_eq_true rfl) (Nat.le_of_ble_eq_true rfl) (hQ M1 h1)
    | true =>
      exact absurd rfl hn
set_option maxRecDepth 10000 in
theorem w_farthest {X : lm_X} {d v : Nat} {M : Nat → Nat → Int32} {G : Nat → Nat → Int64} {Q : lm_O → lm_S → Prop} {x0 : Int32} {a : An} {P : (Nat → Fn) → Prop} (hn : a ≠ .inr true) (hX : ∀ Q' : lm_O → lm_S → Prop, (∀ M1, P M1 → Q' (cO a) (lm_T M1 v G)) → lm_Q X d 107 [.ref 0, .int x0] (lm_T M v G) Q') (hQ : ∀ M1, P M1 → Q (.inl (some (.int (cd a)))) (lm_T M1 v (gO a G))) : lm_Q X (d + 1) 260 [.ref 0, .int x0, .ref 105] (lm_T M v G) Q := by
  show lm_G X (d + 1) 260 106 0 0 0 [some (.ref 0), some (.int x0), some (.ref 105), none] [] (lm_T M v G) Q
  refine lm_G_sg 4 (pc' := 4) (L' := [some (.ref 0), some (.int x0), some (.ref 105), none]) (S' := [.int x0, .ref 0, .int 0, .ref 105]) (σ' := lm_T M v G) rfl trivial ?_
  refine lm_G_ca (j := 107) (as := [.ref 0, .int x0]) (rest := [.int 0, .ref 105]) rfl (Or.inl rfl) (Nat.le_of_ble_eq_true rfl) (Nat.le_of_ble_eq_true rfl) (Nat.le_of_ble_eq_true rfl) (Nat.le_of_ble_eq_true rfl) rfl ?_
  refine hX _ (fun M1 h1 => ?_)
  cases a with
  | inl y =>
    show lm_G X (d + 1) 260 106 1 6 7 [some (.ref 0), some (.int x0), some (.ref 105), none] [.int y, .int 0, .ref 105] (lm_T M1 v G) Q
    refine lm_G_sg 4 (pc' := 16) (L' := [some (.ref 0), some (.int x0), some (.ref 105), none]) (S' := [.int 0]) (σ' := lm_T M1 v (lm_wg G 105 0 y.toInt64)) rfl ⟨(lm_inb_ok rfl), trivial, trivial⟩ ?_
    exact lm_G_re rfl trivial (Nat.le_of_ble_eq_true rfl) (Nat.le_of_ble_eq_true rfl) (hQ M1 h1)
  | inr b =>
    cases b with
    | false =>
      refine ⟨by decide, ?_⟩
      show lm_nl [some (.ref 0), some (.int x0), some (.ref 105), none] 3 = true ∧ 3 < 4 ∧ lm_G X (d + 1) 260 106 1 6 13 [some (.ref 0), some (.int x0), some (.ref 105), none] [] (lm_T M1 v G) Q
      refine ⟨rfl, by decide, ?_⟩
      refine lm_G_sg 1 (pc' := 14) (L' := [some (.ref 0), some (.int x0), some (.ref 105), none]) (S' := [.int 1]) (σ' := lm_T M1 v G) rfl trivial ?_
      exact lm_G_re rfl trivial (Nat.le_of_ble_eq_true rfl) (Nat.le_of_ble_eq_true rfl) (hQ M1 h1)
    | true =>
      exact absurd rfl hn
set_option maxRecDepth 10000 in
theorem w_toBreathe {X : lm_X} {d v : Nat} {M : Nat → Nat → Int32} {G : Nat → Nat → Int64} {Q : lm_O → lm_S → Prop} {x0 x1 x2 : Int32} {a : An} {P : (Nat → Fn) → Prop} (hX : ∀ Q' : lm_O → lm_S → Prop, (∀ M1, P M1 → Q' (cO a) (lm_T M1 v G)) → lm_Q X d 108 [.ref 0, .int x0, .int x1, .int x2] (lm_T M v G) Q') (hQ : ∀ M1, P M1 → Q (.inl (some (.int (cd a)))) (lm_T M1 v (gO a G))) : lm_Q X (d + 1) 261 [.ref 0, .int x0, .int x1, .int x2, .ref 105] (lm_T M v G) Q := by
  show lm_G X (d + 1) 261 106 0 0 0 [some (.ref 0), some (.int x0), some (.int x1), some (.int x2), some (.ref 105), none] [] (lm_T M v G) Q
  refine lm_G_sg 6 (pc' := 7) (L' := [some (.ref 0), some (.int x0), some (.int x1), some (.int x2), some (.ref 105), none]) (S' := [.int x2, .int x1, .int x0, .ref 0, .int 0, .ref 105]) (σ' := lm_T M v G) rfl trivial ?_
  refine lm_G_ca (j := 108) (as := [.ref 0, .int x0, .int x1, .int x2]) (rest := [.int 0, .ref 105]) rfl (Or.inl rfl) (Nat.le_of_ble_eq_true rfl) (Nat.le_of_ble_eq_true rfl) (Nat.le_of_ble_eq_true rfl) (Nat.le_of_ble_eq_true rfl) rfl ?_
  refine hX _ (fun M1 h1 => ?_)
  cases a with
  | inl y =>
    show lm_G X (d + 1) 261 106 2 12 10 [some (.ref 0), some (.int x0), some (.int x1), some (.int x2), some (.ref 105), none] [.int y, .int 0, .ref 105] (lm_T M1 v G) Q
    refine lm_G_sg 4 (pc' := 24) (L' := [some (.ref 0), some (.int x0), some (.int x1), some (.int x2), some (.ref 105), none]) (S' := [.int 0]) (σ' := lm_T M1 v (lm_wg G 105 0 y.toInt64)) rfl ⟨(lm_inb_ok rfl), trivial, trivial⟩ ?_
    exact lm_G_re rfl trivial (Nat.le_of_ble_eq_true rfl) (Nat.le_of_ble_eq_true rfl) (hQ M1 h1)
  | inr b =>
    cases b with
    | false =>
      refine ⟨by decide, ?_⟩
      show lm_nl [some (.ref 0), some (.int x0), some (.int x1), some (.int x2), some (.ref 105), none] 5 = true ∧ 5 < 6 ∧ lm_G X (d + 1) 261 106 2 12 17 [some (.ref 0), some (.int x0), some (.int x1), some (.int x2), some (.ref 105), none] [] (lm_T M1 v G) Q
      refine ⟨rfl, by decide, ?_⟩
      refine lm_G_sg 1 (pc' := 18) (L' := [some (.ref 0), some (.int x0), some (.int x1), some (.int x2), some (.ref 105), none]) (S' := [.int 1]) (σ' := lm_T M1 v G) rfl trivial ?_
      exact lm_G_re rfl trivial (Nat.le_of_ble_eq_true rfl) (Nat.le_of_ble_eq_true rfl) (hQ M1 h1)
    | true =>
      refine ⟨by decide, ?_⟩
      show lm_nl [some (.ref 0), some (.int x0), some (.int x1), some (.int x2), some (.ref 105), none] 5 = true ∧ 5 < 6 ∧ lm_G X (d + 1) 261 106 2 12 21 [some (.ref 0), some (.int x0), some (.int x1), some (.int x2), some (.ref 105), none] [] (lm_T M1 v G) Q
      refine ⟨rfl, by decide, ?_⟩
      refine lm_G_sg 1 (pc' := 22) (L' := [some (.ref 0), some (.int x0), some (.int x1), some (.int x2), some (.ref 105), none]) (S' := [.int 2]) (σ' := lm_T M1 v G) rfl trivial ?_
      exact lm_G_re rfl trivial (Nat.le_of_ble_eq_true rfl) (Nat.le_of_ble_eq_true rfl) (hQ M1 h1)
set_option maxRecDepth 10000 in
theorem w_toStand {X : lm_X} {d v : Nat} {M : Nat → Nat → Int32} {G : Nat → Nat → Int64} {Q : lm_O → lm_S → Prop} {x0 x1 x2 : Int32} {a : An} {P : (Nat → Fn) → Prop} (hX : ∀ Q' : lm_O → lm_S → Prop, (∀ M1, P M1 → Q' (cO a) (lm_T M1 v G)) → lm_Q X d 109 [.ref 0, .int x0, .int x1, .int x2] (lm_T M v G) Q') (hQ : ∀ M1, P M1 → Q (.inl (some (.int (cd a)))) (lm_T M1 v (gO a G))) : lm_Q X (d + 1) 262 [.ref 0, .int x0, .int x1, .int x2, .ref 105] (lm_T M v G) Q := by
  show lm_G X (d + 1) 262 106 0 0 0 [some (.ref 0), some (.int x0), some (.int x1), some (.int x2), some (.ref 105), none] [] (lm_T M v G) Q
  refine lm_G_sg 6 (pc' := 7) (L' := [some (.ref 0), some (.int x0), some (.int x1), some (.int x2), some (.ref 105), none]) (S' := [.int x2, .int x1, .int x0, .ref 0, .int 0, .ref 105]) (σ' := lm_T M v G) rfl trivial ?_
  refine lm_G_ca (j := 109) (as := [.ref 0, .int x0, .int x1, .int x2]) (rest := [.int 0, .ref 105]) rfl (Or.inl rfl) (Nat.le_of_ble_eq_true rfl) (Nat.le_of_ble_eq_true rfl) (Nat.le_of_ble_eq_true rfl) (Nat.le_of_ble_eq_true rfl) rfl ?_
  refine hX _ (fun M1 h1 => ?_)
  cases a with
  | inl y =>
    show lm_G X (d + 1) 262 106 2 12 10 [some (.ref 0), some (.int x0), some (.int x1), some (.int x2), some (.ref 105), none] [.int y, .int 0, .ref 105] (lm_T M1 v G) Q
    refine lm_G_sg 4 (pc' := 24) (L' := [some (.ref 0), some (.int x0), some (.int x1), some (.int x2), some (.ref 105), none]) (S' := [.int 0]) (σ' := lm_T M1 v (lm_wg G 105 0 y.toInt64)) rfl ⟨(lm_inb_ok rfl), trivial, trivial⟩ ?_
    exact lm_G_re rfl trivial (Nat.le_of_ble_eq_true rfl) (Nat.le_of_ble_eq_true rfl) (hQ M1 h1)
  | inr b =>
    cases b with
    | false =>
      refine ⟨by decide, ?_⟩
      show lm_nl [some (.ref 0), some (.int x0), some (.int x1), some (.int x2), some (.ref 105), none] 5 = true ∧ 5 < 6 ∧ lm_G X (d + 1) 262 106 2 12 17 [some (.ref 0), some (.int x0), some (.int x1), some (.int x2), some (.ref 105), none] [] (lm_T M1 v G) Q
      refine ⟨rfl, by decide, ?_⟩
      refine lm_G_sg 1 (pc' := 18) (L' := [some (.ref 0), some (.int x0), some (.int x1), some (.int x2), some (.ref 105), none]) (S' := [.int 1]) (σ' := lm_T M1 v G) rfl trivial ?_
      exact lm_G_re rfl trivial (Nat.le_of_ble_eq_true rfl) (Nat.le_of_ble_eq_true rfl) (hQ M1 h1)
    | true =>
      refine ⟨by decide, ?_⟩
      show lm_nl [some (.ref 0), some (.int x0), some (.int x1), some (.int x2), some (.ref 105), none] 5 = true ∧ 5 < 6 ∧ lm_G X (d + 1) 262 106 2 12 21 [some (.ref 0), some (.int x0), some (.int x1), some (.int x2), some (.ref 105), none] [] (lm_T M1 v G) Q
      refine ⟨rfl, by decide, ?_⟩
      refine lm_G_sg 1 (pc' := 22) (L' := [some (.ref 0), some (.int x0), some (.int x1), some (.int x2), some (.ref 105), none]) (S' := [.int 2]) (σ' := lm_T M1 v G) rfl trivial ?_
      exact lm_G_re rfl trivial (Nat.le_of_ble_eq_true rfl) (Nat.le_of_ble_eq_true rfl) (hQ M1 h1)
set_option maxRecDepth 10000 in
theorem w_toHush {X : lm_X} {d v : Nat} {M : Nat → Nat → Int32} {G : Nat → Nat → Int64} {Q : lm_O → lm_S → Prop} {x0 x1 : Int32} {a : An} {P : (Nat → Fn) → Prop} (hX : ∀ Q' : lm_O → lm_S → Prop, (∀ M1, P M1 → Q' (cO a) (lm_T M1 v G)) → lm_Q X d 110 [.ref 0, .int x0, .int x1] (lm_T M v G) Q') (hQ : ∀ M1, P M1 → Q (.inl (some (.int (cd a)))) (lm_T M1 v (gO a G))) : lm_Q X (d + 1) 263 [.ref 0, .int x0, .int x1, .ref 105] (lm_T M v G) Q := by
  show lm_G X (d + 1) 263 106 0 0 0 [some (.ref 0), some (.int x0), some (.int x1), some (.ref 105), none] [] (lm_T M v G) Q
  refine lm_G_sg 5 (pc' := 5) (L' := [some (.ref 0), some (.int x0), some (.int x1), some (.ref 105), none]) (S' := [.int x1, .int x0, .ref 0, .int 0, .ref 105]) (σ' := lm_T M v G) rfl trivial ?_
  refine lm_G_ca (j := 110) (as := [.ref 0, .int x0, .int x1]) (rest := [.int 0, .ref 105]) rfl (Or.inl rfl) (Nat.le_of_ble_eq_true rfl) (Nat.le_of_ble_eq_true rfl) (Nat.le_of_ble_eq_true rfl) (Nat.le_of_ble_eq_true rfl) rfl ?_
  refine hX _ (fun M1 h1 => ?_)
  cases a with
  | inl y =>
    show lm_G X (d + 1) 263 106 2 12 8 [some (.ref 0), some (.int x0), some (.int x1), some (.ref 105), none] [.int y, .int 0, .ref 105] (lm_T M1 v G) Q
    refine lm_G_sg 4 (pc' := 22) (L' := [some (.ref 0), some (.int x0), some (.int x1), some (.ref 105), none]) (S' := [.int 0]) (σ' := lm_T M1 v (lm_wg G 105 0 y.toInt64)) rfl ⟨(lm_inb_ok rfl), trivial, trivial⟩ ?_
    exact lm_G_re rfl trivial (Nat.le_of_ble_eq_true rfl) (Nat.le_of_ble_eq_true rfl) (hQ M1 h1)
  | inr b =>
    cases b with
    | false =>
      refine ⟨by decide, ?_⟩
      show lm_nl [some (.ref 0), some (.int x0), some (.int x1), some (.ref 105), none] 4 = true ∧ 4 < 5 ∧ lm_G X (d + 1) 263 106 2 12 15 [some (.ref 0), some (.int x0), some (.int x1), some (.ref 105), none] [] (lm_T M1 v G) Q
      refine ⟨rfl, by decide, ?_⟩
      refine lm_G_sg 1 (pc' := 16) (L' := [some (.ref 0), some (.int x0), some (.int x1), some (.ref 105), none]) (S' := [.int 1]) (σ' := lm_T M1 v G) rfl trivial ?_
      exact lm_G_re rfl trivial (Nat.le_of_ble_eq_true rfl) (Nat.le_of_ble_eq_true rfl) (hQ M1 h1)
    | true =>
      refine ⟨by decide, ?_⟩
      show lm_nl [some (.ref 0), some (.int x0), some (.int x1), some (.ref 105), none] 4 = true ∧ 4 < 5 ∧ lm_G X (d + 1) 263 106 2 12 19 [some (.ref 0), some (.int x0), some (.int x1), some (.ref 105), none] [] (lm_T M1 v G) Q
      refine ⟨rfl, by decide, ?_⟩
      refine lm_G_sg 1 (pc' := 20) (L' := [some (.ref 0), some (.int x0), some (.int x1), some (.ref 105), none]) (S' := [.int 2]) (σ' := lm_T M1 v G) rfl trivial ?_
      exact lm_G_re rfl trivial (Nat.le_of_ble_eq_true rfl) (Nat.le_of_ble_eq_true rfl) (hQ M1 h1)
set_option maxRecDepth 10000 in
theorem w_without {X : lm_X} {d v : Nat} {M : Nat → Nat → Int32} {G : Nat → Nat → Int64} {Q : lm_O → lm_S → Prop} {x0 x1 : Int32} {a : An} {P : (Nat → Fn) → Prop} (hX : ∀ Q' : lm_O → lm_S → Prop, (∀ M1, P M1 → Q' (cO a) (lm_T M1 v G)) → lm_Q X d 111 [.ref 0, .int x0, .int x1] (lm_T M v G) Q') (hQ : ∀ M1, P M1 → Q (.inl (some (.int (cd a)))) (lm_T M1 v (gO a G))) : lm_Q X (d + 1) 264 [.ref 0, .int x0, .int x1, .ref 105] (lm_T M v G) Q := by
  show lm_G X (d + 1) 264 106 0 0 0 [some (.ref 0), some (.int x0), some (.int x1), some (.ref 105), none] [] (lm_T M v G) Q
  refine lm_G_sg 5 (pc' := 5) (L' := [some (.ref 0), some (.int x0), some (.int x1), some (.ref 105), none]) (S' := [.int x1, .int x0, .ref 0, .int 0, .ref 105]) (σ' := lm_T M v G) rfl trivial ?_
  refine lm_G_ca (j := 111) (as := [.ref 0, .int x0, .int x1]) (rest := [.int 0, .ref 105]) rfl (Or.inl rfl) (Nat.le_of_ble_eq_true rfl) (Nat.le_of_ble_eq_true rfl) (Nat.le_of_ble_eq_true rfl) (Nat.le_of_ble_eq_true rfl) rfl ?_
  refine hX _ (fun M1 h1 => ?_)
  cases a with
  | inl y =>
    show lm_G X (d + 1) 264 106 2 12 8 [some (.ref 0), some (.int x0), some (.int x1), some (.ref 105), none] [.int y, .int 0, .ref 105] (lm_T M1 v G) Q
    refine lm_G_sg 4 (pc' := 22) (L' := [some (.ref 0), some (.int x0), some (.int x1), some (.ref 105), none]) (S' := [.int 0]) (σ' := lm_T M1 v (lm_wg G 105 0 y.toInt64)) rfl ⟨(lm_inb_ok rfl), trivial, trivial⟩ ?_
    exact lm_G_re rfl trivial (Nat.le_of_ble_eq_true rfl) (Nat.le_of_ble_eq_true rfl) (hQ M1 h1)
  | inr b =>
    cases b with
    | false =>
      refine ⟨by decide, ?_⟩
      show lm_nl [some (.ref 0), some (.int x0), some (.int x1), some (.ref 105), none] 4 = true ∧ 4 < 5 ∧ lm_G X (d + 1) 264 106 2 12 15 [some (.ref 0), some (.int x0), some (.int x1), some (.ref 105), none] [] (lm_T M1 v G) Q
      refine ⟨rfl, by decide, ?_⟩
      refine lm_G_sg 1 (pc' := 16) (L' := [some (.ref 0), some (.int x0), some (.int x1), some (.ref 105), none]) (S' := [.int 1]) (σ' := lm_T M1 v G) rfl trivial ?_
      exact lm_G_re rfl trivial (Nat.le_of_ble_eq_true rfl) (Nat.le_of_ble_eq_true rfl) (hQ M1 h1)
    | true =>
      refine ⟨by decide, ?_⟩
      show lm_nl [some (.ref 0), some (.int x0), some (.int x1), some (.ref 105), none] 4 = true ∧ 4 < 5 ∧ lm_G X (d + 1) 264 106 2 12 19 [some (.ref 0), some (.int x0), some (.int x1), some (.ref 105), none] [] (lm_T M1 v G) Q
      refine ⟨rfl, by decide, ?_⟩
      refine lm_G_sg 1 (pc' := 20) (L' := [some (.ref 0), some (.int x0), some (.int x1), some (.ref 105), none]) (S' := [.int 2]) (σ' := lm_T M1 v G) rfl trivial ?_
      exact lm_G_re rfl trivial (Nat.le_of_ble_eq_true rfl) (Nat.le_of_ble_eq_true rfl) (hQ M1 h1)
set_option maxRecDepth 10000 in
theorem w_round {X : lm_X} {d v : Nat} {M : Nat → Nat → Int32} {G : Nat → Nat → Int64} {Q : lm_O → lm_S → Prop} {x0 : Int32} {a : An} {P : (Nat → Fn) → Prop} (hn : a ≠ .inr true) (hX : ∀ Q' : lm_O → lm_S → Prop, (∀ M1, P M1 → Q' (cO a) (lm_T M1 v G)) → lm_Q X d 112 [.ref 0, .int x0] (lm_T M v G) Q') (hQ : ∀ M1, P M1 → Q (.inl (some (.int (cd a)))) (lm_T M1 v (gO a G))) : lm_Q X (d + 1) 265 [.ref 0, .int x0, .ref 105] (lm_T M v G) Q := by
  show lm_G X (d + 1) 265 106 0 0 0 [some (.ref 0), some (.int x0), some (.ref 105), none] [] (lm_T M v G) Q
  refine lm_G_sg 4 (pc' := 4) (L' := [some (.ref 0), some (.int x0), some (.ref 105), none]) (S' := [.int x0, .ref 0, .int 0, .ref 105]) (σ' := lm_T M v G) rfl trivial ?_
  refine lm_G_ca (j := 112) (as := [.ref 0, .int x0]) (rest := [.int 0, .ref 105]) rfl (Or.inl rfl) (Nat.le_of_ble_eq_true rfl) (Nat.le_of_ble_eq_true rfl) (Nat.le_of_ble_eq_true rfl) (Nat.le_of_ble_eq_true rfl) rfl ?_
  refine hX _ (fun M1 h1 => ?_)
  cases a with
  | inl y =>
    show lm_G X (d + 1) 265 106 1 6 7 [some (.ref 0), some (.int x0), some (.ref 105), none] [.int y, .int 0, .ref 105] (lm_T M1 v G) Q
    refine lm_G_sg 4 (pc' := 16) (L' := [some (.ref 0), some (.int x0), some (.ref 105), none]) (S' := [.int 0]) (σ' := lm_T M1 v (lm_wg G 105 0 y.toInt64)) rfl ⟨(lm_inb_ok rfl), trivial, trivial⟩ ?_
    exact lm_G_re rfl trivial (Nat.le_of_ble_eq_true rfl) (Nat.le_of_ble_eq_true rfl) (hQ M1 h1)
  | inr b =>
    cases b with
    | false =>
      refine ⟨by decide, ?_⟩
      show lm_nl [some (.ref 0), some (.int x0), some (.ref 105), none] 3 = true ∧ 3 < 4 ∧ lm_G X (d + 1) 265 106 1 6 13 [some (.ref 0), some (.int x0), some (.ref 105), none] [] (lm_T M1 v G) Q
      refine ⟨rfl, by decide, ?_⟩
      refine lm_G_sg 1 (pc' := 14) (L' := [some (.ref 0), some (.int x0), some (.ref 105), none]) (S' := [.int 1]) (σ' := lm_T M1 v G) rfl trivial ?_
      exact lm_G_re rfl trivial (Nat.le_of_ble_eq_true rfl) (Nat.le_of_ble_eq_true rfl) (hQ M1 h1)
    | true =>
      exact absurd rfl hn
set_option maxRecDepth 10000 in
theorem w_see {X : lm_X} {d v : Nat} {M : Nat → Nat → Int32} {G : Nat → Nat → Int64} {Q : lm_O → lm_S → Prop} {x0 x1 x2 : Int32} {a : An} {P : (Nat → Fn) → Prop} (hn : a ≠ .inr true) (hX : ∀ Q' : lm_O → lm_S → Prop, (∀ M1, P M1 → Q' (cO a) (lm_T M1 v G)) → lm_Q X d 113 [.ref 0, .int x0, .int x1, .int x2] (lm_T M v G) Q') (hQ : ∀ M1, P M1 → Q (.inl (some (.int (cd a)))) (lm_T M1 v (gO a G))) : lm_Q X (d + 1) 266 [.ref 0, .int x0, .int x1, .int x2, .ref 105] (lm_T M v G) Q := by
  show lm_G X (d + 1) 266 106 0 0 0 [some (.ref 0), some (.int x0), some (.int x1), some (.int x2), some (.ref 105), none] [] (lm_T M v G) Q
  refine lm_G_sg 6 (pc' := 7) (L' := [some (.ref 0), some (.int x0), some (.int x1), some (.int x2), some (.ref 105), none]) (S' := [.int x2, .int x1, .int x0, .ref 0, .int 0, .ref 105]) (σ' := lm_T M v G) rfl trivial ?_
  refine lm_G_ca (j := 113) (as := [.ref 0, .int x0, .int x1, .int x2]) (rest := [.int 0, .ref 105]) rfl (Or.inl rfl) (Nat.le_of_ble_eq_true rfl) (Nat.le_of_ble_eq_true rfl) (Nat.le_of_ble_eq_true rfl) (Nat.le_of_ble_eq_true rfl) rfl ?_
  refine hX _ (fun M1 h1 => ?_)
  cases a with
  | inl y =>
    show lm_G X (d + 1) 266 106 1 6 10 [some (.ref 0), some (.int x0), some (.int x1), some (.int x2), some (.ref 105), none] [.int y, .int 0, .ref 105] (lm_T M1 v G) Q
    refine lm_G_sg 4 (pc' := 20) (L' := [some (.ref 0), some (.int x0), some (.int x1), some (.int x2), some (.ref 105), none]) (S' := [.int 0]) (σ' := lm_T M1 v (lm_wg G 105 0 y.toInt64)) rfl ⟨(lm_inb_ok rfl), trivial, trivial⟩ ?_
    exact lm_G_re rfl trivial (Nat.le_of_ble_eq_true rfl) (Nat.le_of_ble_eq_true rfl) (hQ M1 h1)
  | inr b =>
    cases b with
    | false =>
      refine ⟨by decide, ?_⟩
      show lm_nl [some (.ref 0), some (.int x0), some (.int x1), some (.int x2), some (.ref 105), none] 5 = true ∧ 5 < 6 ∧ lm_G X (d + 1) 266 106 1 6 17 [some (.ref 0), some (.int x0), some (.int x1), some (.int x2), some (.ref 105), none] [] (lm_T M1 v G) Q
      refine ⟨rfl, by decide, ?_⟩
      refine lm_G_sg 1 (pc' := 18) (L' := [some (.ref 0), some (.int x0), some (.int x1), some (.int x2), some (.ref 105), none]) (S' := [.int 1]) (σ' := lm_T M1 v G) rfl trivial ?_
      exact lm_G_re rfl trivial (Nat.le_of_ble_eq_true rfl) (Nat.le_of_ble_eq_true rfl) (hQ M1 h1)
    | true =>
      exact absurd rfl hn
set_option maxRecDepth 10000 in
theorem w_deep {X : lm_X} {d v : Nat} {M : Nat → Nat → Int32} {G : Nat → Nat → Int64} {Q : lm_O → lm_S → Prop} {x0 : Int32} {a : An} {P : (Nat → Fn) → Prop} (hn : a ≠ .inr true) (hX : ∀ Q' : lm_O → lm_S → Prop, (∀ M1, P M1 → Q' (cO a) (lm_T M1 v G)) → lm_Q X d 114 [.ref 0, .int x0] (lm_T M v G) Q') (hQ : ∀ M1, P M1 → Q (.inl (some (.int (cd a)))) (lm_T M1 v (gO a G))) : lm_Q X (d + 1) 267 [.ref 0, .int x0, .ref 105] (lm_T M v G) Q := by
  show lm_G X (d + 1) 267 106 0 0 0 [some (.ref 0), some (.int x0), some (.ref 105), none] [] (lm_T M v G) Q
  refine lm_G_sg 4 (pc' := 4) (L' := [some (.ref 0), some (.int x0), some (.ref 105), none]) (S' := [.int x0, .ref 0, .int 0, .ref 105]) (σ' := lm_T M v G) rfl trivial ?_
  refine lm_G_ca (j := 114) (as := [.ref 0, .int x0]) (rest := [.int 0, .ref 105]) rfl (Or.inl rfl) (Nat.le_of_ble_eq_true rfl) (Nat.le_of_ble_eq_true rfl) (Nat.le_of_ble_eq_true rfl) (Nat.le_of_ble_eq_true rfl) rfl ?_
  refine hX _ (fun M1 h1 => ?_)
  cases a with
  | inl y =>
    show lm_G X (d + 1) 267 106 1 6 7 [some (.ref 0), some (.int x0), some (.ref 105), none] [.int y, .int 0, .ref 105] (lm_T M1 v G) Q
    refine lm_G_sg 4 (pc' := 16) (L' := [some (.ref 0), some (.int x0), some (.ref 105), none]) (S' := [.int 0]) (σ' := lm_T M1 v (lm_wg G 105 0 y.toInt64)) rfl ⟨(lm_inb_ok rfl), trivial, trivial⟩ ?_
    exact lm_G_re rfl trivial (Nat.le_of_ble_eq_true rfl) (Nat.le_of_ble_eq_true rfl) (hQ M1 h1)
  | inr b =>
    cases b with
    | false =>
      refine ⟨by decide, ?_⟩
      show lm_nl [some (.ref 0), some (.int x0), some (.ref 105), none] 3 = true ∧ 3 < 4 ∧ lm_G X (d + 1) 267 106 1 6 13 [some (.ref 0), some (.int x0), some (.ref 105), none] [] (lm_T M1 v G) Q
      refine ⟨rfl, by decide, ?_⟩
      refine lm_G_sg 1 (pc' := 14) (L' := [some (.ref 0), some (.int x0), some (.ref 105), none]) (S' := [.int 1]) (σ' := lm_T M1 v G) rfl trivial ?_
      exact lm_G_re rfl trivial (Nat.le_of_ble_eq_true rfl) (Nat.le_of_ble_eq_true rfl) (hQ M1 h1)
    | true =>
      exact absurd rfl hn
set_option maxRecDepth 10000 in
theorem w_look {X : lm_X} {d v : Nat} {M : Nat → Nat → Int32} {G : Nat → Nat → Int64} {Q : lm_O → lm_S → Prop} {x0 : Int32} {a : An} {P : (Nat → Fn) → Prop} (hn : a ≠ .inr true) (hX : ∀ Q' : lm_O → lm_S → Prop, (∀ M1, P M1 → Q' (cO a) (lm_T M1 v G)) → lm_Q X d 115 [.ref 0, .int x0] (lm_T M v G) Q') (hQ : ∀ M1, P M1 → Q (.inl (some (.int (cd a)))) (lm_T M1 v (gO a G))) : lm_Q X (d + 1) 268 [.ref 0, .int x0, .ref 105] (lm_T M v G) Q := by
  show lm_G X (d + 1) 268 106 0 0 0 [some (.ref 0), some (.int x0), some (.ref 105), none] [] (lm_T M v G) Q
  refine lm_G_sg 4 (pc' := 4) (L' := [some (.ref 0), some (.int x0), some (.ref 105), none]) (S' := [.int x0, .ref 0, .int 0, .ref 105]) (σ' := lm_T M v G) rfl trivial ?_
  refine lm_G_ca (j := 115) (as := [.ref 0, .int x0]) (rest := [.int 0, .ref 105]) rfl (Or.inl rfl) (Nat.le_of_ble_eq_true rfl) (Nat.le_of_ble_eq_true rfl) (Nat.le_of_ble_eq_true rfl) (Nat.le_of_ble_eq_true rfl) rfl ?_
  refine hX _ (fun M1 h1 => ?_)
  cases a with
  | inl y =>
    show lm_G X (d + 1) 268 106 1 6 7 [some (.ref 0), some (.int x0), some (.ref 105), none] [.int y, .int 0, .ref 105] (lm_T M1 v G) Q
    refine lm_G_sg 4 (pc' := 16) (L' := [some (.ref 0), some (.int x0), some (.ref 105), none]) (S' := [.int 0]) (σ' := lm_T M1 v (lm_wg G 105 0 y.toInt64)) rfl ⟨(lm_inb_ok rfl), trivial, trivial⟩ ?_
    exact lm_G_re rfl trivial (Nat.le_of_ble_eq_true rfl) (Nat.le_of_ble_eq_true rfl) (hQ M1 h1)
  | inr b =>
    cases b with
    | false =>
      refine ⟨by decide, ?_⟩
      show lm_nl [some (.ref 0), some (.int x0), some (.ref 105), none] 3 = true ∧ 3 < 4 ∧ lm_G X (d + 1) 268 106 1 6 13 [some (.ref 0), some (.int x0), some (.ref 105), none] [] (lm_T M1 v G) Q
      refine ⟨rfl, by decide, ?_⟩
      refine lm_G_sg 1 (pc' := 14) (L' := [some (.ref 0), some (.int x0), some (.ref 105), none]) (S' := [.int 1]) (σ' := lm_T M1 v G) rfl trivial ?_
      exact lm_G_re rfl trivial (Nat.le_of_ble_eq_true rfl) (Nat.le_of_ble_eq_true rfl) (hQ M1 h1)
    | true =>
      exact absurd rfl hn
set_option maxRecDepth 10000 in
theorem w_thunder {X : lm_X} {d v : Nat} {M : Nat → Nat → Int32} {G : Nat → Nat → Int64} {Q : lm_O → lm_S → Prop} {x0 x1 x2 x3 : Int32} {a : An} {P : (Nat → Fn) → Prop} (hX : ∀ Q' : lm_O → lm_S → Prop, (∀ M1, P M1 → Q' (cO a) (lm_T M1 v G)) → lm_Q X d 121 [.ref 0, .int x0, .int x1, .int x2, .int x3] (lm_T M v G) Q') (hQ : ∀ M1, P M1 → Q (.inl (some (.int (cd a)))) (lm_T M1 v (gO a G))) : lm_Q X (d + 1) 269 [.ref 0, .int x0, .int x1, .int x2, .int x3, .ref 105] (lm_T M v G) Q := by
  show lm_G X (d + 1) 269 106 0 0 0 [some (.ref 0), some (.int x0), some (.int x1), some (.int x2), some (.int x3), some (.ref 105), none] [] (lm_T M v G) Q
  refine lm_G_sg 7 (pc' := 9) (L' := [some (.ref 0), some (.int x0), some (.int x1), some (.int x2), some (.int x3), some (.ref 105), none]) (S' := [.int x3, .int x2, .int x1, .int x0, .ref 0, .int 0, .ref 105]) (σ' := lm_T M v G) rfl trivial ?_
  refine lm_G_ca (j := 121) (as := [.ref 0, .int x0, .int x1, .int x2, .int x3]) (rest := [.int 0, .ref 105]) rfl (Or.inl rfl) (Nat.le_of_ble_eq_true rfl) (Nat.le_of_ble_eq_true rfl) (Nat.le_of_ble_eq_true rfl) (Nat.le_of_ble_eq_true rfl) rfl ?_
  refine hX _ (fun M1 h1 => ?_)
  cases a with
  | inl y =>
    show lm_G X (d + 1) 269 106 2 12 12 [some (.ref 0), some (.int x0), some (.int x1), some (.int x2), some (.int x3), some (.ref 105), none] [.int y, .int 0, .ref 105] (lm_T M1 v G) Q
    refine lm_G_sg 4 (pc' := 26) (L' := [some (.ref 0), some (.int x0), some (.int x1), some (.int x2), some (.int x3), some (.ref 105), none]) (S' := [.int 0]) (σ' := lm_T M1 v (lm_wg G 105 0 y.toInt64)) rfl ⟨(lm_inb_ok rfl), trivial, trivial⟩ ?_
    exact lm_G_re rfl trivial (Nat.le_of_ble_eq_true rfl) (Nat.le_of_ble_eq_true rfl) (hQ M1 h1)
  | inr b =>
    cases b with
    | false =>
      refine ⟨by decide, ?_⟩
      show lm_nl [some (.ref 0), some (.int x0), some (.int x1), some (.int x2), some (.int x3), some (.ref 105), none] 6 = true ∧ 6 < 7 ∧ lm_G X (d + 1) 269 106 2 12 19 [some (.ref 0), some (.int x0), some (.int x1), some (.int x2), some (.int x3), some (.ref 105), none] [] (lm_T M1 v G) Q
      refine ⟨rfl, by decide, ?_⟩
      refine lm_G_sg 1 (pc' := 20) (L' := [some (.ref 0), some (.int x0), some (.int x1), some (.int x2), some (.int x3), some (.ref 105), none]) (S' := [.int 1]) (σ' := lm_T M1 v G) rfl trivial ?_
      exact lm_G_re rfl trivial (Nat.le_of_ble_eq_true rfl) (Nat.le_of_ble_eq_true rfl) (hQ M1 h1)
    | true =>
      refine ⟨by decide, ?_⟩
      show lm_nl [some (.ref 0), some (.int x0), some (.int x1), some (.int x2), some (.int x3), some (.ref 105), none] 6 = true ∧ 6 < 7 ∧ lm_G X (d + 1) 269 106 2 12 23 [some (.ref 0), some (.int x0), some (.int x1), some (.int x2), some (.int x3), some (.ref 105), none] [] (lm_T M1 v G) Q
      refine ⟨rfl, by decide, ?_⟩
      refine lm_G_sg 1 (pc' := 24) (L' := [some (.ref 0), some (.int x0), some (.int x1), some (.int x2), some (.int x3), some (.ref 105), none]) (S' := [.int 2]) (σ' := lm_T M1 v G) rfl trivial ?_
      exact lm_G_re rfl trivial (Nat.le_of_ble_eq_true rfl) (Nat.le_of_ble_eq_true rfl) (hQ M1 h1)
set_option maxRecDepth 10000 in
theorem w_game {X : lm_X} {d v : Nat} {M : Nat → Nat → Int32} {G : Nat → Nat → Int64} {Q : lm_O → lm_S → Prop} {x0 x1 x2 : Int32} {a : An} {P : (Nat → Fn) → Prop} (hX : ∀ Q' : lm_O → lm_S → Prop, (∀ M1, P M1 → Q' (cO a) (lm_T M1 v G)) → lm_Q X d 123 [.ref 0, .int x0, .int x1, .int x2] (lm_T M v G) Q') (hQ : ∀ M1, P M1 → Q (.inl (some (.int (cd a)))) (lm_T M1 v (gO a G))) : lm_Q X (d + 1) 270 [.ref 0, .int x0, .int x1, .int x2, .ref 105] (lm_T M v G) Q := by
  show lm_G X (d + 1) 270 106 0 0 0 [some (.ref 0), some (.int x0), some (.int x1), some (.int x2), some (.ref 105), none] [] (lm_T M v G) Q
  refine lm_G_sg 6 (pc' := 7) (L' := [some (.ref 0), some (.int x0), some (.int x1), some (.int x2), some (.ref 105), none]) (S' := [.int x2, .int x1, .int x0, .ref 0, .int 0, .ref 105]) (σ' := lm_T M v G) rfl trivial ?_
  refine lm_G_ca (j := 123) (as := [.ref 0, .int x0, .int x1, .int x2]) (rest := [.int 0, .ref 105]) rfl (Or.inl rfl) (Nat.le_of_ble_eq_true rfl) (Nat.le_of_ble_eq_true rfl) (Nat.le_of_ble_eq_true rfl) (Nat.le_of_ble_eq_true rfl) rfl ?_
  refine hX _ (fun M1 h1 => ?_)
  cases a with
  | inl y =>
    show lm_G X (d + 1) 270 106 2 12 10 [some (.ref 0), some (.int x0), some (.int x1), some (.int x2), some (.ref 105), none] [.int y, .int 0, .ref 105] (lm_T M1 v G) Q
    refine lm_G_sg 4 (pc' := 24) (L' := [some (.ref 0), some (.int x0), some (.int x1), some (.int x2), some (.ref 105), none]) (S' := [.int 0]) (σ' := lm_T M1 v (lm_wg G 105 0 y.toInt64)) rfl ⟨(lm_inb_ok rfl), trivial, trivial⟩ ?_
    exact lm_G_re rfl trivial (Nat.le_of_ble_eq_true rfl) (Nat.le_of_ble_eq_true rfl) (hQ M1 h1)
  | inr b =>
    cases b with
    | false =>
      refine ⟨by decide, ?_⟩
      show lm_nl [some (.ref 0), some (.int x0), some (.int x1), some (.int x2), some (.ref 105), none] 5 = true ∧ 5 < 6 ∧ lm_G X (d + 1) 270 106 2 12 17 [some (.ref 0), some (.int x0), some (.int x1), some (.int x2), some (.ref 105), none] [] (lm_T M1 v G) Q
      refine ⟨rfl, by decide, ?_⟩
      refine lm_G_sg 1 (pc' := 18) (L' := [some (.ref 0), some (.int x0), some (.int x1), some (.int x2), some (.ref 105), none]) (S' := [.int 1]) (σ' := lm_T M1 v G) rfl trivial ?_
      exact lm_G_re rfl trivial (Nat.le_of_ble_eq_true rfl) (Nat.le_of_ble_eq_true rfl) (hQ M1 h1)
    | true =>
      refine ⟨by decide, ?_⟩
      show lm_nl [some (.ref 0), some (.int x0), some (.int x1), some (.int x2), some (.ref 105), none] 5 = true ∧ 5 < 6 ∧ lm_G X (d + 1) 270 106 2 12 21 [some (.ref 0), some (.int x0), some (.int x1), some (.int x2), some (.ref 105), none] [] (lm_T M1 v G) Q
      refine ⟨rfl, by decide, ?_⟩
      refine lm_G_sg 1 (pc' := 22) (L' := [some (.ref 0), some (.int x0), some (.int x1), some (.int x2), some (.ref 105), none]) (S' := [.int 2]) (σ' := lm_T M1 v G) rfl trivial ?_
      exact lm_G_re rfl trivial (Nat.le_of_ble_eq_true rfl) (Nat.le_of_ble_eq_true rfl) (hQ M1 h1)
set_option maxRecDepth 10000 in
theorem w_years {X : lm_X} {d v : Nat} {M : Nat → Nat → Int32} {G : Nat → Nat → Int64} {Q : lm_O → lm_S → Prop} {x0 x1 x2 : Int32} {a : An} {P : (Nat → Fn) → Prop} (hX : ∀ Q' : lm_O → lm_S → Prop, (∀ M1, P M1 → Q' (cO a) (lm_T M1 v G)) → lm_Q X d 126 [.ref 0, .int x0, .int x1, .int x2] (lm_T M v G) Q') (hQ : ∀ M1, P M1 → Q (.inl (some (.int (cd a)))) (lm_T M1 v (gO a G))) : lm_Q X (d + 1) 271 [.ref 0, .int x0, .int x1, .int x2, .ref 105] (lm_T M v G) Q := by
  show lm_G X (d + 1) 271 106 0 0 0 [some (.ref 0), some (.int x0), some (.int x1), some (.int x2), some (.ref 105), none] [] (lm_T M v G) Q
  refine lm_G_sg 6 (pc' := 7) (L' := [some (.ref 0), some (.int x0), some (.int x1), some (.int x2), some (.ref 105), none]) (S' := [.int x2, .int x1, .int x0, .ref 0, .int 0, .ref 105]) (σ' := lm_T M v G) rfl trivial ?_
  refine lm_G_ca (j := 126) (as := [.ref 0, .int x0, .int x1, .int x2]) (rest := [.int 0, .ref 105]) rfl (Or.inl rfl) (Nat.le_of_ble_eq_true rfl) (Nat.le_of_ble_eq_true rfl) (Nat.le_of_ble_eq_true rfl) (Nat.le_of_ble_eq_true rfl) rfl ?_
  refine hX _ (fun M1 h1 => ?_)
  cases a with
  | inl y =>
    show lm_G X (d + 1) 271 106 2 12 10 [some (.ref 0), some (.int x0), some (.int x1), some (.int x2), some (.ref 105), none] [.int y, .int 0, .ref 105] (lm_T M1 v G) Q
    refine lm_G_sg 4 (pc' := 24) (L' := [some (.ref 0), some (.int x0), some (.int x1), some (.int x2), some (.ref 105), none]) (S' := [.int 0]) (σ' := lm_T M1 v (lm_wg G 105 0 y.toInt64)) rfl ⟨(lm_inb_ok rfl), trivial, trivial⟩ ?_
    exact lm_G_re rfl trivial (Nat.le_of_ble_eq_true rfl) (Nat.le_of_ble_eq_true rfl) (hQ M1 h1)
  | inr b =>
    cases b with
    | false =>
      refine ⟨by decide, ?_⟩
      show lm_nl [some (.ref 0), some (.int x0), some (.int x1), some (.int x2), some (.ref 105), none] 5 = true ∧ 5 < 6 ∧ lm_G X (d + 1) 271 106 2 12 17 [some (.ref 0), some (.int x0), some (.int x1), some (.int x2), some (.ref 105), none] [] (lm_T M1 v G) Q
      refine ⟨rfl, by decide, ?_⟩
      refine lm_G_sg 1 (pc' := 18) (L' := [some (.ref 0), some (.int x0), some (.int x1), some (.int x2), some (.ref 105), none]) (S' := [.int 1]) (σ' := lm_T M1 v G) rfl trivial ?_
      exact lm_G_re rfl trivial (Nat.le_of_ble_eq_true rfl) (Nat.le_of_ble_eq_true rfl) (hQ M1 h1)
    | true =>
      refine ⟨by decide, ?_⟩
      show lm_nl [some (.ref 0), some (.int x0), some (.int x1), some (.int x2), some (.ref 105), none] 5 = true ∧ 5 < 6 ∧ lm_G X (d + 1) 271 106 2 12 21 [some (.ref 0), some (.int x0), some (.int x1), some (.int x2), some (.ref 105), none] [] (lm_T M1 v G) Q
      refine ⟨rfl, by decide, ?_⟩
      refine lm_G_sg 1 (pc' := 22) (L' := [some (.ref 0), some (.int x0), some (.int x1), some (.int x2), some (.ref 105), none]) (S' := [.int 2]) (σ' := lm_T M1 v G) rfl trivial ?_
      exact lm_G_re rfl trivial (Nat.le_of_ble_eq_true rfl) (Nat.le_of_ble_eq_true rfl) (hQ M1 h1)
