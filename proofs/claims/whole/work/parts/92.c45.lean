/-! ===== contracts: the class reads a text, tells a fault, forgets ===== -/
def hfS (L : Nat) (x : Int32) : Bool := decide (0 ≤ x) && decide (x ≤ nI L)
theorem frO_s (a : Nat) : frO a a = true := by
  unfold frO
  rw [beq_self_eq_true]
theorem RC_wr {M : Nat → Fn} {F : Fa} {s : Sc} (h : RC 28 M F s) {a j : Nat} {x : Int32} (ha : a = 0 ∨ a = 52 ∨ a = 56) : RC 28 (lm_wr M a j x) F s := by
  rcases ha with e | e | e <;> subst e
  · exact RC_fr h (Fr_wr (Fr_rf (frO 0) M) (frO_s 0)) (by decide) (by decide)
  · exact RC_fr h (Fr_wr (Fr_rf (frO 52) M) (frO_s 52)) (by decide) (by decide)
  · exact RC_fr h (Fr_wr (Fr_rf (frO 56) M) (frO_s 56)) (by decide) (by decide)
theorem CS_V {M M1 : Nat → Fn} {F : Fa} {s : Sc} {B : Bk} (h : CS M F s B) (f : Fr frV M M1) : CS M1 F s B :=
  ⟨RC_fr h.1 f (by decide) (by decide), by rw [f 28 rfl]; exact h.2.1, CB_fr h.2.2 (f 52 rfl) (f 54 rfl) (f 55 rfl) (f 56 rfl)⟩
theorem CS_rf0 {M : Nat → Fn} {F : Fa} {s : Sc} {B : Bk} (h : CS M F s B) : CS (lm_wr M 56 0 (M 56 0 + 1)) F s (rfB B 0) :=
  ⟨RC_wr h.1 (by decide), h.2.1, CB_rf h.2.2 (by decide)⟩
set_option maxRecDepth 10000 in
theorem c_hills {X : lm_X} {d v : Nat} {M : Nat → Nat → Int32} {G : Nat → Nat → Int64} {Q : lm_O → lm_S → Prop} {F : Fa} {s : Sc} {B : Bk} {L : Nat} {tp : Nat → Nat} {x : Int32} (hc0 : CS M F s B) (ht : CT M L tp) (hL : L ≤ 700) (hb : ∀ i, i < L → tp i < 256) (hQ : (hfS L x = false → Q (.inr 1) (lm_T M v G)) ∧ (∀ n, n ≤ L → x = nI n → (∀ D, txS (n, tp) = .inl D → okD D → ∀ M1, CS M1 (toF D) (toS D) (clB B) → M1 1 1 = 0 → M1 1 11 = -1 → M1 0 8 = 0 → Ag (dNo D) (M1 15) (dBr D) → (∀ r, 64 ≤ r → M1 r = M r) → Q (.inl (some (.int 0))) (lm_T M1 v G)) ∧ (∀ e a, txS (n, tp) = .inr (e, a) → ∀ M1, CS M1 F s (rfB B 0) → M1 1 1 = 0 → M1 1 11 = nI a → (∀ r, r ≠ 1 → (r < 3 ∨ 13 < r) → r ≠ 56 → M1 r = M r) → Q (.inl (some (.int (nI e)))) (lm_T M1 v G)))) : lm_Q X (d + 47) 87 [.ref 0, .int x] (lm_T M v G) Q := by
  show lm_G X (d + 47) 87 106 0 0 0 [some (.ref 0), some (.int x)] [] (lm_T M v G) Q
  refine lm_G_sg 1 (pc' := 1) (L' := [some (.ref 0), some (.int x)]) (S' := [.int x]) (σ' := lm_T M v G) rfl trivial ?_
  refine lm_G_br (b := x < 0) (t := 19) (S' := []) rfl (fun g0 => ?_) (fun g0 => ?_)
  ·
    refine lm_G_sg 1 (pc' := 20) (L' := [some (.ref 0), some (.int x)]) (S' := [.int 0]) (σ' := lm_T M v G) rfl trivial ?_
    refine lm_G_ca (j := 138) (as := [.int 0]) (rest := []) rfl (Or.inl rfl) (Nat.le_of_ble_eq_true rfl) (Nat.le_of_ble_eq_true rfl) (Nat.le_of_ble_eq_true rfl) (Nat.le_of_ble_eq_true rfl) rfl ?_
    exact c_mustFitF ⟨by decide, rfl, hQ.1 (by unfold hfS; rw [decide_eq_false (Int32.not_le.mpr g0)]; rfl)⟩
  ·
    refine lm_G_sg 4 (pc' := 12) (L' := [some (.ref 0), some (.int x)]) (S' := [.int (M 1 1), .int x]) (σ' := lm_T M v G) rfl trivial ?_
    rw [show M 1 1 = nI L from ht.1]
    refine lm_G_br (b := (nI L) < x) (t := 19) (S' := []) rfl (fun g1 => ?_) (fun g1 => ?_)
    ·
      refine lm_G_sg 1 (pc' := 20) (L' := [some (.ref 0), some (.int x)]) (S' := [.int 0]) (σ' := lm_T M v G) rfl trivial ?_
      refine lm_G_ca (j := 138) (as := [.int 0]) (rest := []) rfl (Or.inl rfl) (Nat.le_of_ble_eq_true rfl) (Nat.le_of_ble_eq_true rfl) (Nat.le_of_ble_eq_true rfl) (Nat.le_of_ble_eq_true rfl) rfl ?_
      exact c_mustFitF ⟨by decide, rfl, hQ.1 (by unfold hfS; rw [decide_eq_false (Int32.not_le.mpr g1), Bool.and_false])⟩
    ·
      obtain ⟨n, hn, rfl⟩ := nI_of2 (nI_toInt (by omega : L < 2 ^ 31)) g0 (Int32.not_lt.mp g1)
      have hT : okT (n, tp) := ⟨by show n ≤ 700; omega, fun i hi => hb i (by replace hi : i < n := hi; omega)⟩
      refine lm_G_sg 2 (pc' := 20) (L' := [some (.ref 0), some (.int (nI n))]) (S' := [.int 1]) (σ' := lm_T M v G) rfl trivial ?_
      refine lm_G_ca (j := 138) (as := [.int 1]) (rest := []) rfl (Or.inl rfl) (Nat.le_of_ble_eq_true rfl) (Nat.le_of_ble_eq_true rfl) (Nat.le_of_ble_eq_true rfl) (Nat.le_of_ble_eq_true rfl) rfl ?_
      refine c_mustFitT ?_
      show lm_G X (d + 47) 87 106 1 6 23 [some (.ref 0), some (.int (nI n))] [] (lm_T M v G) Q
      refine lm_G_sg 3 (pc' := 28) (L' := [some (.ref 0), some (.int (nI n))]) (S' := [.int (nI n), .ref 1]) (σ' := lm_T M v G) rfl trivial ?_
      refine lm_G_ca (j := 24) (as := [.ref 1, .int (nI n)]) (rest := []) rfl (Or.inl rfl) (Nat.le_of_ble_eq_true rfl) (Nat.le_of_ble_eq_true rfl) (Nat.le_of_ble_eq_true rfl) (Nat.le_of_ble_eq_true rfl) rfl ?_
      refine c_read hT (fun i hi => ht.2 i (by omega)) ⟨fun D er M1 K d1 o1 kl f1 z1 z11 => ?_, fun e a er M1 b1 f1 z1 => ?_⟩
      ·
        show lm_G X (d + 47) 87 106 1 6 31 [some (.ref 0), some (.int (nI n))] [.int 1] (lm_T M1 v G) Q
        refine lm_G_br (b := ¬ 1 = 0) (t := 50) (S' := []) rfl (fun hc => ?_) (fun hc => absurd (Classical.not_not.mp hc) (by decide))
        refine lm_G_sg 5 (pc' := 61) (L' := [some (.ref 0), some (.int (nI n))]) (S' := [.ref 3, .ref 14]) (σ' := lm_T M1 v G) rfl trivial ?_
        refine lm_G_ca (j := 11) (as := [.ref 14, .ref 3]) (rest := []) rfl (Or.inl rfl) (Nat.le_of_ble_eq_true rfl) (Nat.le_of_ble_eq_true rfl) (Nat.le_of_ble_eq_true rfl) (Nat.le_of_ble_eq_true rfl) rfl ?_
        refine c_copyFacts d1 o1 kl (fun M2 k2 a15 a17 a18 a21 r2 => ?_)
        show lm_G X (d + 47) 87 106 1 6 64 [some (.ref 0), some (.int (nI n))] [] (lm_T M2 v G) Q
        refine lm_G_sg 2 (pc' := 68) (L' := [some (.ref 0), some (.int (nI n))]) (S' := [.ref 28]) (σ' := lm_T M2 v G) rfl trivial ?_
        refine lm_G_ca (j := 52) (as := [.ref 28]) (rest := []) rfl (Or.inl rfl) (Nat.le_of_ble_eq_true rfl) (Nat.le_of_ble_eq_true rfl) (Nat.le_of_ble_eq_true rfl) (Nat.le_of_ble_eq_true rfl) rfl ?_
        refine c_begin (F := toF D) (s := toS D) (okF_D o1) k2 rfl a15 a17 a18 a21 (fun M3 c3 l3 r3 => ?_)
        show lm_G X (d + 47) 87 106 1 6 71 [some (.ref 0), some (.int (nI n))] [] (lm_T M3 v G) Q
        refine lm_G_sg 12 (pc' := 93) (L' := [some (.ref 0), some (.int (nI n))]) (S' := [.int 0]) (σ' := lm_T (lm_wr (lm_wr (lm_wr M3 52 2 0) 52 4 0) 0 8 0) v G) rfl ⟨trivial, trivial, trivial, trivial, (by decide), trivial, trivial⟩ ?_
        exact lm_G_re rfl trivial (Nat.le_of_ble_eq_true rfl) (Nat.le_of_ble_eq_true rfl) ((hQ.2 n hn rfl).1 D er o1 _ (by
          have r56 : M3 56 = M 56 := (r3 56 (by omega)).trans ((r2 56 (by omega)).trans (f1 56 rfl))
          refine ⟨RC_wr (RC_wr (RC_wr c3 (by decide)) (by decide)) (by decide), l3, rfl, rfl, fun i hi => absurd hi (Nat.not_lt_zero i), fun i hi => absurd hi (Nat.not_lt_zero i), fun i hi => ?_⟩
          show M3 56 i = bkR B i
          rw [r56]
          exact hc0.2.2.2.2.2.2 i hi) (by show M3 1 1 = 0; rw [r3 1 (by omega), r2 1 (by omega)]; exact z1) (by show M3 1 11 = -1; rw [r3 1 (by omega), r2 1 (by omega)]; exact z11) rfl (by show Ag (dNo D) (M3 15) (dBr D); rw [r3 15 (by omega)]; exact a15) (fun r hr => by rw [wr_row (by omega), wr_row (by omega), wr_row (by omega), r3 r (by omega), r2 r (by omega)]; exact f1 r (by unfold frV; rw [decide_eq_false_iff_not]; omega)))
      ·
        show lm_G X (d + 47) 87 106 1 6 31 [some (.ref 0), some (.int (nI n))] [.int 0] (lm_T M1 v G) Q
        refine lm_G_br (b := ¬ 0 = 0) (t := 50) (S' := []) rfl (fun hc => absurd rfl hc) (fun hc => ?_)
        refine lm_G_sg 3 (pc' := 39) (L' := [some (.ref 0), some (.int (nI n))]) (S' := [.int 0, .ref 52]) (σ' := lm_T M1 v G) rfl trivial ?_
        refine lm_G_ca (j := 2) (as := [.ref 52, .int 0]) (rest := []) rfl (Or.inl rfl) (Nat.le_of_ble_eq_true rfl) (Nat.le_of_ble_eq_true rfl) (Nat.le_of_ble_eq_true rfl) (Nat.le_of_ble_eq_true rfl) rfl ?_
        refine c_refuse (j := 0) (by decide) ?_
        show lm_G X (d + 47) 87 106 1 6 42 [some (.ref 0), some (.int (nI n))] [] (lm_T (lm_wr M1 56 0 (M1 56 0 + 1)) v G) Q
        refine lm_G_sg 3 (pc' := 49) (L' := [some (.ref 0), some (.int (nI n))]) (S' := [.int (M1 1 10)]) (σ' := lm_T (lm_wr M1 56 0 (M1 56 0 + 1)) v G) rfl trivial ?_
        rw [show M1 1 10 = nI e from b1.1]
        exact lm_G_re rfl trivial (Nat.le_of_ble_eq_true rfl) (Nat.le_of_ble_eq_true rfl) ((hQ.2 n hn rfl).2 e a er _ (CS_rf0 (CS_V hc0 f1)) z1 b1.2 (fun r h1 h2 h3 => by rw [wr_row h3]; exact f1 r (by unfold frV; rw [decide_eq_false_iff_not]; omega)))
set_option maxRecDepth 10000 in
theorem c_fault {X : lm_X} {d v : Nat} {M : Nat → Nat → Int32} {G : Nat → Nat → Int64} {Q : lm_O → lm_S → Prop} (hQ : Q (.inl (some (.int (M 1 11)))) (lm_T M v G)) : lm_Q X d 88 [.ref 0] (lm_T M v G) Q := by
  show lm_G X d 88 106 0 0 0 [some (.ref 0)] [] (lm_T M v G) Q
  refine lm_G_sg 3 (pc' := 7) (L' := [some (.ref 0)]) (S' := [.int (M 1 11)]) (σ' := lm_T M v G) rfl trivial ?_
  exact lm_G_re rfl trivial (Nat.zero_le _) (Nat.zero_le _) hQ
set_option maxRecDepth 10000 in
theorem c_forget {X : lm_X} {d v : Nat} {M : Nat → Nat → Int32} {G : Nat → Nat → Int64} {Q : lm_O → lm_S → Prop} (hQ : Q (.inl none) (lm_T (lm_wr M 52 4 0) v G)) : lm_Q X d 116 [.ref 0] (lm_T M v G) Q := by
  show lm_G X d 116 106 0 0 0 [some (.ref 0)] [] (lm_T M v G) Q
  refine lm_G_sg 4 (pc' := 8) (L' := [some (.ref 0)]) (S' := []) (σ' := lm_T (lm_wr M 52 4 0) v G) rfl ⟨trivial, trivial, trivial⟩ ?_
  exact lm_G_re rfl trivial (Nat.zero_le _) (Nat.zero_le _) hQ
set_option maxRecDepth 10000 in
theorem m_fault {X : lm_X} {d v : Nat} {M : Nat → Nat → Int32} {G : Nat → Nat → Int64} {Q : lm_O → lm_S → Prop} (hQ : Q (.inl (some (.int (M 64 27)))) (lm_T (lm_wr M 64 4 0) v G)) : lm_Q X d 176 [.ref 64] (lm_T M v G) Q := by
  show lm_G X d 176 106 0 0 0 [some (.ref 64)] [] (lm_T M v G) Q
  refine lm_G_sg 5 (pc' := 9) (L' := [some (.ref 64)]) (S' := [.int (M 64 27)]) (σ' := lm_T (lm_wr M 64 4 0) v G) rfl ⟨trivial, trivial, trivial⟩ ?_
  exact lm_G_re rfl trivial (Nat.zero_le _) (Nat.zero_le _) hQ
set_option maxRecDepth 10000 in
theorem m_forget {X : lm_X} {d v : Nat} {M : Nat → Nat → Int32} {G : Nat → Nat → Int64} {Q : lm_O → lm_S → Prop} (hQ : Q (.inl none) (lm_T (lm_wr (lm_wr M 64 4 0) 64 38 0) v G)) : lm_Q X d 234 [.ref 64] (lm_T M v G) Q := by
  show lm_G X d 234 106 0 0 0 [some (.ref 64)] [] (lm_T M v G) Q
  refine lm_G_sg 6 (pc' := 10) (L' := [some (.ref 64)]) (S' := []) (σ' := lm_T (lm_wr (lm_wr M 64 4 0) 64 38 0) v G) rfl ⟨trivial, trivial, trivial, trivial, trivial⟩ ?_
  exact lm_G_re rfl trivial (Nat.zero_le _) (Nat.zero_le _) hQ
