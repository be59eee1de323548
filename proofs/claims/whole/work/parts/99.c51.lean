/-! ===== the law's branch of a text ===== -/
theorem c_hills0 {X : lm_X} {d v : Nat} {M : Nat → Nat → Int32} {G : Nat → Nat → Int64} {Q : lm_O → lm_S → Prop} {F : Fa} {s : Sc} {B : Bk} {L : Nat} {tp : Nat → Nat} {x : Int32} (hc0 : CS M F s B) (ht : CT M L tp) (hL : L ≤ 700) (hb : ∀ i, i < L → tp i < 256) (hf : hfS L x = false) (hQ : Q (.inr 1) (lm_T M v G)) : lm_Q X (d + 47) 87 [.ref 0, .int x] (lm_T M v G) Q := by
  refine c_hills hc0 ht hL hb ⟨fun _ => hQ, fun n hn ex => ?_⟩
  rw [ex, hf_t hn hL] at hf
  cases hf
theorem c_hills1 {X : lm_X} {d v : Nat} {M : Nat → Nat → Int32} {G : Nat → Nat → Int64} {Q : lm_O → lm_S → Prop} {F : Fa} {s : Sc} {B : Bk} {L n : Nat} {tp : Nat → Nat} {D : Dr} (hc0 : CS M F s B) (ht : CT M L tp) (hL : L ≤ 700) (hb : ∀ i, i < L → tp i < 256) (hn : n ≤ L) (er : txS (n, tp) = .inl D) (hQ : okD D → ∀ M1, CS M1 (toF D) (toS D) (clB B) → M1 1 1 = 0 → M1 1 11 = -1 → M1 0 8 = 0 → Ag (dNo D) (M1 15) (dBr D) → (∀ r, 64 ≤ r → M1 r = M r) → Q (.inl (some (.int 0))) (lm_T M1 v G)) : lm_Q X (d + 47) 87 [.ref 0, .int (nI n)] (lm_T M v G) Q := by
  refine c_hills hc0 ht hL hb ⟨fun hf => ?_, fun m hm ex => ⟨fun D2 er2 o2 => ?_, fun e a er2 => ?_⟩⟩
  · rw [hf_t hn hL] at hf
    cases hf
  · have e : n = m := (nI_eq (by omega) (by omega)).mp ex
    rw [← e, er] at er2
    cases er2
    exact hQ o2
  · have e : n = m := (nI_eq (by omega) (by omega)).mp ex
    rw [← e, er] at er2
    cases er2
theorem c_hills2 {X : lm_X} {d v : Nat} {M : Nat → Nat → Int32} {G : Nat → Nat → Int64} {Q : lm_O → lm_S → Prop} {F : Fa} {s : Sc} {B : Bk} {L n e a : Nat} {tp : Nat → Nat} (hc0 : CS M F s B) (ht : CT M L tp) (hL : L ≤ 700) (hb : ∀ i, i < L → tp i < 256) (hn : n ≤ L) (er : txS (n, tp) = .inr (e, a)) (hQ : ∀ M1, CS M1 F s (rfB B 0) → M1 1 1 = 0 → M1 1 11 = nI a → (∀ r, r ≠ 1 → (r < 3 ∨ 13 < r) → r ≠ 56 → M1 r = M r) → Q (.inl (some (.int (nI e)))) (lm_T M1 v G)) : lm_Q X (d + 47) 87 [.ref 0, .int (nI n)] (lm_T M v G) Q := by
  refine c_hills hc0 ht hL hb ⟨fun hf => ?_, fun m hm ex => ⟨fun D2 er2 o2 => ?_, fun e2 a2 er2 => ?_⟩⟩
  · rw [hf_t hn hL] at hf
    cases hf
  · have q : n = m := (nI_eq (by omega) (by omega)).mp ex
    rw [← q, er] at er2
    cases er2
  · have q : n = m := (nI_eq (by omega) (by omega)).mp ex
    rw [← q, er] at er2
    cases er2
    exact hQ
theorem m_hills0 {X : lm_X} {d v : Nat} {M : Nat → Nat → Int32} {G : Nat → Nat → Int64} {Q : lm_O → lm_S → Prop} {F : Fa} {s : Sc} {B : Bk} {L : Nat} {tp : Nat → Nat} {x : Int32} (hF : okF F) (hm0 : MS M F s B) (ht : MT M L tp) (hL : L ≤ 700) (hb : ∀ i, i < L → tp i < 256) (hf : hfS L x = false) (hQ : ∀ M1 v1, M1 64 4 = 1 → (∀ k, k ≠ 4 → M1 64 k = M 64 k) → (∀ r, r ≠ 64 → M1 r = M r) → Q (.inl (some (.int 0))) (lm_T M1 v1 G)) : lm_Q X (d + 44) 173 [.ref 64, .int x] (lm_T M v G) Q := by
  refine m_hills hF hm0 ht hL hb ⟨fun _ => hQ, fun n hn ex => ?_⟩
  rw [ex, hf_t hn hL] at hf
  cases hf
theorem m_hills1 {X : lm_X} {d v : Nat} {M : Nat → Nat → Int32} {G : Nat → Nat → Int64} {Q : lm_O → lm_S → Prop} {F : Fa} {s : Sc} {B : Bk} {L n : Nat} {tp : Nat → Nat} {D : Dr} (hF : okF F) (hm0 : MS M F s B) (ht : MT M L tp) (hL : L ≤ 700) (hb : ∀ i, i < L → tp i < 256) (hn : n ≤ L) (er : txS (n, tp) = .inl D) (hQ : okD D → ∀ M1 v1, MS M1 (toF D) (toS D) (clB B) → M1 64 4 = 0 → M1 64 18 = 0 → M1 64 27 = -1 → M1 64 54 = 0 → (∀ r, r < 64 → M1 r = M r) → Q (.inl (some (.int 0))) (lm_T M1 v1 G)) : lm_Q X (d + 44) 173 [.ref 64, .int (nI n)] (lm_T M v G) Q := by
  refine m_hills hF hm0 ht hL hb ⟨fun hf => ?_, fun m hm ex => ⟨fun D2 er2 o2 => ?_, fun e a er2 => ?_⟩⟩
  · rw [hf_t hn hL] at hf
    cases hf
  · have e : n = m := (nI_eq (by omega) (by omega)).mp ex
    rw [← e, er] at er2
    cases er2
    exact hQ o2
  · have e : n = m := (nI_eq (by omega) (by omega)).mp ex
    rw [← e, er] at er2
    cases er2
theorem m_hills2 {X : lm_X} {d v : Nat} {M : Nat → Nat → Int32} {G : Nat → Nat → Int64} {Q : lm_O → lm_S → Prop} {F : Fa} {s : Sc} {B : Bk} {L n e a : Nat} {tp : Nat → Nat} (hF : okF F) (hm0 : MS M F s B) (ht : MT M L tp) (hL : L ≤ 700) (hb : ∀ i, i < L → tp i < 256) (hn : n ≤ L) (er : txS (n, tp) = .inr (e, a)) (hQ : ∀ M1 v1, MS M1 F s (rfB B 0) → M1 64 4 = 0 → M1 64 18 = 0 → M1 64 27 = nI a → (∀ k, 54 ≤ k ∧ k ≤ 56 → M1 64 k = M 64 k) → (∀ r, r < 64 ∨ 95 ≤ r → M1 r = M r) → Q (.inl (some (.int (nI e)))) (lm_T M1 v1 G)) : lm_Q X (d + 44) 173 [.ref 64, .int (nI n)] (lm_T M v G) Q := by
  refine m_hills hF hm0 ht hL hb ⟨fun hf => ?_, fun m hm ex => ⟨fun D2 er2 o2 => ?_, fun e2 a2 er2 => ?_⟩⟩
  · rw [hf_t hn hL] at hf
    cases hf
  · have q : n = m := (nI_eq (by omega) (by omega)).mp ex
    rw [← q, er] at er2
    cases er2
  · have q : n = m := (nI_eq (by omega) (by omega)).mp ex
    rw [← q, er] at er2
    cases er2
    exact hQ
theorem okB_cl {F : Fa} {br : Fn} {B : Bk} : okB F br (clB B) := ⟨by show 0 ≤ 40; omega, by show 0 ≤ 8; omega, fun i hi => absurd hi (Nat.not_lt_zero i), fun i hi => absurd hi (Nat.not_lt_zero i)⟩
theorem m_hills1x {X : lm_X} {d v : Nat} {M : Nat → Nat → Int32} {G : Nat → Nat → Int64} {Q : lm_O → lm_S → Prop} {F : Fa} {s : Sc} {B : Bk} {x : Int32} {L n : Nat} {tp : Nat → Nat} {D : Dr} (ex : x = nI n) (hF : okF F) (hm0 : MS M F s B) (ht : MT M L tp) (hL : L ≤ 700) (hb : ∀ i, i < L → tp i < 256) (hn : n ≤ L) (er : txS (n, tp) = .inl D) (hQ : okD D → ∀ M1 v1, MS M1 (toF D) (toS D) (clB B) → M1 64 4 = 0 → M1 64 18 = 0 → M1 64 27 = -1 → M1 64 54 = 0 → (∀ r, r < 64 → M1 r = M r) → Q (.inl (some (.int 0))) (lm_T M1 v1 G)) : lm_Q X (d + 44) 173 [.ref 64, .int x] (lm_T M v G) Q := by
  rw [ex]
  exact m_hills1 hF hm0 ht hL hb hn er hQ
theorem m_hills2x {X : lm_X} {d v : Nat} {M : Nat → Nat → Int32} {G : Nat → Nat → Int64} {Q : lm_O → lm_S → Prop} {F : Fa} {s : Sc} {B : Bk} {x : Int32} {L n e a : Nat} {tp : Nat → Nat} (ex : x = nI n) (hF : okF F) (hm0 : MS M F s B) (ht : MT M L tp) (hL : L ≤ 700) (hb : ∀ i, i < L → tp i < 256) (hn : n ≤ L) (er : txS (n, tp) = .inr (e, a)) (hQ : ∀ M1 v1, MS M1 F s (rfB B 0) → M1 64 4 = 0 → M1 64 18 = 0 → M1 64 27 = nI a → (∀ k, 54 ≤ k ∧ k ≤ 56 → M1 64 k = M 64 k) → (∀ r, r < 64 ∨ 95 ≤ r → M1 r = M r) → Q (.inl (some (.int (nI e)))) (lm_T M1 v1 G)) : lm_Q X (d + 44) 173 [.ref 64, .int x] (lm_T M v G) Q := by
  rw [ex]
  exact m_hills2 hF hm0 ht hL hb hn er hQ
set_option maxRecDepth 10000 in
theorem b_hills {X : lm_X} {c k q v : Nat} {M : Nat → Nat → Int32} {G : Nat → Nat → Int64} {Q : lm_O → lm_S → Prop} (hX : X.1 ≤ 3072) (hq : q + 6 ≤ X.1) (hc_ : c + 2 ≤ 601024) (hk_ : k + 12 ≤ 7293034) (hW : WI M) (ih : ∀ c1 k1 M1 v1 G1, c1 ≤ c + 2 → k1 ≤ k + 12 → WI M1 → lm_G X 100 272 0 c1 k1 2187 (lm_LL (nI q)) [] (lm_T M1 v1 G1) Q) : lm_G X 100 272 0 c k 265 (lm_LL (nI q)) [] (lm_T M v G) Q := by
  show lm_G X 100 272 0 c k 265 [some (.ref 999), some (.ref 0), some (.ref 64), some (.ref 105), some (.int (nI q)), none, none] [] (lm_T M v G) Q
  obtain ⟨F, s, B, L, tp, K, s2, B2, ok, ci, mi, efp⟩ := hW
  have ok0 := ok
  obtain ⟨hF, hs, hB, hL, hb, hs2, hb2, hB2⟩ := ok0
  have hN := hF.n
  have hM := hF.m
  refine lm_G_sg 5 (pc' := 271) (L' := [some (.ref 999), some (.ref 0), some (.ref 64), some (.ref 105), some (.int (nI q)), none, none]) (S' := [.int ((nI q) + 1), .ref 999, .ref 0]) (σ' := lm_T M v G) rfl trivial ?_
  rw [show (nI q) + 1 = nI (q + 1) from nI_add q 1]
  refine lm_G_sg 2 (pc' := 273) (L' := [some (.ref 999), some (.ref 0), some (.ref 64), some (.ref 105), some (.int (nI q)), none, none]) (S' := [.ref 105, .int (X.2 (nI (q + 1)).toNatClampNeg), .ref 0]) (σ' := lm_T M v G) rfl ⟨(vp_in_nI (by omega) (by omega)), trivial, trivial⟩ ?_
  cases hf : hfS L (X.2 (nI (q + 1)).toNatClampNeg) with
  | false =>
    refine lm_G_ca (j := 245) (as := [.ref 0, .int (X.2 (nI (q + 1)).toNatClampNeg), .ref 105]) (rest := []) rfl (Or.inl rfl) (Nat.le_of_lt_succ (by show c + 1 < 601024 + 1; omega)) (Nat.le_of_lt_succ (by show k + 6 < 7293034 + 1; omega)) (Nat.le_of_ble_eq_true rfl) (Nat.le_of_ble_eq_true rfl) rfl ?_
    refine w_hills (a := .inr false) (P := fun M1 => M1 = M) (fun h => by cases h) (fun Q' h => c_hills0 ci.1 ci.2.1 hL hb hf (h M rfl)) (fun M1 f1 => ?_)
    show lm_G X 100 272 0 (c + 1) (k + 6) 276 [some (.ref 999), some (.ref 0), some (.ref 64), some (.ref 105), some (.int (nI q)), none, none] [.int 1] (lm_T M1 v G) Q
    subst f1
    refine lm_G_sg 6 (pc' := 284) (L' := [some (.ref 999), some (.ref 0), some (.ref 64), some (.ref 105), some (.int (nI q)), some (.int 1), none]) (S' := [.int ((nI q) + 1), .ref 999, .ref 64]) (σ' := lm_T M1 v G) rfl trivial ?_
    rw [show (nI q) + 1 = nI (q + 1) from nI_add q 1]
    refine lm_G_sg 1 (pc' := 285) (L' := [some (.ref 999), some (.ref 0), some (.ref 64), some (.ref 105), some (.int (nI q)), some (.int 1), none]) (S' := [.int (X.2 (nI (q + 1)).toNatClampNeg), .ref 64]) (σ' := lm_T M1 v G) rfl ⟨(vp_in_nI (by omega) (by omega)), trivial, trivial⟩ ?_
    refine lm_G_ca (j := 173) (as := [.ref 64, .int (X.2 (nI (q + 1)).toNatClampNeg)]) (rest := []) rfl (Or.inl rfl) (Nat.le_of_lt_succ (by show (c + 1) + 0 < 601024 + 1; omega)) (Nat.le_of_lt_succ (by show (k + 6) + 0 < 7293034 + 1; omega)) (Nat.le_of_ble_eq_true rfl) (Nat.le_of_ble_eq_true rfl) rfl ?_
    refine m_hills0 hF mi.1 mi.2.1 hL hb hf (fun M2 v2 c2 k2 r2 => ?_)
    show lm_G X 100 272 0 (c + 1) (k + 6) 288 [some (.ref 999), some (.ref 0), some (.ref 64), some (.ref 105), some (.int (nI q)), some (.int 1), none] [.int 0] (lm_T M2 v2 G) Q
    refine lm_G_sg 2 (pc' := 291) (L' := [some (.ref 999), some (.ref 0), some (.ref 64), some (.ref 105), some (.int (nI q)), some (.int 1), some (.int 0)]) (S' := [.ref 64]) (σ' := lm_T M2 v2 G) rfl trivial ?_
    refine lm_G_ca (j := 140) (as := [.ref 64]) (rest := []) rfl (Or.inl rfl) (Nat.le_of_lt_succ (by show (c + 1) + 0 < 601024 + 1; omega)) (Nat.le_of_lt_succ (by show (k + 6) + 0 < 7293034 + 1; omega)) (Nat.le_of_ble_eq_true rfl) (Nat.le_of_ble_eq_true rfl) rfl ?_
    refine m_thrown ?_
    show lm_G X 100 272 0 (c + 1) (k + 6) 294 [some (.ref 999), some (.ref 0), some (.ref 64), some (.ref 105), some (.int (nI q)), some (.int 1), some (.int 0)] [.int (M2 64 4)] (lm_T M2 v2 G) Q
    rw [c2]
    refine lm_G_sg 1 (pc' := 296) (L' := [some (.ref 999), some (.ref 0), some (.ref 64), some (.ref 105), some (.int (nI q)), some (.int 1), some (.int 0)]) (S' := [.int 1, .int 1]) (σ' := lm_T M2 v2 G) rfl trivial ?_
    refine lm_G_br (b := 1 = 1) (t := 301) (S' := []) rfl (fun hc => ?_) (fun hc => absurd rfl hc)
    refine lm_G_sg 1 (pc' := 303) (L' := [some (.ref 999), some (.ref 0), some (.ref 64), some (.ref 105), some (.int (nI q)), some (.int 1), some (.int 0)]) (S' := [.int 1]) (σ' := lm_T M2 v2 G) rfl trivial ?_
    refine lm_G_br (b := ¬ 1 = 0) (t := 318) (S' := []) rfl (fun hc => ?_) (fun hc => absurd (Classical.not_not.mp hc) (by decide))
    refine lm_G_sg 1 (pc' := 2187) (L' := [some (.ref 999), some (.ref 0), some (.ref 64), some (.ref 105), some (.int (nI q)), some (.int 1), some (.int 0)]) (S' := []) (σ' := lm_T M2 v2 G) rfl trivial ?_
    refine lm_G_jk (L := [some (.ref 999), some (.ref 0), some (.ref 64), some (.ref 105), some (.int (nI q)), none, none]) ⟨rfl, rfl, rfl, rfl, rfl, trivial⟩ ?_
    exact ih _ _ _ _ _ (by omega) (by omega) (WI_s ⟨F, s, B, L, tp, K, s2, B2, ok, ci, mi, efp⟩ k2 r2)
  | true =>
    obtain ⟨n, hn, ex⟩ := hf_n hL hf
    cases er : txS (n, tp) with
    | inl D =>
      refine lm_G_ca (j := 245) (as := [.ref 0, .int (X.2 (nI (q + 1)).toNatClampNeg), .ref 105]) (rest := []) rfl (Or.inl rfl) (Nat.le_of_lt_succ (by show c + 1 < 601024 + 1; omega)) (Nat.le_of_lt_succ (by show k + 6 < 7293034 + 1; omega)) (Nat.le_of_ble_eq_true rfl) (Nat.le_of_ble_eq_true rfl) rfl ?_
      refine w_hills (a := .inl 0) (P := fun M1 => CS M1 (toF D) (toS D) (clB B) ∧ M1 1 1 = 0 ∧ M1 1 11 = -1 ∧ M1 0 8 = 0 ∧ Ag (dNo D) (M1 15) (dBr D) ∧ higE M M1 ∧ okD D) (fun h => by cases h) (fun Q' h => by rw [ex]; exact c_hills1 ci.1 ci.2.1 hL hb hn er (fun o M1 a1 a2 a3 a4 a5 a6 => h M1 ⟨a1, a2, a3, a4, a5, a6, o⟩)) (fun M1 f1 => ?_)
      show lm_G X 100 272 0 (c + 1) (k + 6) 276 [some (.ref 999), some (.ref 0), some (.ref 64), some (.ref 105), some (.int (nI q)), none, none] [.int 0] (lm_T M1 v (lm_wg G 105 0 (0 : Int32).toInt64)) Q
      obtain ⟨a1, a2, a3, a4, a5, a6, oD⟩ := f1
      have mi1 := MI_hi mi a6
      refine lm_G_sg 6 (pc' := 284) (L' := [some (.ref 999), some (.ref 0), some (.ref 64), some (.ref 105), some (.int (nI q)), some (.int 0), none]) (S' := [.int ((nI q) + 1), .ref 999, .ref 64]) (σ' := lm_T M1 v (lm_wg G 105 0 (0 : Int32).toInt64)) rfl trivial ?_
      rw [show (nI q) + 1 = nI (q + 1) from nI_add q 1]
      refine lm_G_sg 1 (pc' := 285) (L' := [some (.ref 999), some (.ref 0), some (.ref 64), some (.ref 105), some (.int (nI q)), some (.int 0), none]) (S' := [.int (X.2 (nI (q + 1)).toNatClampNeg), .ref 64]) (σ' := lm_T M1 v (lm_wg G 105 0 (0 : Int32).toInt64)) rfl ⟨(vp_in_nI (by omega) (by omega)), trivial, trivial⟩ ?_
      refine lm_G_ca (j := 173) (as := [.ref 64, .int (X.2 (nI (q + 1)).toNatClampNeg)]) (rest := []) rfl (Or.inl rfl) (Nat.le_of_lt_succ (by show (c + 1) + 0 < 601024 + 1; omega)) (Nat.le_of_lt_succ (by show (k + 6) + 0 < 7293034 + 1; omega)) (Nat.le_of_ble_eq_true rfl) (Nat.le_of_ble_eq_true rfl) rfl ?_
      refine m_hills1x ex hF mi1.1 mi1.2.1 hL hb hn er (fun _ M2 v2 b1 b2 b3 b4 b5 b6 => ?_)
      show lm_G X 100 272 0 (c + 1) (k + 6) 288 [some (.ref 999), some (.ref 0), some (.ref 64), some (.ref 105), some (.int (nI q)), some (.int 0), none] [.int (0 : Int32)] (lm_T M2 v2 (lm_wg G 105 0 (0 : Int32).toInt64)) Q
      refine lm_G_sg 2 (pc' := 291) (L' := [some (.ref 999), some (.ref 0), some (.ref 64), some (.ref 105), some (.int (nI q)), some (.int 0), some (.int (0 : Int32))]) (S' := [.ref 64]) (σ' := lm_T M2 v2 (lm_wg G 105 0 (0 : Int32).toInt64)) rfl trivial ?_
      refine lm_G_ca (j := 140) (as := [.ref 64]) (rest := []) rfl (Or.inl rfl) (Nat.le_of_lt_succ (by show (c + 1) + 0 < 601024 + 1; omega)) (Nat.le_of_lt_succ (by show (k + 6) + 0 < 7293034 + 1; omega)) (Nat.le_of_ble_eq_true rfl) (Nat.le_of_ble_eq_true rfl) rfl ?_
      refine m_thrown ?_
      show lm_G X 100 272 0 (c + 1) (k + 6) 294 [some (.ref 999), some (.ref 0), some (.ref 64), some (.ref 105), some (.int (nI q)), some (.int 0), some (.int (0 : Int32))] [.int (M2 64 4)] (lm_T M2 v2 (lm_wg G 105 0 (0 : Int32).toInt64)) Q
      rw [show M2 64 4 = 0 from b2]
      refine lm_G_sg 1 (pc' := 296) (L' := [some (.ref 999), some (.ref 0), some (.ref 64), some (.ref 105), some (.int (nI q)), some (.int 0), some (.int (0 : Int32))]) (S' := [.int 0, .int 0]) (σ' := lm_T M2 v2 (lm_wg G 105 0 (0 : Int32).toInt64)) rfl trivial ?_
      refine lm_G_br (b := 0 = 0) (t := 301) (S' := []) rfl (fun hc => ?_) (fun hc => absurd rfl hc)
      refine lm_G_sg 1 (pc' := 303) (L' := [some (.ref 999), some (.ref 0), some (.ref 64), some (.ref 105), some (.int (nI q)), some (.int 0), some (.int (0 : Int32))]) (S' := [.int 0]) (σ' := lm_T M2 v2 (lm_wg G 105 0 (0 : Int32).toInt64)) rfl trivial ?_
      refine lm_G_br (b := ¬ 0 = 0) (t := 318) (S' := []) rfl (fun hc => absurd rfl hc) (fun hc => ?_)
      refine lm_G_sg 6 (pc' := 313) (L' := [some (.ref 999), some (.ref 0), some (.ref 64), some (.ref 105), some (.int (nI q)), some (.int 0), some (.int (0 : Int32))]) (S' := [.int (lm_lcmp ((lm_wg G 105 0 (0 : Int32).toInt64) 105 0) ((0 : Int32).toInt64))]) (σ' := lm_T M2 v2 (lm_wg G 105 0 (0 : Int32).toInt64)) rfl ⟨(lm_inb_ok rfl), trivial, trivial⟩ ?_
      refine lm_G_br (b := (lm_lcmp ((lm_wg G 105 0 (0 : Int32).toInt64) 105 0) ((0 : Int32).toInt64)) = 0) (t := 318) (S' := []) rfl (fun hc => ?_) (fun hc => absurd (if_pos rfl : lm_lcmp (0 : Int32).toInt64 (0 : Int32).toInt64 = 0) hc)
      refine lm_G_sg 1 (pc' := 2187) (L' := [some (.ref 999), some (.ref 0), some (.ref 64), some (.ref 105), some (.int (nI q)), some (.int 0), some (.int (0 : Int32))]) (S' := []) (σ' := lm_T M2 v2 (lm_wg G 105 0 (0 : Int32).toInt64)) rfl trivial ?_
      refine lm_G_jk (L := [some (.ref 999), some (.ref 0), some (.ref 64), some (.ref 105), some (.int (nI q)), none, none]) ⟨rfl, rfl, rfl, rfl, rfl, trivial⟩ ?_
      exact ih _ _ _ _ _ (by omega) (by omega) (by
        have lo : lowE M1 M2 := b6
        refine ⟨toF D, toS D, clB B, 0, tp, false, toS D, clB B, ⟨okF_D oD, okS_D oD, okB_cl, by decide, fun i hi => absurd hi (Nat.not_lt_zero i), okS_D oD, rfl, okB_cl⟩, ⟨CS_lo a1 lo, ?_, ?_, ?_, fun w => by cases w⟩, ⟨b1, ⟨b3, fun i hi => absurd hi (Nat.not_lt_zero i)⟩, b5, fun w => by cases w⟩, ?_⟩
        · exact ⟨by rw [lo 1 (by decide)]; exact a2, fun i hi => absurd hi (Nat.not_lt_zero i)⟩
        · rw [lo 15 (by decide)]; exact a5
        · rw [lo 0 (by decide)]; exact a4
        · rw [lo 1 (by decide), a3, b4])
    | inr ea =>
      obtain ⟨e, a⟩ := ea
      refine lm_G_ca (j := 245) (as := [.ref 0, .int (X.2 (nI (q + 1)).toNatClampNeg), .ref 105]) (rest := []) rfl (Or.inl rfl) (Nat.le_of_lt_succ (by show c + 1 < 601024 + 1; omega)) (Nat.le_of_lt_succ (by show k + 6 < 7293034 + 1; omega)) (Nat.le_of_ble_eq_true rfl) (Nat.le_of_ble_eq_true rfl) rfl ?_
      refine w_hills (a := .inl (nI e)) (P := fun M1 => CS M1 F s (rfB B 0) ∧ M1 1 1 = 0 ∧ M1 1 11 = nI a ∧ (∀ r, r ≠ 1 → (r < 3 ∨ 13 < r) → r ≠ 56 → M1 r = M r)) (fun h => by cases h) (fun Q' h => by rw [ex]; exact c_hills2 ci.1 ci.2.1 hL hb hn er (fun M1 a1 a2 a3 a4 => h M1 ⟨a1, a2, a3, a4⟩)) (fun M1 f1 => ?_)
      show lm_G X 100 272 0 (c + 1) (k + 6) 276 [some (.ref 999), some (.ref 0), some (.ref 64), some (.ref 105), some (.int (nI q)), none, none] [.int 0] (lm_T M1 v (lm_wg G 105 0 (nI e).toInt64)) Q
      obtain ⟨a1, a2, a3, a4⟩ := f1
      have hi1 : higE M M1 := fun r hr => a4 r (by omega) (by omega) (by omega)
      have mi1 := MI_hi mi hi1
      refine lm_G_sg 6 (pc' := 284) (L' := [some (.ref 999), some (.ref 0), some (.ref 64), some (.ref 105), some (.int (nI q)), some (.int 0), none]) (S' := [.int ((nI q) + 1), .ref 999, .ref 64]) (σ' := lm_T M1 v (lm_wg G 105 0 (nI e).toInt64)) rfl trivial ?_
      rw [show (nI q) + 1 = nI (q + 1) from nI_add q 1]
      refine lm_G_sg 1 (pc' := 285) (L' := [some (.ref 999), some (.ref 0), some (.ref 64), some (.ref 105), some (.int (nI q)), some (.int 0), none]) (S' := [.int (X.2 (nI (q + 1)).toNatClampNeg), .ref 64]) (σ' := lm_T M1 v (lm_wg G 105 0 (nI e).toInt64)) rfl ⟨(vp_in_nI (by omega) (by omega)), trivial, trivial⟩ ?_
      refine lm_G_ca (j := 173) (as := [.ref 64, .int (X.2 (nI (q + 1)).toNatClampNeg)]) (rest := []) rfl (Or.inl rfl) (Nat.le_of_lt_succ (by show (c + 1) + 0 < 601024 + 1; omega)) (Nat.le_of_lt_succ (by show (k + 6) + 0 < 7293034 + 1; omega)) (Nat.le_of_ble_eq_true rfl) (Nat.le_of_ble_eq_true rfl) rfl ?_
      refine m_hills2x ex hF mi1.1 mi1.2.1 hL hb hn er (fun M2 v2 b1 b2 b3 b4 b5 b6 => ?_)
      show lm_G X 100 272 0 (c + 1) (k + 6) 288 [some (.ref 999), some (.ref 0), some (.ref 64), some (.ref 105), some (.int (nI q)), some (.int 0), none] [.int (nI e)] (lm_T M2 v2 (lm_wg G 105 0 (nI e).toInt64)) Q
      refine lm_G_sg 2 (pc' := 291) (L' := [some (.ref 999), some (.ref 0), some (.ref 64), some (.ref 105), some (.int (nI q)), some (.int 0), some (.int (nI e))]) (S' := [.ref 64]) (σ' := lm_T M2 v2 (lm_wg G 105 0 (nI e).toInt64)) rfl trivial ?_
      refine lm_G_ca (j := 140) (as := [.ref 64]) (rest := []) rfl (Or.inl rfl) (Nat.le_of_lt_succ (by show (c + 1) + 0 < 601024 + 1; omega)) (Nat.le_of_lt_succ (by show (k + 6) + 0 < 7293034 + 1; omega)) (Nat.le_of_ble_eq_true rfl) (Nat.le_of_ble_eq_true rfl) rfl ?_
      refine m_thrown ?_
      show lm_G X 100 272 0 (c + 1) (k + 6) 294 [some (.ref 999), some (.ref 0), some (.ref 64), some (.ref 105), some (.int (nI q)), some (.int 0), some (.int (nI e))] [.int (M2 64 4)] (lm_T M2 v2 (lm_wg G 105 0 (nI e).toInt64)) Q
      rw [show M2 64 4 = 0 from b2]
      refine lm_G_sg 1 (pc' := 296) (L' := [some (.ref 999), some (.ref 0), some (.ref 64), some (.ref 105), some (.int (nI q)), some (.int 0), some (.int (nI e))]) (S' := [.int 0, .int 0]) (σ' := lm_T M2 v2 (lm_wg G 105 0 (nI e).toInt64)) rfl trivial ?_
      refine lm_G_br (b := 0 = 0) (t := 301) (S' := []) rfl (fun hc => ?_) (fun hc => absurd rfl hc)
      refine lm_G_sg 1 (pc' := 303) (L' := [some (.ref 999), some (.ref 0), some (.ref 64), some (.ref 105), some (.int (nI q)), some (.int 0), some (.int (nI e))]) (S' := [.int 0]) (σ' := lm_T M2 v2 (lm_wg G 105 0 (nI e).toInt64)) rfl trivial ?_
      refine lm_G_br (b := ¬ 0 = 0) (t := 318) (S' := []) rfl (fun hc => absurd rfl hc) (fun hc => ?_)
      refine lm_G_sg 6 (pc' := 313) (L' := [some (.ref 999), some (.ref 0), some (.ref 64), some (.ref 105), some (.int (nI q)), some (.int 0), some (.int (nI e))]) (S' := [.int (lm_lcmp ((lm_wg G 105 0 (nI e).toInt64) 105 0) ((nI e).toInt64))]) (σ' := lm_T M2 v2 (lm_wg G 105 0 (nI e).toInt64)) rfl ⟨(lm_inb_ok rfl), trivial, trivial⟩ ?_
      refine lm_G_br (b := (lm_lcmp ((lm_wg G 105 0 (nI e).toInt64) 105 0) ((nI e).toInt64)) = 0) (t := 318) (S' := []) rfl (fun hc => ?_) (fun hc => absurd (if_pos rfl : lm_lcmp (nI e).toInt64 (nI e).toInt64 = 0) hc)
      refine lm_G_sg 1 (pc' := 2187) (L' := [some (.ref 999), some (.ref 0), some (.ref 64), some (.ref 105), some (.int (nI q)), some (.int 0), some (.int (nI e))]) (S' := []) (σ' := lm_T M2 v2 (lm_wg G 105 0 (nI e).toInt64)) rfl trivial ?_
      refine lm_G_jk (L := [some (.ref 999), some (.ref 0), some (.ref 64), some (.ref 105), some (.int (nI q)), none, none]) ⟨rfl, rfl, rfl, rfl, rfl, trivial⟩ ?_
      exact ih _ _ _ _ _ (by omega) (by omega) (by
        have lo : lowE M1 M2 := fun r hr => b6 r (by omega)
        refine ⟨F, s, rfB B 0, 0, tp, K, s2, B2, ⟨hF, hs, okB_rf hB 0, by decide, fun i hi => absurd hi (Nat.not_lt_zero i), hs2, hb2, hB2⟩, ⟨CS_lo a1 lo, ?_, ?_, ?_, fun w => ⟨?_, ?_⟩⟩, ⟨b1, ⟨b3, fun i hi => absurd hi (Nat.not_lt_zero i)⟩, ?_, fun w => ⟨?_, ?_⟩⟩, ?_⟩
        · exact ⟨by rw [lo 1 (by decide)]; exact a2, fun i hi => absurd hi (Nat.not_lt_zero i)⟩
        · rw [lo 15 (by decide), a4 15 (by decide) (by decide) (by decide)]; exact ci.2.2.1
        · rw [lo 0 (by decide), a4 0 (by decide) (by decide) (by decide)]; exact ci.2.2.2.1
        · exact CB_fr (ci.2.2.2.2 w).1 (by rw [lo 57 (by decide), a4 57 (by decide) (by decide) (by decide)]) (by rw [lo 59 (by decide), a4 59 (by decide) (by decide) (by decide)]) (by rw [lo 60 (by decide), a4 60 (by decide) (by decide) (by decide)]) (by rw [lo 61 (by decide), a4 61 (by decide) (by decide) (by decide)])
        · rw [lo 58 (by decide), a4 58 (by decide) (by decide) (by decide)]; exact (ci.2.2.2.2 w).2
        · rw [b5 54 (by decide)]; exact mi1.2.2.1
        · exact MB_fr (mi1.2.2.2 w).1 (b5 55 (by decide)) (b5 56 (by decide)) (b6 100 (by decide)) (b6 101 (by decide)) (b6 102 (by decide)) (b6 103 (by decide)) (b6 104 (by decide))
        · rw [b6 99 (by decide)]; exact (mi1.2.2.2 w).2
        · rw [lo 1 (by decide), a3, b4])
