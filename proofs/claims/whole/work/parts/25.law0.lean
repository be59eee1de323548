/-! ===== the law up to its loop ===== -/
def lm_sa1 : lm_S := lm_0 lm_s0
def lm_sb1 : lm_S := (lm_xe 3000 99 85 1 0 0 0 (lm_en 85 [.ref 0]) [] lm_sa1).getD lm_s0
theorem lm_sb1_ok : (lm_xe 3000 99 85 1 0 0 0 (lm_en 85 [.ref 0]) [] lm_sa1).isSome = true ∧ lm_sb1.2.2.2 = 64 := by decide +kernel
def lm_sc1 : lm_S := (lm_xe 3000 99 139 65 0 0 0 (lm_en 139 [.ref 64]) [] (lm_0 lm_sb1)).getD lm_s0
theorem lm_sc1_ok : (lm_xe 3000 99 139 65 0 0 0 (lm_en 139 [.ref 64]) [] (lm_0 lm_sb1)).isSome = true ∧ lm_sc1.2.2.2 = 105 := by decide +kernel
theorem lm_sc1_P : ∀ a, a < 105 → ∀ j, j < lm_w a → lm_P1 a j = lm_sc1.2.1 a j := by decide +kernel
def lm_M0 : Nat → Nat → Int32 := fun b => if b = 105 then (fun _ => 0) else lm_sc1.1 b
def lm_G0 : Nat → Nat → Int64 := fun b => if b = 105 then (fun _ => 0) else lm_sc1.2.2.1 b
theorem lm_getD {α : Type} {o : Option α} {d : α} (h : o.isSome = true) : o = some (o.getD d) := by
  cases o with
  | none => cases h
  | some x => rfl
theorem lm_PV0 : (fun b => if b = 105 then (fun _ => none) else lm_P1 b) = lm_PV 66 := by
  funext a j
  unfold lm_PV lm_wp
  by_cases ha : a = 64
  · subst ha
    by_cases hj : j = 3
    · subst hj; rfl
    · simp [va_up, hj]
  · simp [ha]
abbrev lm_LL (i : Int32) : lm_L := [some (.ref 999), some (.ref 0), some (.ref 64), some (.ref 105), some (.int i), none, none]
theorem lm_new64 (X : lm_X) (L : lm_L) (σ : lm_S) (h : σ.2.2.2 = 64) : lm_sa X 272 8 L [] σ = some (63, 11, [.ref 64], lm_0 σ) := by
  obtain ⟨M, P, G, n⟩ := σ
  simp only at h
  subst h
  rfl
theorem lm_new105 (X : lm_X) (L : lm_L) (σ : lm_S) (h : σ.2.2.2 = 105) : lm_sa X 272 17 L [.int 1] σ = some (1, 19, [.ref 105], lm_0 σ) := by
  obtain ⟨M, P, G, n⟩ := σ
  simp only at h
  subst h
  rfl
theorem lm_claim_gen (σb σc : lm_S) (hb : lm_xe 3000 99 85 1 0 0 0 (lm_en 85 [.ref 0]) [] lm_sa1 = some σb) (hbn : σb.2.2.2 = 64) (hc : lm_xe 3000 99 139 65 0 0 0 (lm_en 139 [.ref 64]) [] (lm_0 σb) = some σc) (hcn : σc.2.2.2 = 105) (hP : ∀ a, a < 105 → ∀ j, j < lm_w a → lm_P1 a j = σc.2.1 a j)
    (h : ∀ X : lm_X, X.1 ≤ 3072 → lm_G X 100 272 0 106 14763 23 (lm_LL 0) [] (lm_T (fun b => if b = 105 then (fun _ => 0) else σc.1 b) 66 (fun b => if b = 105 then (fun _ => 0) else σc.2.2.1 b)) (fun o _ => o = .inl (some (.int 1)))) : lm_claim := by
  intro X hX
  show lm_G X 100 272 0 0 0 0 [some (.ref 999), none, none, none, none, none, none] [] lm_s0 _
  refine lm_G_al (n := 11) (pc' := 3) (S' := [.ref 0]) (σ' := lm_sa1) rfl (by decide) rfl (by decide +kernel) (by decide +kernel) ?_
  refine lm_G_sg 1 (pc' := 4) (L' := [some (.ref 999), none, none, none, none, none, none]) (S' := [.ref 0, .ref 0]) (σ' := lm_sa1) rfl trivial ?_
  refine lm_G_ca (j := 85) (as := [.ref 0]) (rest := [.ref 0]) rfl (Or.inr rfl) (by decide +kernel) (by decide +kernel) (by decide) (by decide +kernel) (by decide +kernel) ⟨3000, lm_xe_ok 3000 hb _ ?_⟩
  show lm_G X 100 272 0 64 6432 7 [some (.ref 999), none, none, none, none, none, none] [.ref 0] σb _
  refine lm_G_sg 1 (pc' := 8) (L' := [some (.ref 999), some (.ref 0), none, none, none, none, none]) (S' := []) (σ' := σb) rfl trivial ?_
  refine lm_G_al (lm_new64 X _ σb hbn) (by rw [hbn]; decide) hbn (by decide +kernel) (by decide +kernel) ?_
  refine lm_G_sg 1 (pc' := 12) (L' := [some (.ref 999), some (.ref 0), none, none, none, none, none]) (S' := [.ref 64, .ref 64]) (σ' := lm_0 σb) rfl trivial ?_
  have hz : (lm_0 σb).2.2.2 = 65 := by show σb.2.2.2 + 1 = 65; rw [hbn]
  refine lm_G_caP (j := 139) (as := [.ref 64]) (rest := [.ref 64]) rfl (Or.inr hz) (by decide +kernel) (by decide +kernel) (by decide) (by decide +kernel) rfl ⟨3000, ?_⟩
  rw [hz]
  refine lm_xe_ok 3000 hc _ ?_
  refine ⟨(σc.1, lm_P1, σc.2.2), ⟨rfl, rfl, fun a ha j hj => hP a (by rw [← hcn]; exact ha) j hj⟩, ?_⟩
  show lm_G X 100 272 0 105 14762 15 [some (.ref 999), some (.ref 0), none, none, none, none, none] [.ref 64] (σc.1, lm_P1, σc.2.2) _
  refine lm_G_sg 2 (pc' := 17) (L' := [some (.ref 999), some (.ref 0), some (.ref 64), none, none, none, none]) (S' := [.int 1]) (σ' := (σc.1, lm_P1, σc.2.2)) rfl trivial ?_
  refine lm_G_al (lm_new105 X _ (σc.1, lm_P1, σc.2.2) hcn) (by rw [show ((σc.1, lm_P1, σc.2.2) : lm_S).2.2.2 = 105 from hcn]; decide) hcn (by decide +kernel) (by decide +kernel) ?_
  have e : (lm_0 (σc.1, lm_P1, σc.2.2) : lm_S) = lm_T (fun b => if b = 105 then (fun _ => 0) else σc.1 b) 66 (fun b => if b = 105 then (fun _ => 0) else σc.2.2.1 b) := by
    unfold lm_0
    simp only [hcn]
    show (_, (fun b => if b = 105 then (fun _ => none) else lm_P1 b), _, _) = _
    rw [lm_PV0]
  rw [e]
  exact lm_G_sg 3 (pc' := 23) (L' := lm_LL 0) (S' := []) rfl trivial (h X hX)
theorem lm_claim_of (h : ∀ X : lm_X, X.1 ≤ 3072 → lm_G X 100 272 0 106 14763 23 (lm_LL 0) [] (lm_T lm_M0 66 lm_G0) (fun o _ => o = .inl (some (.int 1)))) : lm_claim :=
  lm_claim_gen lm_sb1 lm_sc1 (lm_getD (d := lm_s0) lm_sb1_ok.1) lm_sb1_ok.2 (lm_getD (d := lm_s0) lm_sc1_ok.1) lm_sc1_ok.2 lm_sc1_P h
