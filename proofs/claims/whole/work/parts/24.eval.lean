/-! ===== closed runs: the constructors, by reckoning ===== -/
def lm_X0 : lm_X := (0, fun _ => 0)
def lm_inb (i : Int32) (n : Nat) : Bool := !(decide (i < 0) || decide (n ≤ i.toNatClampNeg))
theorem lm_inb_ok {i : Int32} {n : Nat} (h : lm_inb i n = true) : vp_in i n := by
  unfold lm_inb at h
  simp only [Bool.not_eq_true', Bool.or_eq_false_iff, decide_eq_false_iff_not] at h
  exact fun q => q.elim h.1 h.2
/-- what an instruction asks, decided; the script isn't touched -/
def lm_gb (r : lm_R) (S : List Value) (σ : lm_S) : Bool := match r with
  | (_, i, x, y, _) => match i with
    | .idiv | .irem => false
    | .putfield _ => (match S with
      | .int v :: .ref a :: _ => (match lm_ob σ a x y with
        | some 1 => decide (v = 0) || decide (v = 1)
        | _ => true)
      | _ => true)
    | .iaload => (match S with
      | .int j :: .ref a :: _ => decide (a ≠ lm_scr) && (match lm_ar σ a with
        | some (_, n) => lm_inb j n
        | none => false)
      | _ => false)
    | .baload | .laload | .aaload => (match S with
      | .int j :: .ref a :: _ => (match lm_ar σ a with
        | some (_, n) => lm_inb j n
        | none => false)
      | _ => false)
    | .iastore | .bastore | .lastore | .aastore => (match S with
      | _ :: .int j :: .ref a :: _ => (match lm_ar σ a with
        | some (_, n) => lm_inb j n
        | none => false)
      | _ => false)
    | .arraylength => (match S with
      | .ref a :: _ => decide (a ≠ lm_scr)
      | _ => false)
    | .invokestatic _ | .invokevirtual _ | .invokespecial _ => decide (y ≠ 4) && decide (y ≠ 6) && decide ((S.map fun v => v.category).sum ≤ 8)
    | _ => true
set_option maxHeartbeats 4000000 in
theorem lm_gb_ok {X : lm_X} {r : lm_R} {L : lm_L} {S : List Value} {σ : lm_S} (hb : lm_gb r S σ = true) : lm_st X r L S σ = lm_st lm_X0 r L S σ ∧ ∀ (g : Prop) (q : Nat × lm_L × List Value × lm_S), lm_st X r L S σ = some (g, q) → g ∧ lm_gd r S := by
  by_cases hp : lm_pure r = true
  · refine ⟨?_, fun g q h => lm_pure_ok h hp⟩
    obtain ⟨pc, ins, x, y, w⟩ := r
    cases ins <;> first
      | rfl
      | (cases hp; done)
      | skip
    case arraylength =>
      simp only [lm_gb] at hb
      split at hb
      · have hn := of_decide_eq_true hb
        simp only [lm_st]
        rw [if_neg hn, if_neg hn]
      · cases hb
  · obtain ⟨pc, ins, x, y, w⟩ := r
    cases ins <;> first
      | (exact absurd rfl hp)
      | (cases hb; done)
      | skip
    case putfield idx =>
      refine ⟨rfl, fun g q h => ⟨?_, trivial⟩⟩
      simp only [lm_gb] at hb
      simp only [lm_st] at h
      split at h
      · split at h
        · cases h; trivial
        · rename_i ho
          cases h
          simp only at hb
          rw [ho] at hb
          simp only [Bool.or_eq_true, decide_eq_true_eq] at hb
          exact hb
        · cases h
      · split at h
        · cases h; trivial
        · cases h
      · cases h
    case iaload =>
      simp only [lm_gb] at hb
      split at hb
      · simp only [Bool.and_eq_true, decide_eq_true_eq] at hb
        obtain ⟨hn, hb⟩ := hb
        refine ⟨by simp only [lm_st]; rw [if_neg hn, if_neg hn], fun g q h => ⟨?_, trivial⟩⟩
        simp only [lm_st] at h
        rw [if_neg hn] at h
        split at h
        · rename_i ho
          cases h
          rw [ho] at hb
          exact lm_inb_ok hb
        · cases h
      · cases hb
    case baload =>
      refine ⟨rfl, fun g q h => ⟨?_, trivial⟩⟩
      simp only [lm_gb] at hb
      simp only [lm_st] at h
      split at h
      · split at h
        · rename_i ho
          cases h
          simp only at hb
          rw [ho] at hb
          exact lm_inb_ok hb
        · rename_i ho
          cases h
          simp only at hb
          rw [ho] at hb
          exact lm_inb_ok hb
        · cases h
      · cases h
    case laload =>
      refine ⟨rfl, fun g q h => ⟨?_, trivial⟩⟩
      simp only [lm_gb] at hb
      simp only [lm_st] at h
      split at h
      · split at h
        · rename_i ho
          cases h
          simp only at hb
          rw [ho] at hb
          exact lm_inb_ok hb
        · cases h
      · cases h
    case aaload =>
      refine ⟨rfl, fun g q h => ⟨?_, trivial⟩⟩
      simp only [lm_gb] at hb
      simp only [lm_st] at h
      split at h
      · split at h
        · rename_i ho
          cases h
          simp only at hb
          rw [ho] at hb
          exact lm_inb_ok hb
        · cases h
      · cases h
    case iastore =>
      refine ⟨rfl, fun g q h => ⟨?_, trivial⟩⟩
      simp only [lm_gb] at hb
      simp only [lm_st] at h
      split at h
      · split at h
        · rename_i ho
          cases h
          simp only at hb
          rw [ho] at hb
          exact lm_inb_ok hb
        · cases h
      · cases h
    case bastore =>
      refine ⟨rfl, fun g q h => ⟨?_, trivial⟩⟩
      simp only [lm_gb] at hb
      simp only [lm_st] at h
      split at h
      · split at h
        · rename_i ho
          cases h
          simp only at hb
          rw [ho] at hb
          exact lm_inb_ok hb
        · rename_i ho
          cases h
          simp only at hb
          rw [ho] at hb
          exact lm_inb_ok hb
        · cases h
      · cases h
    case lastore =>
      refine ⟨rfl, fun g q h => ⟨?_, trivial⟩⟩
      simp only [lm_gb] at hb
      simp only [lm_st] at h
      split at h
      · split at h
        · rename_i ho
          cases h
          simp only at hb
          rw [ho] at hb
          exact lm_inb_ok hb
        · cases h
      · cases h
    case aastore =>
      refine ⟨rfl, fun g q h => ⟨?_, trivial⟩⟩
      simp only [lm_gb] at hb
      simp only [lm_st] at h
      split at h
      · split at h
        · split at h
          · rename_i ho
            cases h
            simp only at hb
            rw [ho] at hb
            exact lm_inb_ok hb
          · cases h
        · cases h
      · cases h
    all_goals
      simp only [lm_gb, Bool.and_eq_true, decide_eq_true_eq] at hb
      refine ⟨rfl, fun g q h => ⟨?_, hb.2⟩⟩
      simp only [lm_st] at h
      match y, hb, h with
      | 0, _, h => cases h
      | 1, _, h => simp only [lm_bi] at h; split at h <;> first | (cases h; trivial) | (cases h; done)
      | 2, _, h => simp only [lm_bi] at h; split at h <;> first | (cases h; trivial) | (cases h; done)
      | 3, _, h => simp only [lm_bi] at h; split at h <;> first | (cases h; trivial) | (cases h; done)
      | 4, hb, h => exact absurd rfl hb.1.1
      | 5, _, h => simp only [lm_bi] at h; split at h <;> first | (split at h <;> first | (split at h <;> first | (cases h; trivial) | (cases h; done)) | (cases h; done)) | (cases h; done)
      | 6, hb, h => exact absurd rfl hb.1.2
      | 7, _, h => simp only [lm_bi] at h; split at h <;> first | (cases h; trivial) | (cases h; done)
      | y + 8, _, h => cases h
/-- a branch, decided -/
def lm_bb (r : lm_R) (S : List Value) : Bool := match r with
  | (_, i, _, _, _) => match i with
    | .ifCond c _ => (match S with
      | .int v :: _ => (match c with
        | .eq => decide (v = 0)
        | .ne => decide (¬ v = 0)
        | .lt => decide (v < 0)
        | .ge => decide (0 ≤ v)
        | .gt => decide (0 < v)
        | .le => decide (v ≤ 0))
      | _ => false)
    | .if_icmp c _ => (match S with
      | .int w :: .int v :: _ => (match c with
        | .eq => decide (v = w)
        | .ne => decide (¬ v = w)
        | .lt => decide (v < w)
        | .ge => decide (w ≤ v)
        | .gt => decide (w < v)
        | .le => decide (v ≤ w))
      | _ => false)
    | _ => false
theorem lm_bb_ok {r : lm_R} {S S' : List Value} {b : Prop} {t : Nat} (h : lm_br r S = some (b, t, S')) : b ↔ lm_bb r S = true := by
  obtain ⟨pc, ins, x, y, w⟩ := r
  cases ins <;> simp only [lm_br] at h <;> first
    | (cases h; done)
    | skip
  case ifCond cn o =>
    split at h
    · cases h
      cases cn <;> simp [lm_bb]
    · cases h
  case if_icmp cn o =>
    split at h
    · cases h
      cases cn <;> simp [lm_bb]
    · cases h
/-- a closed run of a method that answers nothing -/
def lm_xe : Nat → Nat → Nat → Nat → Nat → Nat → Nat → lm_L → List Value → lm_S → Option lm_S
  | 0, _, _, _, _, _, _, _, _, _ => none
  | f + 1, d, i, z, c, k, pc, L, S, σ => match lm_row i pc with
    | none => none
    | some r => match lm_st lm_X0 r L S σ with
      | some (_, pc', L', S', σ') => if lm_gb r S σ = true then lm_xe f d i z c k pc' L' S' σ' else none
      | none => match lm_br r S with
        | some (_, t, S') => if lm_bb r S = true then lm_xe f d i z c k t L S' σ else lm_xe f d i z c k (pc + 3) L S' σ
        | none => match lm_al r S σ with
          | some (n, pc', S', σ') => if σ.2.2.2 < lm_N0 ∧ σ.2.2.2 = z + c ∧ c + 1 ≤ lm_mc i ∧ k + n ≤ lm_ms i then lm_xe f d i z (c + 1) (k + n) pc' L S' σ' else none
          | none => match lm_ca r S with
            | some (j, as, rest) => (match d with
              | 0 => none
              | d' + 1 => if (σ.2.2.2 = lm_N0 ∨ σ.2.2.2 = z + c) ∧ c + lm_mc j ≤ lm_mc i ∧ k + lm_ms j ≤ lm_ms i ∧ (rest.map fun v => v.category).sum ≤ 8 ∧ (lm_ls as).length ≤ lm_ml j ∧ lm_rv j as σ = true then (match lm_xe f d' j σ.2.2.2 0 0 0 (lm_en j as) [] σ with
                | some σ' => lm_xe f (d' + 1) i z (c + lm_mc j) (k + lm_ms j) (pc + 3) L rest σ'
                | none => none) else none)
            | none => match lm_rn i r S with
              | some (_, none) => if c ≤ lm_mc i ∧ k ≤ lm_ms i then some σ else none
              | _ => none
theorem lm_rn_none {i : Nat} {r : lm_R} {S : List Value} {g : Prop} (h : lm_rn i r S = some (g, none)) : g := by
  unfold lm_rn at h
  split at h
  · split at h
    · split at h <;> cases h
    · cases h
  · split at h
    · split at h
      · cases h; trivial
      · cases h
    · cases h
  · cases h
set_option maxHeartbeats 4000000 in
theorem lm_xe_ok {X : lm_X} : ∀ (f : Nat) {d i z c k pc : Nat} {L : lm_L} {S : List Value} {σ σ' : lm_S}, lm_xe f d i z c k pc L S σ = some σ' → ∀ Q : lm_O → lm_S → Prop, Q (.inl none) σ' → lm_ev X f d i z c k pc L S σ Q := by
  intro f
  induction f with
  | zero => intro d i z c k pc L S σ σ' h; cases h
  | succ f ih =>
    intro d i z c k pc L S σ σ' h Q hQ
    simp only [lm_xe] at h
    split at h
    · cases h
    · rename_i r hr
      simp only [lm_ev, hr]
      split at h
      · rename_i g pc' L' S' σ2 hst
        split at h
        · rename_i hgb
          obtain ⟨e1, e2⟩ := lm_gb_ok (X := X) (L := L) hgb
          have hst2 := e1.trans hst
          obtain ⟨g1, g2⟩ := e2 g _ hst2
          simp only [hst2]
          exact ⟨g1, g2, ih h Q hQ⟩
        · cases h
      · rename_i hst
        have hstX : lm_st X r L S σ = none := by
          by_cases hgb : lm_gb r S σ = true
          · rw [(lm_gb_ok (X := X) (L := L) hgb).1]; exact hst
          · -- the script's own rows: their step is some, whatever X
            cases hx : lm_st X r L S σ with
            | none => rfl
            | some q =>
              exfalso
              obtain ⟨pc0, ins, x, y, w⟩ := r
              have hsame : lm_st X (pc0, ins, x, y, w) L S σ = none ↔ lm_st lm_X0 (pc0, ins, x, y, w) L S σ = none := by
                cases ins <;> first
                  | exact Iff.rfl
                  | skip
                case iaload =>
                  simp only [lm_st]
                  split
                  · split
                    · simp
                    · exact Iff.rfl
                  · exact Iff.rfl
                case arraylength =>
                  simp only [lm_st]
                  split
                  · split
                    · simp
                    · exact Iff.rfl
                  · exact Iff.rfl
              rw [hsame.mpr hst] at hx
              cases hx
        split at h
        · rename_i b t S' hbr
          have hbb := lm_bb_ok hbr
          simp only [hstX, hbr]
          split at h
          · rename_i hb
            exact ⟨fun _ => ih h Q hQ, fun nb => absurd (hbb.mpr hb) nb⟩
          · rename_i hb
            exact ⟨fun b => absurd (hbb.mp b) hb, fun _ => ih h Q hQ⟩
        · rename_i hbr
          split at h
          · rename_i n9 pc9 S9 σ9 hal
            simp only [hstX, hbr, hal]
            split at h
            · rename_i hcond
              exact ⟨hcond.1, hcond.2.1, hcond.2.2.1, hcond.2.2.2, ih h Q hQ⟩
            · cases h
          · rename_i hal
            split at h
            · rename_i j9 as9 rest9 hca
              simp only [hstX, hbr, hal, hca]
              split at h
              · cases h
              · simp only
                split at h
                · rename_i hcond
                  split at h
                  · rename_i σ3 hx3
                    refine ⟨hcond.1, hcond.2.1, hcond.2.2.1, hcond.2.2.2.1, hcond.2.2.2.2.1, hcond.2.2.2.2.2, ih hx3 _ ⟨σ3, lm_rq_rf σ3, ?_⟩⟩
                    exact ih h Q hQ
                  · cases h
                · cases h
            · rename_i hca
              split at h
              · rename_i g hrn
                simp only [hstX, hbr, hal, hca, hrn]
                split at h
                · rename_i hcond
                  cases h
                  exact ⟨lm_rn_none hrn, hcond.1, hcond.2, hQ⟩
                · cases h
              · cases h
