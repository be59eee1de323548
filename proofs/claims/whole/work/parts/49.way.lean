/-! ===== a round ===== -/
/-- where the owner of a tune stands -/
def xP (s : Sc) (t : Nat) : Nat := (sPl s (sOw s t).toNatClampNeg).toNatClampNeg
def dN (a b : Nat) : Nat := if a ≤ b then b - a else a - b
/-- the way from one tune to the next one; 99: from nowhere -/
def wN (s : Sc) (t u : Nat) : Nat := if t = 99 then 0 else dN (xP s t) (xP s u)
def mnS (g : Nat → Bool) (f : Nat → Nat) : Nat → Nat × Nat
  | 0 => (1000, 0)
  | k + 1 => if g k && decide (f k < (mnS g f k).1) then (f k, k) else mnS g f k
/-- of all those that are not yet had -/
def vld (A h u : Nat) : Bool := A.testBit u && !(h.testBit u)
def dS (s : Sc) (m A : Nat) : Nat → Nat → Nat → Nat
  | 0, _, _ => 0
  | r + 1, t, h => (mnS (vld A h) (fun u => wN s t u + dS s m A r u (h ||| 2 ^ u)) m).1
def fuS (s : Sc) (m A r t h u : Nat) : Nat := wN s t u + dS s m A r u (h ||| 2 ^ u)
def nxS (s : Sc) (m A r t h : Nat) : Nat := (mnS (vld A h) (fuS s m A r t h) m).2
theorem dS_s {s : Sc} {m A r t h : Nat} : dS s m A (r + 1) t h = (mnS (vld A h) (fuS s m A r t h) m).1 := rfl
def pthS (s : Sc) (m A : Nat) : Nat → Nat → Nat → Nat → Nat
  | 0, _, _, _ => 0
  | r + 1, t, h, i => if i = 0 then nxS s m A r t h else pthS s m A r (nxS s m A r t h) (h ||| 2 ^ nxS s m A r t h) (i - 1)
theorem mn_y {g : Nat → Bool} {f : Nat → Nat} {k : Nat} (hg : g k = true) (h : f k < (mnS g f k).1) : mnS g f (k + 1) = (f k, k) := by simp only [mnS]; rw [hg, decide_eq_true h]; rfl
theorem mn_n {g : Nat → Bool} {f : Nat → Nat} {k : Nat} (h : ¬ f k < (mnS g f k).1) : mnS g f (k + 1) = mnS g f k := by simp only [mnS]; rw [decide_eq_false h, Bool.and_false]; rfl
theorem mn_g {g : Nat → Bool} {f : Nat → Nat} {k : Nat} (h : g k = false) : mnS g f (k + 1) = mnS g f k := by simp only [mnS]; rw [h, Bool.false_and]; rfl
theorem mn_le {g : Nat → Bool} {f : Nat → Nat} : ∀ k, (mnS g f k).1 ≤ 1000 ∧ ∀ u, u < k → g u = true → (mnS g f k).1 ≤ f u
  | 0 => ⟨Nat.le_refl _, fun u hu => by omega⟩
  | k + 1 => by
    obtain ⟨a, b⟩ := mn_le (g := g) (f := f) k
    by_cases e : g k = true ∧ f k < (mnS g f k).1
    · rw [mn_y e.1 e.2]
      refine ⟨by show f k ≤ 1000; omega, fun u hu hg => ?_⟩
      show f k ≤ f u
      by_cases w : u = k
      · rw [w]; exact Nat.le_refl _
      · have := b u (by omega) hg
        omega
    · have e2 : mnS g f (k + 1) = mnS g f k := by
        by_cases q : g k = true
        · exact mn_n (fun w => e ⟨q, w⟩)
        · exact mn_g (by simpa using q)
      rw [e2]
      refine ⟨a, fun u hu hg => ?_⟩
      by_cases w : u = k
      · subst w
        have : ¬ f u < (mnS g f u).1 := fun w => e ⟨hg, w⟩
        omega
      · exact b u (by omega) hg
/-- the first of the least -/
theorem mn_at {g : Nat → Bool} {f : Nat → Nat} : ∀ k, (mnS g f k).1 < 1000 → (mnS g f k).2 < k ∧ g (mnS g f k).2 = true ∧ f (mnS g f k).2 = (mnS g f k).1 ∧ ∀ u, u < (mnS g f k).2 → g u = true → (mnS g f k).1 < f u
  | 0, h => by simp [mnS] at h
  | k + 1, h => by
    by_cases e : g k = true ∧ f k < (mnS g f k).1
    · rw [mn_y e.1 e.2]
      refine ⟨Nat.lt_succ_self k, e.1, rfl, fun u hu hg => ?_⟩
      have := (mn_le (g := g) (f := f) k).2 u hu hg
      show f k < f u
      omega
    · have e2 : mnS g f (k + 1) = mnS g f k := by
        by_cases q : g k = true
        · exact mn_n (fun w => e ⟨q, w⟩)
        · exact mn_g (by simpa using q)
      rw [e2] at h ⊢
      obtain ⟨a, b, c, d⟩ := mn_at k h
      exact ⟨by omega, b, c, d⟩
/-- all tunes that somebody owns -/
def ownA (F : Fa) (s : Sc) : Nat := mskN (fun t => decide (sOw s t ≠ -1)) (fM F)
theorem bitW_nI {k j : Nat} (hj : j < 32) : bitW (nI k) j = k.testBit j := by
  rw [bitW_bt hj]
  unfold bt
  show (BitVec.ofNat 32 k).getLsbD j = _
  rw [BitVec.getLsbD_ofNat]
  simp [hj]
theorem ownA_lt {F : Fa} (hF : okF F) {s : Sc} : ownA F s < 64 := Nat.lt_of_lt_of_le (mskN_lt _ _) (Nat.pow_le_pow_right (by omega) hF.m)
theorem ownA_eq {F : Fa} (hF : okF F) {s : Sc} : (bit1 (nI (fM F)) - 1) &&& (ownS F (sOw s) (-1) ^^^ (-1)) = nI (ownA F s) := by
  have hm := hF.m
  rw [(full_msk (fM F) (by omega)).1, msk_andx (by omega)]
  unfold ownA
  rw [← msk_N _ _ (by omega)]
  apply msk_congr
  intro j hj
  rw [bitW_nm (by omega)]
  unfold ownS
  rw [bitW_mskn (by omega) hj]
  by_cases e : sOw s j = -1 <;> simp [e]
theorem ownA_bit {F : Fa} (hF : okF F) {s : Sc} {t : Nat} (ht : t < fM F) : (ownA F s).testBit t = decide (sOw s t ≠ -1) := by
  have hm := hF.m
  rw [← bitW_nI (by omega)]
  unfold ownA
  rw [← msk_N _ _ (by omega), bitW_mskn (by omega) ht]
theorem bit_and0 {x : Int32} {j : Nat} (hj : j < 32) : x &&& bit1 (nI j) = 0 ↔ bitW x j = false := by
  constructor
  · intro h
    rw [bitW_bt hj]
    have h2 : bt (x &&& bit1 (nI j)) j = bt 0 j := by rw [h]
    rw [b_and, bt_bit1 hj hj, b_0] at h2
    simpa using h2
  · intro h
    rw [bitW_bt hj] at h
    apply b_ext
    intro i hi
    rw [b_and, bt_bit1 hj hi, b_0]
    by_cases e : i = j
    · subst e
      rw [h]
      rfl
    · simp [e]
theorem or_bit {h j : Nat} (hj : j < 6) : nI h ||| bit1 (nI j) = nI (h ||| 2 ^ j) := by rw [bit1_n j (by omega), nI_or]
theorem or_lt : ∀ h, h < 64 → ∀ j, j < 6 → h ||| 2 ^ j < 64 := by decide +kernel
theorem dN_abs : ∀ a, a ≤ 30 → ∀ b, b ≤ 30 → absI (nI a - nI b) = nI (dN b a) ∧ absI (nI a - nI b) = nI (dN a b) ∧ dN a b ≤ 30 := by decide +kernel
theorem xP_ok {F : Fa} {s : Sc} (hs : okS F s) {t : Nat} (ht : t < fM F) (ho : sOw s t ≠ -1) (hn : fN F ≤ 8) : xP s t ≤ 30 ∧ ∃ p, p < fN F ∧ sOw s t = nI p ∧ sPl s p = nI (xP s t) := by
  obtain ⟨p, hp, e⟩ := (hs.2.1 t ht).resolve_left ho
  obtain ⟨x, hx, e2⟩ := hs.2.2 p hp
  have : xP s t = x := by
    unfold xP
    rw [e, nI_clamp (by omega), e2, nI_clamp (by omega)]
  rw [this]
  exact ⟨hx, p, hp, e, e2⟩
/-- which tunes a way may come from -/
def frmT (F : Fa) (s : Sc) (t : Nat) : Prop := t = 99 ∨ (t < fM F ∧ sOw s t ≠ -1)
theorem wN_le {F : Fa} {s : Sc} (hF : okF F) (hs : okS F s) {t u : Nat} (ht : frmT F s t) (hu : u < fM F) (ho : sOw s u ≠ -1) : wN s t u ≤ 30 := by
  unfold wN
  split
  · omega
  · rename_i w
    rcases ht with ht | ht
    · exact absurd ht w
    · exact (dN_abs _ (xP_ok hs ht.1 ht.2 hF.n).1 _ (xP_ok hs hu ho hF.n).1).2.2
theorem pc_sub : ∀ A, A < 64 → ∀ h, h < 64 → h &&& A = h → pcN h ≤ pcN A ∧ (pcN h = pcN A → h = A) ∧ (pcN h < pcN A → ∃ u, u < 6 ∧ vld A h u = true) := by decide +kernel
theorem pc_or : ∀ h, h < 64 → ∀ u, u < 6 → h.testBit u = false → pcN (h ||| 2 ^ u) = pcN h + 1 ∧ h < h ||| 2 ^ u := by decide +kernel
theorem sub_orX : ∀ A, A < 64 → ∀ h, h < 64 → ∀ u, u < 6 → (h &&& A = h ∧ A.testBit u = true) → ((h ||| 2 ^ u) &&& A = (h ||| 2 ^ u) ∧ (h ||| 2 ^ u) ≤ A) := by decide +kernel
theorem sub_or (A : Nat) (hA : A < 64) (h : Nat) (hh : h < 64) (e : h &&& A = h) (u : Nat) (hu : u < 6) (hb : A.testBit u = true) : (h ||| 2 ^ u) &&& A = (h ||| 2 ^ u) ∧ (h ||| 2 ^ u) ≤ A := sub_orX A hA h hh u hu ⟨e, hb⟩
theorem sub_ii : ∀ A, A < 64 → ∀ h, h < 64 → (nI h &&& (nI A ^^^ (-1)) = 0 ↔ h &&& A = h) := by decide +kernel
theorem bit_lt {A m : Nat} (h : A < 2 ^ m) {u : Nat} (hu : A.testBit u = true) : u < m := by
  apply Classical.byContradiction
  intro w
  have : A < 2 ^ u := Nat.lt_of_lt_of_le h (Nat.pow_le_pow_right (by omega) (by omega))
  rw [Nat.testBit_lt_two_pow this] at hu
  cases hu
theorem vld_ok {F : Fa} {s : Sc} (hF : okF F) {h u : Nat} (hv : vld (ownA F s) h u = true) : u < fM F ∧ sOw s u ≠ -1 ∧ (ownA F s).testBit u = true ∧ h.testBit u = false := by
  unfold vld at hv
  rw [Bool.and_eq_true] at hv
  have hu : u < fM F := bit_lt (mskN_lt _ _) hv.1
  have := hv.1
  rw [ownA_bit hF hu] at this
  exact ⟨hu, of_decide_eq_true this, hv.1, by simpa using hv.2⟩
theorem dS_le {F : Fa} {s : Sc} (hF : okF F) (hs : okS F s) : ∀ r t h, frmT F s t → h < 64 → h &&& ownA F s = h → r = pcN (ownA F s) - pcN h → dS s (fM F) (ownA F s) r t h ≤ 30 * r
  | 0, _, _, _, _, _, _ => by simp [dS]
  | r + 1, t, h, ht, hh, hsub, hr => by
    have hm := hF.m
    obtain ⟨_, _, p3⟩ := pc_sub _ (ownA_lt hF (s := s)) h hh hsub
    obtain ⟨u, hu, hv⟩ := p3 (by omega)
    clear p3
    obtain ⟨u1, u2, u3, u4⟩ := vld_ok hF hv
    have po := pc_or h hh u hu u4
    have so := sub_or _ (ownA_lt hF (s := s)) h hh hsub u hu u3
    have ih := dS_le hF hs r u (h ||| 2 ^ u) (Or.inr ⟨u1, u2⟩) (or_lt h hh u hu) so.1 (by rw [po.1]; clear so; omega)
    have hw := wN_le hF hs ht u1 u2
    have := (mn_le (g := vld (ownA F s) h) (f := fuS s (fM F) (ownA F s) r t h) (fM F)).2 u u1 hv
    rw [dS_s]
    unfold fuS at this ⊢
    omega
/-- the best row of tunes, if the next one is u -/
def bstS (s : Sc) (m A r k h u : Nat) (row : Fn) (i : Nat) : Int32 := if i < k then row i else if i = k then nI u else nI (pthS s m A r u (h ||| 2 ^ u) (i - k - 1))
theorem bst_pth {s : Sc} {m A r k h t : Nat} {row : Fn} {i : Nat} : bstS s m A r k h (nxS s m A r t h) row i = if i < k then row i else nI (pthS s m A (r + 1) t h (i - k)) := by
  unfold bstS
  by_cases a : i < k
  · rw [if_pos a, if_pos a]
  · rw [if_neg a, if_neg a]
    simp only [pthS]
    by_cases b : i = k
    · rw [if_pos b, if_pos (by omega)]
    · rw [if_neg b, if_neg (by omega)]
def frX (a : Nat) : Bool := decide (49 ≤ a ∧ a ≤ 51)
def FrX (M M1 : Nat → Fn) : Prop := Fr frX M M1 ∧ ∀ k, k ≠ 6 → M1 49 k = M 49 k
theorem FrX_rf (M : Nat → Fn) : FrX M M := ⟨Fr_rf _ _, fun _ _ => rfl⟩
theorem FrX_tr {M M1 M2 : Nat → Fn} (h : FrX M M1) (h2 : FrX M1 M2) : FrX M M2 := ⟨Fr_tr h.1 h2.1, fun k a => (h2.2 k a).trans (h.2 k a)⟩
theorem RC_X {M M1 : Nat → Fn} {F : Fa} {s : Sc} (h : RC 28 M F s) (f : FrX M M1) : RC 28 M1 F s := RC_fr h f.1 (by decide) (by decide)
theorem nI_dec {k : Nat} (h : 0 < k) : nI k + (-1) = nI (k - 1) := by
  obtain ⟨j, rfl⟩ : ∃ j, k = j + 1 := ⟨k - 1, by omega⟩
  rw [nI_succ, Int32.add_assoc]
  rw [show (1 : Int32) + (-1) = 0 by decide, Int32.add_zero]
  rfl
theorem shl6 : ∀ u, u < 6 → nI u <<< ((6 : Int32) &&& 31) = nI (64 * u) := by decide +kernel
