/-! ===== frames of the model, small facts of the hills ===== -/
def frA (a : Nat) : Bool := a == 88 || a == 89
def frM (a : Nat) : Bool := a == 64 || a == 81 || a == 82 || a == 83 || a == 84 || a == 88 || a == 89
/-- what an hour may change of the model -/
def FrM (M M1 : Nat → Fn) : Prop := Fr frM M M1 ∧ ∀ k, k ≠ 36 → k ≠ 41 → M1 64 k = M 64 k
theorem FrM_rf (M : Nat → Fn) : FrM M M := ⟨Fr_rf _ _, fun _ _ _ => rfl⟩
theorem FrM_tr {M M1 M2 : Nat → Fn} (h : FrM M M1) (h2 : FrM M1 M2) : FrM M M2 := ⟨Fr_tr h.1 h2.1, fun k a b => (h2.2 k a b).trans (h.2 k a b)⟩
theorem FrM_A {M M1 : Nat → Fn} (h : Fr frA M M1) : FrM M M1 := by
  refine ⟨Fr_mn h ?_, fun k _ _ => by rw [h 64 rfl]⟩
  intro a ha
  unfold frM at ha
  unfold frA
  revert ha
  cases (a == 88) <;> cases (a == 89) <;> simp
theorem FrM_wr {M M1 : Nat → Fn} (h : FrM M M1) {a j : Nat} {x : Int32} (ha : frM a = true) (h64 : a ≠ 64) : FrM M (lm_wr M1 a j x) := by
  refine ⟨Fr_wr h.1 ha, fun k a1 a2 => ?_⟩
  rw [wr_row (fun e => h64 e.symm)]
  exact h.2 k a1 a2
theorem FrM_w64 {M M1 : Nat → Fn} (h : FrM M M1) {j : Nat} {x : Int32} (hj : j = 36 ∨ j = 41) : FrM M (lm_wr M1 64 j x) := by
  refine ⟨Fr_wr h.1 rfl, fun k a1 a2 => ?_⟩
  rw [wr_at (by omega)]
  exact h.2 k a1 a2
theorem KM_frM {M M1 : Nat → Fn} {F : Fa} (h : KM M F) (f : Fr frM M M1) : KM M1 F := KM_of h (f 68 rfl) (f 71 rfl) (f 69 rfl) (f 74 rfl) (f 76 rfl) (f 77 rfl)
theorem RM_A {M M1 : Nat → Fn} {F : Fa} {s : Sc} (h : RM M F s) (f : Fr frA M M1) : RM M1 F s := by
  have hk : KM M1 F := KM_of h.1 (f 68 rfl) (f 71 rfl) (f 69 rfl) (f 74 rfl) (f 76 rfl) (f 77 rfl)
  refine ⟨hk, ?_⟩
  rw [f 64 rfl, f 79 rfl, f 85 rfl, f 86 rfl, f 82 rfl, f 83 rfl, f 84 rfl, f 81 rfl]
  exact h.2
theorem RM_taken {M : Nat → Fn} {F : Fa} {s : Sc} (h : RM M F s) (k : Nat) (hk : k ≠ 36) (x : Int32) : RM (lm_wr M 64 k x) F s := by
  refine ⟨KM_of h.1 rfl rfl rfl rfl rfl rfl, ?_, h.br, h.pl, h.co, h.hu, h.hd, h.id, h.ow⟩
  rw [wr_at (fun e => hk e.symm)]
  exact h.hr
/-- one falls silent -/
theorem RM_sil {M : Nat → Fn} {F : Fa} {s : Sc} (h : RM M F s) (p : Nat) : RM (lm_wr (lm_wr (lm_wr M 82 p (-1)) 83 p 0) 84 p 0) F (silS s p) :=
  ⟨KM_of h.1 rfl rfl rfl rfl rfl rfl, h.hr, h.br, h.pl, h.co, Ag_upd h.hu p _, Ag_upd h.hd p _, Ag_upd h.id p _, h.ow⟩
theorem RM_own {M : Nat → Fn} {F : Fa} {s : Sc} (h : RM M F s) (t : Nat) (x y : Int32) : RM (lm_wr (lm_wr M 64 41 y) 81 t x) F (ownT s t x) :=
  ⟨KM_of h.1 rfl rfl rfl rfl rfl rfl, h.hr, h.br, h.pl, h.co, h.hu, h.hd, h.id, Ag_upd h.ow t x⟩
theorem RM_hums {M : Nat → Fn} {F : Fa} {s : Sc} (h : RM M F s) (p : Nat) (t : Int32) : RM (lm_wr M 82 p t) F (hums s p t) :=
  ⟨KM_of h.1 rfl rfl rfl rfl rfl rfl, h.hr, h.br, h.pl, h.co, Ag_upd h.hu p t, h.hd, h.id, h.ow⟩
theorem RM_tick1 {M : Nat → Fn} {F : Fa} {s : Sc} (h : RM M F s) {p : Nat} (hp : ¬ sHu s p = -1) : RM (lm_wr M 83 p (sHd s p + 1)) F (tickP s p) := by
  unfold tickP
  rw [if_pos (decide_eq_true hp)]
  exact ⟨KM_of h.1 rfl rfl rfl rfl rfl rfl, h.hr, h.br, h.pl, h.co, h.hu, Ag_upd h.hd p _, h.id, h.ow⟩
theorem RM_tick2 {M : Nat → Fn} {F : Fa} {s : Sc} (h : RM M F s) {p : Nat} (hp : sHu s p = -1) : RM (lm_wr M 84 p (if sId s p + 1 < 99 then sId s p + 1 else 99)) F (tickP s p) := by
  unfold tickP
  have hp2 : ¬ decide (sHu s p ≠ -1) = true := by simp [hp]
  rw [if_neg hp2]
  have e : (if sId s p + 1 < 99 then sId s p + 1 else 99) = (if 99 < sId s p + 1 then 99 else sId s p + 1) := by
    generalize sId s p + 1 = y
    by_cases h1 : y < 99
    · rw [if_pos h1, if_neg (Int32.not_lt.mpr (Int32.le_of_lt h1))]
    · rw [if_neg h1]
      by_cases h2 : (99 : Int32) < y
      · rw [if_pos h2]
      · rw [if_neg h2]
        exact Int32.le_antisymm (Int32.not_lt.mp h1) (Int32.not_lt.mp h2)
  rw [e]
  exact ⟨KM_of h.1 rfl rfl rfl rfl rfl rfl, h.hr, h.br, h.pl, h.co, h.hu, h.hd, Ag_upd h.id p _, h.ow⟩
theorem RM_hour {M : Nat → Fn} {F : Fa} {s : Sc} (h : RM M F s) : RM (lm_wr M 64 36 (sHr s + 1)) F (nxtH s) :=
  ⟨KM_of h.1 rfl rfl rfl rfl rfl rfl, rfl, h.br, h.pl, h.co, h.hu, h.hd, h.id, h.ow⟩
/-! pure -/
theorem hum_z {F : Fa} (hF : okF F) {hu : Fn} {t : Int32} : humS F hu t = 0 ↔ ∀ p, p < fN F → hu p ≠ t := by
  unfold humS
  rw [msk_z (by have := hF.n; omega)]
  constructor
  · intro h p hp e
    have := h p hp
    simp [e] at this
  · intro h p hp
    simp [h p hp]
theorem stp_none {F : Fa} {W : Nat → Bool} {s : Sc} {t : Int32} : ∀ n, (∀ p, p < n → sHu s p = t → W p = false) → stpS W s t n = s
  | 0, _ => rfl
  | n + 1, h => by
    simp only [stpS]
    rw [stp_none (F := F) n (fun p hp => h p (by omega)), if_neg]
    by_cases e : sHu s n = t
    · simp [h n (by omega) e]
    · simp [e]
theorem lst_none {W : Nat → Bool} {s : Sc} {t : Int32} : ∀ n, (∀ p, p < n → sHu s p = t → W p = false) → lstS W s t n = -1
  | 0, _ => rfl
  | n + 1, h => by
    simp only [lstS]
    rw [lst_none n (fun p hp => h p (by omega)), if_neg]
    by_cases e : sHu s n = t
    · simp [h n (by omega) e]
    · simp [e]
theorem stp_hu {W : Nat → Bool} {s : Sc} {t : Int32} : ∀ n p, sHu (stpS W s t n) p = if p < n ∧ sHu s p = t ∧ W p = true then -1 else sHu s p
  | 0, p => by simp [stpS]
  | n + 1, p => by
    have ih := stp_hu (W := W) (s := s) (t := t) n p
    simp only [stpS]
    split
    · rename_i hc
      simp only [Bool.and_eq_true, decide_eq_true_eq] at hc
      show upd (sHu (stpS W s t n)) n (-1) p = _
      by_cases e : p = n
      · subst e
        rw [pk_us, if_pos ⟨by omega, hc.1, hc.2⟩]
      · rw [pk_un e, ih]
        have : (p < n) = (p < n + 1) := by apply propext; omega
        simp only [this]
    · rename_i hc
      rw [ih]
      by_cases e : p = n
      · subst e
        simp only [Bool.and_eq_true, decide_eq_true_eq] at hc
        rw [if_neg (by omega), if_neg (fun q => hc q.2)]
      · have : (p < n) = (p < n + 1) := by apply propext; omega
        simp only [this]
theorem stp_ow {W : Nat → Bool} {s : Sc} {t : Int32} : ∀ n, sOw (stpS W s t n) = sOw s ∧ sHr (stpS W s t n) = sHr s ∧ sBr (stpS W s t n) = sBr s ∧ sPl (stpS W s t n) = sPl s ∧ sCo (stpS W s t n) = sCo s
  | 0 => ⟨rfl, rfl, rfl, rfl, rfl⟩
  | n + 1 => by
    have ih := stp_ow (W := W) (s := s) (t := t) n
    simp only [stpS]
    split
    · exact ih
    · exact ih
theorem tun_none {F : Fa} (hF : okF F) {W : Nat → Bool} {s : Sc} {t : Nat} (h : humS F (sHu s) (nI t) = 0) : tunS F W s t = s ∧ tunD F W s t = 0 := by
  have h1 : fallS F W s (nI t) = false := by unfold fallS; simp [h]
  unfold tunS tunD
  rw [h1]
  refine ⟨?_, rfl⟩
  rw [if_neg (by decide)]
  exact stp_none (F := F) _ (fun p hp e => absurd e (hum_z hF |>.mp h p hp))
theorem fst_some {f : Nat → Bool} {t : Nat} : ∀ {j n : Nat}, fstS f j = some t → j ≤ n → fstS f n = some t := by
  intro j n h
  induction n with
  | zero =>
    intro hn
    have e : j = 0 := by omega
    subst e
    exact h
  | succ n ih =>
    intro hn
    by_cases e : j = n + 1
    · subst e; exact h
    · simp only [fstS]
      rw [ih (by omega)]
theorem fst_lt {f : Nat → Bool} {t : Nat} : ∀ {n : Nat}, fstS f n = some t → t < n ∧ f t = true
  | 0, h => by cases h
  | n + 1, h => by
    simp only [fstS] at h
    split at h
    · rename_i u hu
      cases h
      have := fst_lt hu
      exact ⟨by omega, this.2⟩
    · split at h
      · rename_i hf
        cases h
        exact ⟨by omega, hf⟩
      · cases h
theorem fst_nx {f : Nat → Bool} {n : Nat} (h : fstS f n = none) : fstS f (n + 1) = if f n then some n else none := by simp [fstS, h]
theorem nI_m1 {t : Nat} (h : t < 2 ^ 31) : ¬ nI t = -1 := by
  intro e
  have := congrArg Int32.toInt e
  rw [nI_toInt h] at this
  have e2 : (-1 : Int32).toInt = -1 := by decide
  omega
/-- how far two are one from the other -/
theorem dist_le {x y : Nat} (hx : x ≤ 30) (hy : y ≤ 30) : absI (nI x - nI y) ≤ 30 ∧ 0 ≤ absI (nI x - nI y) := by
  have key : ∀ a, a < 31 → ∀ b, b < 31 → absI (nI a - nI b) ≤ 30 ∧ 0 ≤ absI (nI a - nI b) := by decide +kernel
  exact key x (by omega) y (by omega)
theorem near_no {F : Fa} {s : Sc} {p : Nat} {t x : Int32} : ∀ n, (∀ q, q < n → sHu s q ≠ t) → nearS F s p t x n = x
  | 0, _ => rfl
  | n + 1, h => by
    simp only [nearS]
    rw [if_neg (by simp [h n (by omega)])]
    exact near_no n (fun q hq => h q (by omega))
theorem near_eq {F : Fa} {s : Sc} (hs : okS F s) {p : Nat} (hp : p < fN F) {t : Int32} : ∀ n, n ≤ fN F → (∃ q, q < n ∧ sHu s q = t) → nearS F s p t 1000 n = nearS F s p t 30 n
  | 0, _, h => by obtain ⟨q, hq, _⟩ := h; omega
  | n + 1, hn, h => by
    simp only [nearS]
    by_cases e : sHu s n = t
    · have ed : decide (sHu s n = t) = true := by simp [e]
      rw [if_pos ed, if_pos ed]
      by_cases h2 : ∃ q, q < n ∧ sHu s q = t
      · rw [near_eq hs hp n (by omega) h2]
      · have h3 : ∀ q, q < n → sHu s q ≠ t := fun q hq e2 => h2 ⟨q, hq, e2⟩
        rw [near_no n h3, near_no n h3]
        obtain ⟨x, hx, ex⟩ := hs.2.2 p hp
        obtain ⟨y, hy, ey⟩ := hs.2.2 n (by omega)
        rw [ex, ey]
        obtain ⟨d1, d2⟩ := dist_le hx hy
        generalize absI (nI x - nI y) = D at d1 d2
        have e1 : D < 1000 := Int32.lt_of_le_of_lt d1 (by decide)
        rw [if_pos e1]
        by_cases e4 : D < 30
        · rw [if_pos e4]
        · rw [if_neg e4]
          exact Int32.le_antisymm d1 (Int32.not_lt.mp e4)
    · have ed : ¬ decide (sHu s n = t) = true := by simp [e]
      rw [if_neg ed, if_neg ed]
      obtain ⟨q, hq, eq⟩ := h
      have : q ≠ n := fun w => e (by rw [← w]; exact eq)
      exact near_eq hs hp n (by omega) ⟨q, by omega, eq⟩
