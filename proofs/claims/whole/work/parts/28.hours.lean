/-! ===== the hills as such: people, tunes, hours ===== -/
abbrev Fn : Type := Nat → Int32
/-- what the text told: how many people, tunes, the earshot, rest, who whistles (1), air, the rule of stopping, of joining -/
abbrev Fa : Type := Nat × Nat × Int32 × Fn × Fn × Fn × List (Nat × Nat) × List (Nat × Nat)
abbrev fN (F : Fa) : Nat := F.1
abbrev fM (F : Fa) : Nat := F.2.1
abbrev fE (F : Fa) : Int32 := F.2.2.1
abbrev fRe (F : Fa) : Fn := F.2.2.2.1
abbrev fWh (F : Fa) : Fn := F.2.2.2.2.1
abbrev fAi (F : Fa) : Fn := F.2.2.2.2.2.1
abbrev fR0 (F : Fa) : List (Nat × Nat) := F.2.2.2.2.2.2.1
abbrev fR1 (F : Fa) : List (Nat × Nat) := F.2.2.2.2.2.2.2
/-- hour, breath, place, cows, what each hums, for how long, idle for how long, whose each tune is -/
abbrev Sc : Type := Int32 × Fn × Fn × Fn × Fn × Fn × Fn × Fn
abbrev sHr (s : Sc) : Int32 := s.1
abbrev sBr (s : Sc) : Fn := s.2.1
abbrev sPl (s : Sc) : Fn := s.2.2.1
abbrev sCo (s : Sc) : Fn := s.2.2.2.1
abbrev sHu (s : Sc) : Fn := s.2.2.2.2.1
abbrev sHd (s : Sc) : Fn := s.2.2.2.2.2.1
abbrev sId (s : Sc) : Fn := s.2.2.2.2.2.2.1
abbrev sOw (s : Sc) : Fn := s.2.2.2.2.2.2.2
abbrev absI (x : Int32) : Int32 := if 0 ≤ x then x else 0 - x
/-- whether one hears the other one -/
def heS (F : Fa) (pl : Fn) (p q : Nat) : Bool := decide (p ≠ q) && decide (absI (pl p - pl q) ≤ (if fWh F p = 1 then 2 * fE F else fE F))
def heardS (F : Fa) (pl : Fn) (p : Nat) : Int32 := msk (fun q => heS F pl p q) (fN F)
def humS (F : Fa) (hu : Fn) (t : Int32) : Int32 := msk (fun p => decide (hu p = t)) (fN F)
def ownS (F : Fa) (ow : Fn) (p : Int32) : Int32 := msk (fun t => decide (ow t = p)) (fM F)
def cnt (x : Int32) : Int32 := nI (pcN x.toNatClampNeg)
/-- a rule's tokens: (0, number), (1, which value), (2, which operation) -/
def doS (o : Nat) (a b : Int32) : Int32 := match o with
  | 0 => a + b
  | 1 => a - b
  | 2 => a * b
  | 3 => if b = 0 then 0 else a / b
  | 4 => if a < b then 1 else 0
  | 5 => if a = b then 1 else 0
  | 7 => if a ≠ 0 ∧ b ≠ 0 then 1 else 0
  | _ => if a ≠ 0 ∨ b ≠ 0 then 1 else 0
def stS (vs : Fn) (q : Nat × Nat) (x : Nat × Fn) : Nat × Fn := match q with
  | (0, k) => (x.1 + 1, upd x.2 x.1 (nI k))
  | (1, i) => (x.1 + 1, upd x.2 x.1 (vs i))
  | (_, o) => if o = 6 then (x.1, upd x.2 (x.1 - 1) (if x.2 (x.1 - 1) = 0 then 1 else 0)) else (x.1 - 1, upd x.2 (x.1 - 2) (doS o (x.2 (x.1 - 2)) (x.2 (x.1 - 1))))
def rnS (vs : Fn) : List (Nat × Nat) → Nat × Fn → Nat × Fn
  | [], x => x
  | q :: r, x => rnS vs r (stS vs q x)
/-- tokens that may stand where so many numbers wait -/
def wfS : List (Nat × Nat) → Nat → Prop
  | [], n => n = 1
  | (0, k) :: r, n => k < 10000 ∧ n < 32 ∧ wfS r (n + 1)
  | (1, i) :: r, n => i < 6 ∧ n < 32 ∧ wfS r (n + 1)
  | (2, o) :: r, n => o < 9 ∧ (if o = 6 then 1 ≤ n ∧ wfS r n else 2 ≤ n ∧ wfS r (n - 1))
  | _, _ => False
def reckS (vs : Fn) (r : List (Nat × Nat)) : Int32 := (rnS vs r (0, fun _ => 0)).2 0
def vsS (F : Fa) (s : Sc) (p t : Nat) (x : Int32) : Fn := fun i => match i with
  | 0 => sBr s p
  | 1 => fAi F t
  | 2 => cnt (humS F (sHu s) (nI t) &&& (bit1 (nI p) ^^^ (-1)))
  | 3 => cnt (ownS F (sOw s) (nI p))
  | 4 => sHr s
  | _ => x
def wantS (F : Fa) (s : Sc) (p : Nat) : Bool := decide (sBr s p ≤ sHd s p) || (decide (fR0 F ≠ []) && decide (0 < reckS (vsS F s p (sHu s p).toNatClampNeg (sHd s p)) (fR0 F)))
/-- who stops in this hour -/
def stopW (F : Fa) (s : Sc) (p : Nat) : Bool := decide (sHu s p ≠ -1) && wantS F s p
def silS (s : Sc) (p : Nat) : Sc := (sHr s, sBr s, sPl s, sCo s, upd (sHu s) p (-1), upd (sHd s) p 0, upd (sId s) p 0, sOw s)
def ownT (s : Sc) (t : Nat) (x : Int32) : Sc := (sHr s, sBr s, sPl s, sCo s, sHu s, sHd s, sId s, upd (sOw s) t x)
/-- of those below j who hum t, those stop whom W names -/
def stpS (W : Nat → Bool) (s : Sc) (t : Int32) : Nat → Sc
  | 0 => s
  | j + 1 => if decide (sHu s j = t) && W j then silS (stpS W s t j) j else stpS W s t j
def lstS (W : Nat → Bool) (s : Sc) (t : Int32) : Nat → Int32
  | 0 => -1
  | j + 1 => if decide (sHu s j = t) && W j then nI j else lstS W s t j
/-- whether t falls silent thereby -/
def fallS (F : Fa) (W : Nat → Bool) (s : Sc) (t : Int32) : Bool := decide (humS F (sHu s) t ≠ 0) && decide (humS F (sHu (stpS W s t (fN F))) t = 0)
def newS (F : Fa) (W : Nat → Bool) (s : Sc) (t : Int32) : Int32 := if cnt (humS F (sHu s) t) = 1 then lstS W s t (fN F) else -1
def tunS (F : Fa) (W : Nat → Bool) (s : Sc) (t : Nat) : Sc := if fallS F W s (nI t) then ownT (stpS W s (nI t) (fN F)) t (newS F W s (nI t)) else stpS W s (nI t) (fN F)
def tunD (F : Fa) (W : Nat → Bool) (s : Sc) (t : Nat) : Int32 := if fallS F W s (nI t) && decide (sOw s t ≠ newS F W s (nI t)) then 1 else 0
def allS (F : Fa) (W : Nat → Bool) (s : Sc) : Nat → Sc
  | 0 => s
  | t + 1 => tunS F W (allS F W s t) t
def allD (F : Fa) (W : Nat → Bool) (s : Sc) : Nat → Int32
  | 0 => 0
  | t + 1 => allD F W s t + tunD F W (allS F W s t) t
def hums (s : Sc) (p : Nat) (t : Int32) : Sc := (sHr s, sBr s, sPl s, sCo s, upd (sHu s) p t, sHd s, sId s, sOw s)
/-- how near the nearest one is who hums it -/
def nearS (F : Fa) (s : Sc) (p : Nat) (t : Int32) (x : Int32) : Nat → Int32
  | 0 => x
  | j + 1 => if decide (sHu s j = t) then (if absI (sPl s p - sPl s j) < nearS F s p t x j then absI (sPl s p - sPl s j) else nearS F s p t x j) else nearS F s p t x j
def joinS (F : Fa) (s : Sc) (p t : Nat) : Bool := decide (humS F (sHu s) (nI t) &&& heardS F (sPl s) p ≠ 0) && (decide (fR1 F ≠ []) && decide (0 < reckS (vsS F s p t (nearS F s p (nI t) 30 (fN F))) (fR1 F)))
def begS (F : Fa) (s : Sc) (p t : Nat) : Bool := decide (sOw s t = nI p) && decide (humS F (sHu s) (nI t) = 0)
/-- the first below n -/
def fstS (f : Nat → Bool) : Nat → Option Nat
  | 0 => none
  | n + 1 => match fstS f n with
    | some t => some t
    | none => if f n then some n else none
def bojS (F : Fa) (s : Sc) (p : Nat) : Sc := match fstS (begS F s p) (fM F) with
  | some t => hums s p (nI t)
  | none => match fstS (joinS F s p) (fM F) with
    | some t => hums s p (nI t)
    | none => s
def begA (F : Fa) (W lf : Nat → Bool) (s : Sc) : Nat → Sc
  | 0 => s
  | p + 1 => if decide (sHu (begA F W lf s p) p = -1) && !(W p) && !(lf p) && decide (fRe F p ≤ sId (begA F W lf s p) p) then bojS F (begA F W lf s p) p else begA F W lf s p
def tickP (s : Sc) (p : Nat) : Sc := if decide (sHu s p ≠ -1) then (sHr s, sBr s, sPl s, sCo s, sHu s, upd (sHd s) p (sHd s p + 1), sId s, sOw s) else (sHr s, sBr s, sPl s, sCo s, sHu s, sHd s, upd (sId s) p (if 99 < sId s p + 1 then 99 else sId s p + 1), sOw s)
def tickS (s : Sc) : Nat → Sc
  | 0 => s
  | p + 1 => tickP (tickS s p) p
def nxtH (s : Sc) : Sc := (sHr s + 1, s.2)
def hourS (F : Fa) (lf : Nat → Bool) (s : Sc) : Sc := nxtH (tickS (begA F (stopW F s) lf (allS F (stopW F s) s (fM F)) (fN F)) (fN F))
def hourD (F : Fa) (s : Sc) : Int32 := allD F (stopW F s) s (fM F)
def hrsS (F : Fa) (lf : Nat → Bool) (s : Sc) : Nat → Sc
  | 0 => s
  | k + 1 => hourS F lf (hrsS F lf s k)
def hrsD (F : Fa) (lf : Nat → Bool) (s : Sc) : Nat → Int32
  | 0 => 0
  | k + 1 => hrsD F lf s k + hourD F (hrsS F lf s k)
def okF (F : Fa) : Prop := fN F ≤ 8 ∧ fM F ≤ 6 ∧ (fR0 F = [] ∨ wfS (fR0 F) 0) ∧ (fR1 F = [] ∨ wfS (fR1 F) 0) ∧ (fR0 F).length ≤ 700 ∧ (fR1 F).length ≤ 700 ∧ 0 ≤ fE F ∧ fE F ≤ 30
def okS (F : Fa) (s : Sc) : Prop := (∀ p, p < fN F → sHu s p = -1 ∨ ∃ t, t < fM F ∧ sHu s p = nI t) ∧ (∀ t, t < fM F → sOw s t = -1 ∨ ∃ p, p < fN F ∧ sOw s t = nI p) ∧ (∀ p, p < fN F → ∃ x, x ≤ 30 ∧ sPl s p = nI x)
/-! how they stand in memory -/
def encC (q : Nat × Nat) : Int32 := match q with
  | (0, k) => nI k
  | (1, i) => nI (10000 + i)
  | (_, o) => -1 - nI o
def encM (q : Nat × Nat) : Int32 := match q with
  | (0, k) => nI k
  | (1, i) => -1 - nI i
  | (_, o) => if o < 6 then -20 - nI o else if o = 6 then -28 else if o = 7 then -26 else -27
def KM (M : Nat → Fn) (F : Fa) : Prop := M 68 0 = nI (fN F) ∧ M 68 1 = nI (fM F) ∧ M 68 2 = fE F ∧ M 68 3 = nI (fR0 F).length ∧ M 68 4 = nI (fR1 F).length ∧ Ag (fN F) (M 71) (fRe F) ∧ Ag (fN F) (M 69) (fWh F) ∧ Ag (fM F) (M 74) (fAi F) ∧ Ag (fR0 F).length (M 76) (fun k => encM ((fR0 F).getD k (0, 0))) ∧ Ag (fR1 F).length (M 77) (fun k => encM ((fR1 F).getD k (0, 0)))
def RM (M : Nat → Fn) (F : Fa) (s : Sc) : Prop := KM M F ∧ M 64 36 = sHr s ∧ Ag (fN F) (M 79) (sBr s) ∧ Ag (fN F) (M 85) (sPl s) ∧ Ag (fN F) (M 86) (sCo s) ∧ Ag (fN F) (M 82) (sHu s) ∧ Ag (fN F) (M 83) (sHd s) ∧ Ag (fN F) (M 84) (sId s) ∧ Ag (fM F) (M 81) (sOw s)
def KC (M : Nat → Fn) (F : Fa) : Prop := M 14 0 = nI (fN F) ∧ M 14 6 = nI (fM F) ∧ M 14 9 = fE F ∧ Ag (fN F) (M 16) (fRe F) ∧ Ag (fN F) (M 19) (fWh F) ∧ Ag (fM F) (M 20) (fAi F) ∧ (∀ p, p < fN F → fWh F p = 0 ∨ fWh F p = 1) ∧ (∃ a, a + (fR0 F).length ≤ 700 ∧ M 23 0 = nI a ∧ M 24 0 = nI (a + (fR0 F).length) ∧ ∀ k, k < (fR0 F).length → M 22 (a + k) = encC ((fR0 F).getD k (0, 0))) ∧ (∃ a, a + (fR1 F).length ≤ 700 ∧ M 23 1 = nI a ∧ M 24 1 = nI (a + (fR1 F).length) ∧ ∀ k, k < (fR1 F).length → M 22 (a + k) = encC ((fR1 F).getD k (0, 0)))
def RC (b : Nat) (M : Nat → Fn) (F : Fa) (s : Sc) : Prop := KC M F ∧ M b 2 = sHr s ∧ Ag (fN F) (M (b + 1)) (sBr s) ∧ Ag (fN F) (M (b + 2)) (sPl s) ∧ Ag (fN F) (M (b + 3)) (sCo s) ∧ Ag (fN F) (M (b + 4)) (sHu s) ∧ Ag (fN F) (M (b + 5)) (sHd s) ∧ Ag (fN F) (M (b + 6)) (sId s) ∧ Ag (fM F) (M (b + 7)) (sOw s) ∧ Ag (fM F) (M (b + 8)) (fun t => humS F (sHu s) (nI t)) ∧ Ag (fN F) (M (b + 9)) (heardS F (sPl s))
theorem KM_of {M M' : Nat → Fn} {F : Fa} (h : KM M F) (e0 : M' 68 = M 68) (e1 : M' 71 = M 71) (e2 : M' 69 = M 69) (e3 : M' 74 = M 74) (e4 : M' 76 = M 76) (e5 : M' 77 = M 77) : KM M' F := by
  unfold KM at h ⊢
  rw [e0, e1, e2, e3, e4, e5]
  exact h
theorem KC_of {M M' : Nat → Fn} {F : Fa} (h : KC M F) (e0 : M' 14 = M 14) (e1 : M' 16 = M 16) (e2 : M' 19 = M 19) (e3 : M' 20 = M 20) (e4 : M' 22 = M 22) (e5 : M' 23 = M 23) (e6 : M' 24 = M 24) : KC M' F := by
  unfold KC at h ⊢
  rw [e0, e1, e2, e3, e4, e5, e6]
  exact h
section
variable {M : Nat → Fn} {F : Fa} {s : Sc}
theorem RM.n (h : RM M F s) : M 68 0 = nI (fN F) := h.1.1
theorem RM.m (h : RM M F s) : M 68 1 = nI (fM F) := h.1.2.1
theorem RM.e (h : RM M F s) : M 68 2 = fE F := h.1.2.2.1
theorem RM.l0 (h : RM M F s) : M 68 3 = nI (fR0 F).length := h.1.2.2.2.1
theorem RM.l1 (h : RM M F s) : M 68 4 = nI (fR1 F).length := h.1.2.2.2.2.1
theorem RM.re (h : RM M F s) : Ag (fN F) (M 71) (fRe F) := h.1.2.2.2.2.2.1
theorem RM.wh (h : RM M F s) : Ag (fN F) (M 69) (fWh F) := h.1.2.2.2.2.2.2.1
theorem RM.ai (h : RM M F s) : Ag (fM F) (M 74) (fAi F) := h.1.2.2.2.2.2.2.2.1
theorem RM.r0 (h : RM M F s) : Ag (fR0 F).length (M 76) (fun k => encM ((fR0 F).getD k (0, 0))) := h.1.2.2.2.2.2.2.2.2.1
theorem RM.r1 (h : RM M F s) : Ag (fR1 F).length (M 77) (fun k => encM ((fR1 F).getD k (0, 0))) := h.1.2.2.2.2.2.2.2.2.2
theorem RM.hr (h : RM M F s) : M 64 36 = sHr s := h.2.1
theorem RM.br (h : RM M F s) : Ag (fN F) (M 79) (sBr s) := h.2.2.1
theorem RM.pl (h : RM M F s) : Ag (fN F) (M 85) (sPl s) := h.2.2.2.1
theorem RM.co (h : RM M F s) : Ag (fN F) (M 86) (sCo s) := h.2.2.2.2.1
theorem RM.hu (h : RM M F s) : Ag (fN F) (M 82) (sHu s) := h.2.2.2.2.2.1
theorem RM.hd (h : RM M F s) : Ag (fN F) (M 83) (sHd s) := h.2.2.2.2.2.2.1
theorem RM.id (h : RM M F s) : Ag (fN F) (M 84) (sId s) := h.2.2.2.2.2.2.2.1
theorem RM.ow (h : RM M F s) : Ag (fM F) (M 81) (sOw s) := h.2.2.2.2.2.2.2.2
variable {b : Nat}
theorem RC.n (h : RC b M F s) : M 14 0 = nI (fN F) := h.1.1
theorem RC.m (h : RC b M F s) : M 14 6 = nI (fM F) := h.1.2.1
theorem RC.e (h : RC b M F s) : M 14 9 = fE F := h.1.2.2.1
theorem RC.re (h : RC b M F s) : Ag (fN F) (M 16) (fRe F) := h.1.2.2.2.1
theorem RC.wh (h : RC b M F s) : Ag (fN F) (M 19) (fWh F) := h.1.2.2.2.2.1
theorem RC.ai (h : RC b M F s) : Ag (fM F) (M 20) (fAi F) := h.1.2.2.2.2.2.1
theorem RC.w01 (h : RC b M F s) : ∀ p, p < fN F → fWh F p = 0 ∨ fWh F p = 1 := h.1.2.2.2.2.2.2.1
theorem RC.r0 (h : RC b M F s) : ∃ a, a + (fR0 F).length ≤ 700 ∧ M 23 0 = nI a ∧ M 24 0 = nI (a + (fR0 F).length) ∧ ∀ k, k < (fR0 F).length → M 22 (a + k) = encC ((fR0 F).getD k (0, 0)) := h.1.2.2.2.2.2.2.2.1
theorem RC.r1 (h : RC b M F s) : ∃ a, a + (fR1 F).length ≤ 700 ∧ M 23 1 = nI a ∧ M 24 1 = nI (a + (fR1 F).length) ∧ ∀ k, k < (fR1 F).length → M 22 (a + k) = encC ((fR1 F).getD k (0, 0)) := h.1.2.2.2.2.2.2.2.2
theorem RC.hr (h : RC b M F s) : M b 2 = sHr s := h.2.1
theorem RC.br (h : RC b M F s) : Ag (fN F) (M (b + 1)) (sBr s) := h.2.2.1
theorem RC.pl (h : RC b M F s) : Ag (fN F) (M (b + 2)) (sPl s) := h.2.2.2.1
theorem RC.co (h : RC b M F s) : Ag (fN F) (M (b + 3)) (sCo s) := h.2.2.2.2.1
theorem RC.hu (h : RC b M F s) : Ag (fN F) (M (b + 4)) (sHu s) := h.2.2.2.2.2.1
theorem RC.hd (h : RC b M F s) : Ag (fN F) (M (b + 5)) (sHd s) := h.2.2.2.2.2.2.1
theorem RC.id (h : RC b M F s) : Ag (fN F) (M (b + 6)) (sId s) := h.2.2.2.2.2.2.2.1
theorem RC.ow (h : RC b M F s) : Ag (fM F) (M (b + 7)) (sOw s) := h.2.2.2.2.2.2.2.2.1
theorem RC.hs (h : RC b M F s) : Ag (fM F) (M (b + 8)) (fun t => humS F (sHu s) (nI t)) := h.2.2.2.2.2.2.2.2.2.1
theorem RC.he (h : RC b M F s) : Ag (fN F) (M (b + 9)) (heardS F (sPl s)) := h.2.2.2.2.2.2.2.2.2.2
end
theorem okF.n {F : Fa} (h : okF F) : fN F ≤ 8 := h.1
theorem okF.m {F : Fa} (h : okF F) : fM F ≤ 6 := h.2.1
/-! counts of small sets -/
theorem msk_lt (f : Nat → Bool) (n : Nat) (hn : n ≤ 8) : ∃ k, k < 256 ∧ msk f n = nI k := by
  refine ⟨mskN f n, ?_, msk_N f n (by omega)⟩
  exact Nat.lt_of_lt_of_le (mskN_lt f n) (by exact Nat.pow_le_pow_right (by omega) hn)
theorem and_lt {m : Nat} (hm : m < 256) (y : Int32) : ∃ k, k < 256 ∧ nI m &&& y = nI k := by
  refine ⟨m &&& y.toBitVec.toNat, Nat.lt_of_le_of_lt Nat.and_le_left hm, ?_⟩
  apply Int32.toBitVec_inj.mp
  rw [Int32.toBitVec_and]
  apply BitVec.eq_of_toNat_eq
  rw [BitVec.toNat_and]
  show (BitVec.ofNat 32 m).toNat &&& _ = (BitVec.ofNat 32 _).toNat
  rw [BitVec.toNat_ofNat, BitVec.toNat_ofNat, Nat.mod_eq_of_lt (by omega : m < 2 ^ 32), Nat.mod_eq_of_lt]
  have : m &&& y.toBitVec.toNat ≤ m := Nat.and_le_left
  omega
theorem cnt_nI {k : Nat} (hk : k < 256) : cnt (nI k) = nI (pcN k) := by
  unfold cnt
  rw [nI_clamp (by omega)]
