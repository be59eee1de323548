/-! THE CLAIM OUT OF ONE WALK OF THE LAW'S BODY. Your part is whole_start (and what it stands on); all else here is the same for every law, but numbers. -/
def R_law : String := "HummedTunesLaw"
def lw_P (b : Addr) (xs : List Int32) (args : Array Value) (s : State) : Prop := args = #[.ref b] ∧ s.IntsAt b xs ∧ xs.length ≤ 3072 ∧ (Jvm.Cond.and given_1 narrow_1).before args s = true
def lw_Q (_ : Array Value) (s : State) (o : Outcome) (t : State) : Prop := o = .returned (some (.int 1)) ∧ Framed s o t [] 601024 7293034
def lw_Z (below : List Frame) (a : Array Value) (s : State) : State → Prop := fun t => ∃ o, t.status = .running ∧ Ended t below o ∧ lw_Q a s o t
/-- the law's own end, with 1 on the stack, nothing written that was there before, its room as the claim has it -/
theorem lw_ret {p : Program} {l : Launch} {e : Env} {s : State} {m : MethodId} {below : List Frame} {meth : Method} {c : Code} {b : Nat} (hx : p.tables.exec = Jvm.exec) (hb : c.code = code) (hr : meth.sig.returnType = ret) (hlocks : meth.locks = false) {pc : Nat} {H : Heap} {ls : Array Slot} (hdg : decode code pc = .ok (.ireturn, 1)) : W p l e room_1 s m #[Value.ref b] below meth c H [] 601024 7293034 (lw_Z below #[Value.ref b] s) (F0 m pc ls [.int 1]) := by
  intro T hT X
  obtain ⟨fs, hret, hrun, hended, hW, hframe⟩ := X.leave (v := some (.int 1)) (hlocks := hlocks) (fun h => by rw [hr] at h; cases h)
  have hmeth' : T.vm.method? m = some meth := X.method'
  refine ⟨T.setFrames fs, ?_, .returned (some (.int 1)), hrun, hended, rfl, ⟨_, rfl⟩, hW, hframe⟩
  jvm_step X.here [X.here.top, hx, hb, hdg, hmeth', hr, ret, narrow_b1]
  (try refine ⟨rfl, ?_⟩); (try refine ⟨rfl, ?_⟩)
  first | (intro acts; rw [hret _ acts rfl rfl rfl]) | rw [hret _ _ rfl rfl rfl]
  exact Steps.refl _
/-- what holds at the law's entry: the machine, the code, the tables' words (any of lw_tbl by 'hts w (by decide +kernel)'), the script of L ints xs at the cell b, what the Statement gives of the start (any of its parts by flat_of_before) -/
def lw_At (p : Program) (s : State) (m : MethodId) (meth : Method) (c : Code) (b L : Nat) (xs : Nat → Int32) : Prop :=
  p.tables.exec = Jvm.exec ∧ c.code = code ∧ meth.sig.returnType = ret ∧ c.maxLocals = 7 ∧ s.vm.findClass R_law = some m.cls ∧ (∀ w ∈ lw_tbl, w.before #[Value.ref b] s = true) ∧ va_X b L xs s s.heap ∧ b < s.heap.size ∧ meth.locks = false ∧ (Jvm.Cond.and given_1 narrow_1).before #[Value.ref b] s = true
/-! ===== the law's start ===== -/
def lm_rx : List Nat := [86, 96, 98, 161, 103, 108, 213, 214, 215, 217, 218, 220, 222, 201, 203, 205, 114]
def lm_mx : List Nat := [11, 13, 292, 279, 281, 283, 19, 21, 23, 25, 27, 29, 34, 260, 273, 268, 284]
abbrev lm_rt9 (j : Nat) : Term := .string "HummedTunes$Reader" (lm_rx.getD j 0)
def lm_F : List Cond := flatC (Jvm.Cond.and given_1 narrow_1)
theorem lm_str17 : lm_str.length = 17 := rfl
theorem lm_pj : ∀ j, j < 17 → Cond.exactly (lm_rt9 j) "java/lang/String" ∈ lm_F ∧ Cond.eq (.field (lm_rt9 j) "java/lang/String" "coder" "B") (.int 0) ∈ lm_F ∧ Cond.arrayOf (.field (lm_rt9 j) "java/lang/String" "value" "[B") .byte ∈ lm_F ∧ Cond.eq (.length (.field (lm_rt9 j) "java/lang/String" "value" "[B")) (.int (Int32.ofNat (lm_str.getD j []).length)) ∈ lm_F ∧ Cond.eq (lm_rt9 j) (.string "HummedTunesModel" (lm_mx.getD j 0)) ∈ lm_F := by decide +kernel
theorem lm_pe : ∀ j, j < 17 → ∀ k, k < (lm_str.getD j []).length → Cond.eq (.elem (.field (lm_rt9 j) "java/lang/String" "value" "[B") (.int (Int32.ofNat k))) (.int ((lm_str.getD j []).getD k 0)) ∈ lm_F := by decide +kernel
theorem lm_pz : Cond.isRef (.static Bundle.tN "UNASSIGNED_STACK" Bundle.steD) ∈ lm_F ∧ Cond.isRef (.static Bundle.tN "SUPPRESSED_SENTINEL" Bundle.listD) ∈ lm_F ∧ Cond.eq (.static "java/lang/String" "COMPACT_STRINGS" "Z") (.int 1) ∈ lm_F ∧ Cond.isRef (.static "jdk/internal/util/Preconditions" "SIOOBE_FORMATTER" "Ljava/util/function/BiFunction;") ∈ lm_F ∧ Cond.not (.castable "java/lang/IllegalArgumentException" "java/util/NoSuchElementException") ∈ lm_F := by decide +kernel
theorem lm_pt : Cond.laysStatic Bundle.tN "UNASSIGNED_STACK" Bundle.steD ∈ lw_tbl ∧ Cond.laysStatic Bundle.tN "SUPPRESSED_SENTINEL" Bundle.listD ∈ lw_tbl ∧ Cond.initialized Bundle.tN ∈ lw_tbl ∧ Cond.laysStatic "java/lang/String" "COMPACT_STRINGS" "Z" ∈ lw_tbl ∧ Cond.initialized "java/lang/String" ∈ lw_tbl ∧ Cond.laysStatic "jdk/internal/util/Preconditions" "SIOOBE_FORMATTER" "Ljava/util/function/BiFunction;" ∈ lw_tbl ∧ Cond.initialized "jdk/internal/util/Preconditions" ∈ lw_tbl ∧ Cond.arrayOver (.object "java/lang/String") ∈ lw_tbl := by decide +kernel
def lm_sok (w : Cond) : Bool := match w with
  | .stringRef own idx tx => (List.range 17).any (fun j => decide (tx = lm_txt.getD j "") && ((decide (own = "HummedTunes$Reader") && decide (idx = lm_rx.getD j 0)) || (decide (own = "HummedTunesModel") && decide (idx = lm_mx.getD j 0))))
  | _ => true
theorem lm_soks : ∀ w ∈ lw_tbl, lm_sok w = true := by decide +kernel
theorem lm_txt_inj : ∀ i, i < 17 → ∀ j, j < 17 → lm_txt.getD i "" = lm_txt.getD j "" → i = j := by decide +kernel
set_option maxHeartbeats 4000000 in
theorem lm_start {p : Program} {s : State} {m : MethodId} {meth : Method} {c : Code} (l : Launch) (hflags : l.flags = flags0) {b L : Nat} {xs : Nat → Int32} (C0 : lw_At p s m meth c b L xs) : ∃ (ad adV : Nat → Nat) (D : va_G) (tc : Nat → ClassId), lm_V l s #[Value.ref b] ad adV D tc (L, xs) ∧ ad lm_scr = b := by
  obtain ⟨hx, hb, hr, hml, hown, hts, hX, hbl, hlocks, hgv⟩ := C0
  have hs : ∀ w ∈ lm_F, w.before #[Value.ref b] s = true := flat_of_before _ hgv
  have hA : ∀ a : Nat, a < s.heap.size → ¬ (fun q => s.heap.size ≤ q) a := fun a h => Nat.not_le.mpr h
  -- the classes
  have hcls : ∀ k : Nat, ∃ q : ClassId × (Nat → Nat), ∀ r, vwCl[k]? = some r → u_Kn s r.1 r.2.1 r.2.2 q.1 q.2 := by
    intro k
    cases hk : vwCl[k]? with
    | none => exact ⟨(0, fun _ => 0), fun r h => by cases h⟩
    | some r =>
      have hm := List.mem_of_getElem? hk
      obtain ⟨cC, iS, h⟩ := u_known (C := r.1) (T := r.2.1) (N := r.2.2) (n := r.2.2) hts (fun w hw => (lm_lays r hm w hw).1) (hts _ (lm_inst r hm).1)
      exact ⟨(cC, iS), fun r' h' => by cases h'; exact h⟩
  obtain ⟨D0, hD0⟩ := Classical.axiomOfChoice hcls
  -- the array classes
  obtain ⟨c0, k0, m0, e0, f0, g0⟩ := Cond.arrayClass_spec (hts _ lm_words2.1)
  obtain ⟨c1, k1, m1, e1, f1, g1⟩ := Cond.arrayClass_spec (hts _ lm_words2.2.1)
  obtain ⟨c2, k2, m2, e2, f2, g2⟩ := Cond.arrayClass_spec (hts _ lm_words2.2.2.1)
  obtain ⟨c3, k3, m3, e3, f3, g3⟩ := Cond.arrayClass_spec (hts _ lm_words2.2.2.2)
  obtain ⟨m4, c4, k4, e4, -, f4, g4, h4⟩ := Cond.arrayOver_spec (hts _ lm_pt.2.2.2.2.2.2.2)
  -- the texts
  have htx : ∀ j : Nat, ∃ q : Nat × Nat, j < 17 → (lm_rt9 j).eval #[Value.ref b] s none [] s = some (.ref q.1) ∧ va_O "java/lang/String" q.1 (fun q => s.heap.size ≤ q) s s.heap ∧ va_OF "java/lang/String" "coder" "B" (.int 0) q.1 (fun q => s.heap.size ≤ q) s s.heap ∧ va_OF "java/lang/String" "value" "[B" (.ref q.2) q.1 (fun q => s.heap.size ≤ q) s s.heap ∧ va_T .byte q.2 (lm_str.getD j []).length (fun k => .int ((lm_str.getD j []).getD k 0)) (fun q => s.heap.size ≤ q) s s.heap := by
    intro j
    by_cases hj : j < 17
    · obtain ⟨w1, w2, w3, w4, w5⟩ := lm_pj j hj
      have hj9 : j < lm_str.length := by rw [lm_str17]; exact hj
      have hlen := lm_lens _ (show lm_str.getD j [] ∈ lm_str by simp [List.getD, hj9])
      obtain ⟨adK, adV, h1, h2⟩ := vk_Sof (N := 1) (tm := fun _ => lm_rt9 j) (len := [(lm_str.getD j []).length]) (byt := [lm_str.getD j []]) (A := fun q => s.heap.size ≤ q) (args := #[Value.ref b]) (s := s)
        (fun i hi => by rw [show i = 0 by omega]; show (lm_str.getD j []).length < 2 ^ 31; omega) (fun _ _ => hs _ w1) (fun _ _ => hs _ w2) (fun _ _ => hs _ w3) (fun i hi => by rw [show i = 0 by omega]; exact hs _ w4) (fun i hi k hk => by
          have hi0 : i = 0 := by omega
          subst hi0
          exact hs _ (lm_pe j hj k hk)) (fun i k hi hk hne => absurd (by omega) hne) hA
      obtain ⟨q1, q2, q3, q4⟩ := h1.1 0 (by decide)
      exact ⟨(adK 0, adV 0), fun _ => ⟨h2 0 (by decide), q1, q2, q3, q4⟩⟩
    · exact ⟨(0, 0), fun h => absurd h hj⟩
  obtain ⟨T0, hT0⟩ := Classical.axiomOfChoice htx
  refine ⟨fun k => if k ≤ lm_N0 then s.heap.size + k else if k = lm_scr then b else (T0 (k - lm_sp)).1, fun j => (T0 j).2, (fun k => (D0 k).1, fun k => (D0 k).2), fun t => if t = 0 then c0 else if t = 1 then c1 else if t = 2 then c2 else if t = 3 then c3 else c4, ?_, rfl⟩
  have had : ∀ j, (fun k => if k ≤ lm_N0 then s.heap.size + k else if k = lm_scr then b else (T0 (k - lm_sp)).1) (lm_sp + j) = (T0 j).1 := by
    intro j
    simp only
    rw [if_neg (by show ¬ (1000 + j ≤ 106); omega), if_neg (by show ¬ (1000 + j = 999); omega), Nat.add_sub_cancel_left]
  refine ⟨hts, fun k hk => if_pos hk, ⟨fun k q hq => hD0 k q hq, ?_⟩, ⟨?_, ?_, ?_⟩, ?_, hX, hbl, ?_, ?_, ?_, hts _ lm_pt.2.2.2.2.2.2.2, ?_⟩
  · intro k q hq
    match k, hq with
    | 0, hq => cases hq; exact ⟨fun N z => ⟨(fun k h => by cases h), k0, f0, m0, g0⟩, e0⟩
    | 1, hq => cases hq; exact ⟨fun N z => ⟨(fun k h => by cases h), k1, f1, m1, g1⟩, e1⟩
    | 2, hq => cases hq; exact ⟨fun N z => ⟨(fun k h => by cases h), k2, f2, m2, g2⟩, e2⟩
    | 3, hq => cases hq; exact ⟨fun N z => ⟨(fun k h => by cases h), k3, f3, m3, g3⟩, e3⟩
    | 4, hq => cases hq; exact ⟨fun N z => ⟨(fun k h => by cases h), k4, f4, m4, g4⟩, k4, m4, f4, g4, e4, h4⟩
    | k + 5, hq => cases hq
  · intro j hj
    rw [lm_str17] at hj
    obtain ⟨q0, q1, q2, q3, q4⟩ := hT0 j hj
    rw [had j]
    exact ⟨q1, q2, q3, q4⟩
  · exact va_Zof (hts _ lm_pt.2.2.2.1) (hts _ lm_pt.2.2.2.2.1) (va_eqi (hs _ lm_pz.2.2.1)) hA
  · exact va_Zqof (hts _ lm_pt.2.2.2.2.2.1) (hts _ lm_pt.2.2.2.2.2.2.1) (hs _ lm_pz.2.2.2.1) hA
  · intro own idx j hj hw
    rw [lm_str17] at hj
    have h1 := lm_soks _ hw
    simp only [lm_sok, List.any_eq_true, List.mem_range, Bool.and_eq_true, Bool.or_eq_true, decide_eq_true_eq] at h1
    obtain ⟨j', hj', ht, h1⟩ := h1
    have hjj := lm_txt_inj j hj j' hj' ht
    subst hjj
    have q0 := (hT0 j hj).1
    rw [had j]
    rcases h1 with ⟨rfl, rfl⟩ | ⟨rfl, rfl⟩
    · exact vk_R.of (hts _ hw) q0
    · exact vk_R.of (hts _ hw) (va_eqR (hs _ (lm_pj j hj).2.2.2.2) q0)
  · show (!l.flags.contains noTraceFlag) = false
    rw [hflags]
    decide +kernel
  · exact vx_Zqof (hts _ lm_pt.1) (hts _ lm_pt.2.2.1) (hs _ lm_pz.1) hA
  · exact vx_Zqof (hts _ lm_pt.2.1) (hts _ lm_pt.2.2.1) (hs _ lm_pz.2.1) hA
  · exact va_Nc.of (hs _ lm_pz.2.2.2.2)
def lm_s0 : lm_S := (fun _ _ => 0, fun _ _ => none, fun _ _ => 0, 0)
/-- THE CLAIM IN THE LIGHT MACHINE'S WORDS -/
def lm_claim : Prop := ∀ X : lm_X, X.1 ≤ 3072 → ∃ f, lm_ev X f 100 272 0 0 0 0 (lm_en 272 [.ref lm_scr]) [] lm_s0 (fun o _ => o = .inl (some (.int 1)))
set_option maxHeartbeats 4000000 in
theorem whole_of_light (hlaw : lm_claim) {p : Program} {e : Env} {s : State} {m : MethodId} {below : List Frame} {meth : Method} {c : Code} (l : Launch) (hflags : l.flags = flags0) {b L : Nat} {xs : Nat → Int32} (hL : L ≤ 3072) (C0 : lw_At p s m meth c b L xs) : W p l e room_1 s m #[Value.ref b] below meth c s.heap [] 0 0 (lw_Z below #[Value.ref b] s) (entryFrame m ([Value.ref b] : List Value).toArray 7) := by
  obtain ⟨ad, adV, D, tc, hV, had⟩ := lm_start l hflags C0
  obtain ⟨hx, hb, hr, hml, hown, hts, hX, hbl, hlocks, hgv⟩ := C0
  obtain ⟨f, hev⟩ := hlaw (L, xs) hL
  have hC : lm_C l s #[Value.ref b] ad adV D tc (L, xs) 272 100 0 p room_1 s m meth c := ⟨hV, by decide, hx, hb, hr, hml, hown, fun h => absurd h (by decide +kernel), hlocks, State.WarmedH.refl s, Nat.le_refl _, fun _ _ => rfl, fun _ => by rw [hV.2.1 0 (Nat.zero_le _)]; rfl, fun h => absurd h (by decide +kernel), fun h => absurd rfl h, by decide, by decide, rfl, rfl⟩
  rw [lg_entry_eq]
  have hLS := lm_LS_entry (ad := ad) (as := [.ref lm_scr]) (j := 272) (by decide +kernel)
  have has : ([.ref lm_scr] : List Value).map (lm_v ad) = [.ref b] := by simp [lm_v, had]
  rw [has] at hLS
  refine lm_main f hev hC ?_ (fun ex σ' H' locs' pc' ls' rest' q ce hq => by cases hq) (fun ex σ' H' locs' pc' L' ls' idx w c' k' _ hq => by cases hq) (fun k q hq => by cases hq) (Nat.zero_le _) va_S.rf hLS (Nat.zero_le _) (Nat.zero_le _)
  intro v σ' H' locs' pc' ls' hq hP hn hS hv
  cases hq
  rcases hv with ⟨-, h, -⟩ | ⟨x, h, -, hd⟩
  · cases h
  · cases h
    refine va_forget (fun q hq => hS.2.2 q hq) ?_
    exact lw_ret hx hb hr hlocks hd
