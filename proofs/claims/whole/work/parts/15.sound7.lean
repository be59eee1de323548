/-! ===== throws, entries, returns ===== -/
def lm_xd : List Cond := [.declares ⟨"java/lang/RuntimeException", "<init>", "()V"⟩, .declares ⟨"java/lang/Exception", "<init>", "()V"⟩, .declares ⟨"java/lang/Throwable", "<init>", "()V"⟩]
theorem lm_xd_in : ∀ w ∈ lm_xd, w ∈ lw_tbl := by decide +kernel
theorem lm_xw0 : ∀ w ∈ vx_at0 "HummedTunes" 346 "java/util/NoSuchElementException" ["java/lang/RuntimeException", "java/lang/Exception"], (w ∈ lw_tbl ∧ goodWord w = true) ∨ w = .castable "java/util/NoSuchElementException" "java/util/NoSuchElementException" ∨ w ∈ lm_xd := by decide +kernel
theorem lm_xw1 : ∀ w ∈ vx_at0 "HummedTunes" 349 "java/lang/IllegalArgumentException" ["java/lang/RuntimeException", "java/lang/Exception"], (w ∈ lw_tbl ∧ goodWord w = true) ∨ w = .castable "java/lang/IllegalArgumentException" "java/lang/IllegalArgumentException" ∨ w ∈ lm_xd := by decide +kernel
theorem lm_xg0 : ∀ w ∈ vx_at0 "HummedTunes" 346 "java/util/NoSuchElementException" ["java/lang/RuntimeException", "java/lang/Exception"], vx_ot w = true := by decide +kernel
theorem lm_xg1 : ∀ w ∈ vx_at0 "HummedTunes" 349 "java/lang/IllegalArgumentException" ["java/lang/RuntimeException", "java/lang/Exception"], vx_ot w = true := by decide +kernel
theorem lm_xc : Cond.castable "java/util/NoSuchElementException" "java/util/NoSuchElementException" ∈ lw_tbl ∧ Cond.castable "java/lang/IllegalArgumentException" "java/lang/IllegalArgumentException" ∈ lw_tbl ∧ (Cond.initialized "java/util/NoSuchElementException" ∈ lw_tbl ∧ goodWord (Cond.initialized "java/util/NoSuchElementException") = true) ∧ (Cond.initialized "java/lang/IllegalArgumentException" ∈ lw_tbl ∧ goodWord (Cond.initialized "java/lang/IllegalArgumentException") = true) := by decide +kernel
section LMR
variable {l : Launch} {s0 : State} {args0 : Array Value} {ad adV : Nat → Nat} {D : va_G} {tc : Nat → ClassId} {X : lm_X} {i d z : Nat} {p : Program} {e : Env} {R : Room} {s : State} {m : MethodId} {args : Array Value} {below : List Frame} {meth : Method} {cd : Code} {H : Heap} {locs : List Loc} {c k pc : Nat} {Z : State → Prop} {L : lm_L} {S : List Value} {σ : lm_S} {ls : Array Slot}
theorem lm_xhat (hV : lm_V l s0 args0 ad adV D tc X) (hW : s0.WarmedH s.vm) {ws : List Cond} {N : String} (h : ∀ w ∈ ws, (w ∈ lw_tbl ∧ goodWord w = true) ∨ w = .castable N N ∨ w ∈ lm_xd) (hN : Cond.castable N N ∈ lw_tbl) : ∀ w ∈ ws, w.before args s = true := by
  intro w hw
  rcases h w hw with h1 | h1 | h1
  · exact lm_wmem hV hW h1 args
  · subst h1
    exact va_Nw.use rfl (va_Nw.warmC hW (va_Nw.of rfl (hV.1 _ hN)))
  · have h2 := hV.1 w (lm_xd_in w h1)
    unfold lm_xd at h1
    simp only [List.mem_cons, List.not_mem_nil, or_false] at h1
    rcases h1 with rfl | rfl | rfl
    · exact va_Nw.use rfl (va_Nw.warmD hW (va_Nw.of rfl h2))
    · exact va_Nw.use rfl (va_Nw.warmD hW (va_Nw.of rfl h2))
    · exact va_Nw.use rfl (va_Nw.warmD hW (va_Nw.of rfl h2))
/-- the locals at the entry -/
theorem lm_args_in : ∀ (as : List Value) (n j : Nat) (v : Value), (lm_ls as)[j]? = some (some v) → (n + j, lm_v ad v) ∈ lv_args n (as.map (lm_v ad))
  | [], n, j, v, h => by simp [lm_ls] at h
  | a :: as, n, j, v, h => by
    simp only [lm_ls] at h
    simp only [List.map_cons, lv_args, lm_v_cat]
    by_cases hc : a.category = 2
    · rw [if_pos hc] at h
      rw [if_pos hc]
      match j, h with
      | 0, h => cases h; exact List.mem_cons_self
      | 1, h => cases h
      | j + 2, h =>
        have := lm_args_in as (n + 2) j v h
        rw [show n + (j + 2) = n + 2 + j by omega]
        exact List.mem_cons_of_mem _ this
    · rw [if_neg hc] at h
      rw [if_neg hc]
      match j, h with
      | 0, h => cases h; exact List.mem_cons_self
      | j + 1, h =>
        have := lm_args_in as (n + 1) j v h
        rw [show n + (j + 1) = n + 1 + j by omega]
        exact List.mem_cons_of_mem _ this
theorem lm_ls_len : ∀ (as : List Value), (lg_sl (as.map (lm_v ad))).length = (lm_ls as).length
  | [] => rfl
  | a :: as => by
    have ih := lm_ls_len as
    simp only [List.map_cons, lm_ls]
    unfold lg_sl at ih ⊢
    rw [List.flatMap_cons, List.length_append, ih, lm_v_cat]
    split
    · simp; omega
    · simp; omega
theorem lm_LS_entry {as : List Value} {j : Nat} (h : (lm_ls as).length ≤ lm_ml j) : lm_LS ad (lm_en j as) ((lg_sl (as.map (lm_v ad)) ++ List.replicate (lm_ml j - (lg_sl (as.map (lm_v ad))).length) Slot.unset).toArray) (lm_ml j) := by
  have hh := lv_entry (as.map (lm_v ad)) (n := lm_ml j) (by rw [lm_ls_len]; exact h)
  refine ⟨?_, hh.1, hh.2.1, fun q v hq => ?_⟩
  · simp [lm_en]; omega
  · have h1 : (lm_ls as)[q]? = some (some v) := by
      unfold lm_en at hq
      by_cases hlt : q < (lm_ls as).length
      · rw [List.getElem?_append_left hlt] at hq; exact hq
      · rw [List.getElem?_append_right (Nat.not_lt.mp hlt), List.getElem?_replicate] at hq
        split at hq
        · cases hq
        · cases hq
    have h2 := lm_args_in (ad := ad) as 0 q v h1
    rw [Nat.zero_add] at h2
    exact hh.2.2 _ h2
/-- what a method's end is -/
def lm_retok (i : Nat) (v : Option Value) (pc : Nat) : Prop := (lm_rt i = none ∧ v = none ∧ decode (lm_cc i) pc = .ok (.return_, 1)) ∨ (∃ x : Int32, v = some (.int x) ∧ (lm_rt i = some .int ∨ (lm_rt i = some .boolean ∧ (x = 0 ∨ x = 1))) ∧ decode (lm_cc i) pc = .ok (.ireturn, 1))
abbrev lm_A (s0 : State) : Nat → Prop := fun q => s0.heap.size ≤ q
def lm_rm (j d : Nat) : Room := { frames := d + 20, cells := lm_mc j, slots := lm_ms j, locals := 60 * d + 1000 }
def lm_Bw (ad : Nat → Nat) (D : va_G) (tc : Nat → ClassId) (σ : lm_S) (t : State) : Prop := va_P D vwCl (lm_re ad tc σ) t.heap ∧ σ.2.2.2 ≤ lm_N0
def lm_Pw (s0 : State) (ad : Nat → Nat) (D : va_G) (tc : Nat → ClassId) (σ : lm_S) (U : State) : Prop := s0.WarmedH U.vm ∧ s0.heap.size ≤ U.heap.size ∧ (∀ q, q < s0.heap.size → U.heap[q]? = s0.heap[q]?) ∧ va_P D vwCl (lm_re ad tc σ) U.heap ∧ σ.2.2.2 ≤ lm_N0 ∧ (σ.2.2.2 < lm_N0 → U.heap.size = ad σ.2.2.2)
/-- a method's answer -/
def lm_Qc (s0 : State) (ad : Nat → Nat) (D : va_G) (tc : Nat → ClassId) (Q : lm_O → lm_S → Prop) : Array Value → State → Outcome → State → Prop := fun _ st oc t => (∃ (v : Option Value) (σ : lm_S), oc = .returned v ∧ (v = none ∨ ∃ x : Int32, v = some (.int x)) ∧ Q (.inl v) σ ∧ lm_Bw ad D tc σ t) ∧ va_F (lm_A s0) st t
def lm_XC (s0 : State) (ad : Nat → Nat) (D : va_G) (tc : Nat → ClassId) (Q : lm_O → lm_S → Prop) : String → State → State → Prop := vx_X (fun u : lm_S × Nat => Q (.inr u.2) u.1 ∧ u.2 < 2) (fun E u t => E = lm_xn u.2 ∧ lm_Bw ad D tc u.1 t) (lm_A s0)
set_option maxHeartbeats 4000000 in
theorem lm_ret_sound (hC : lm_C l s0 args0 ad adV D tc X i d z p R s m meth cd) {Q : lm_O → lm_S → Prop} {v : Option Value} (hQ : Q (.inl v) σ) (hP : va_P D vwCl (lm_re ad tc σ) H) (hn : σ.2.2.2 ≤ lm_N0) (hS : va_S (lm_A s0) s.heap H locs) (hv : lm_retok i v pc) :
    W p l e R s m args below meth cd H locs c k (MQ below (lm_Qc s0 ad D tc Q) args s c k (lm_A s0)) (F0 m pc ls (v.toList.map (lm_v ad))) := by
  obtain ⟨hV, hi, hx, hb, hret, hml, hown, hnm, hlk, hW, hz1, hz2, hz3, ht1, ht2, hf1, hf2, hc1, hc2⟩ := hC
  rcases hv with ⟨h1, rfl, hd⟩ | ⟨x, rfl, h1, hd⟩
  · exact W.vret hx hb (by rw [hret]; exact h1) (fun t ht hW => ⟨⟨none, σ, rfl, Or.inl rfl, hQ, by rw [lm_Bw, ht]; exact ⟨hP, hn⟩⟩, hS.F ht⟩) hS.2.2 hd hlk
  · rcases h1 with h1 | ⟨h1, h2⟩
    · exact W.zret (ty := .int) hx hb (by rw [hret]; exact h1) rfl (fun t ht hW => ⟨⟨some (.int x), σ, rfl, Or.inr ⟨x, rfl⟩, hQ, by rw [lm_Bw, ht]; exact ⟨hP, hn⟩⟩, hS.F ht⟩) hS.2.2 hd hlk
    · exact W.zret (ty := .boolean) hx hb (by rw [hret]; exact h1) (by rcases h2 with rfl | rfl <;> rfl) (fun t ht hW => ⟨⟨some (.int x), σ, rfl, Or.inr ⟨x, rfl⟩, hQ, by rw [lm_Bw, ht]; exact ⟨hP, hn⟩⟩, hS.F ht⟩) hS.2.2 hd hlk
set_option maxHeartbeats 4000000 in
theorem lm_th_sound (hC : lm_C l s0 args0 ad adV D tc X i d z p R s m meth cd) {Q : lm_O → lm_S → Prop} {Qc : Array Value → State → Outcome → State → Prop} {idx ex w : Nat} (hr : lm_row i pc = some (pc, .new idx, ex, 1, w)) (hQ : Q (.inr ex) σ) (hex : ex < 2) (hP : va_P D vwCl (lm_re ad tc σ) H) (hn : σ.2.2.2 = lm_N0) (hS : va_S (lm_A s0) s.heap H locs) (hL : lm_LS ad L ls (lm_ml i)) (hcc : c + 1 ≤ lm_mc i) (hkk : k + 6 ≤ lm_ms i) :
    W p l e R s m args below meth cd H locs c k (vx_MQ below Qc (lm_XC s0 ad D tc Q) args s (lm_mc i) (lm_ms i) (lm_A s0)) (F0 m pc ls []) := by
  obtain ⟨hV, hi, hx, hb, hret, hml, hown, hnm, hlk, hW, hz1, hz2, hz3, ht1, ht2, hf1, hf2, hc1, hc2⟩ := hC
  obtain ⟨hk, -⟩ := lm_rok_at hi hr
  simp only [lm_rok, Bool.and_eq_true] at hk
  obtain ⟨hd, hk⟩ := hk
  rw [if_neg (by decide)] at hk
  simp only [Bool.and_eq_true, decide_eq_true_eq] at hk
  obtain ⟨⟨⟨⟨⟨⟨k1, k2⟩, k3⟩, k4⟩, k5⟩, k6⟩, k7⟩ := hk
  have hsz : ls.size = cd.maxLocals := by rw [hml, hL.2.1]
  have hout : ∀ x ∈ cd.exceptionTable.toList, covers x (pc + 7) = false := fun x hx => (ht1 k2 k7 x hx).elim
  have hU : vx_Zq Bundle.tN "UNASSIGNED_STACK" Bundle.steD (lm_A s0) s s.heap := by
    have h0 := vx_Zq.moved hW.alike hV.2.2.2.2.2.2.2.2.1
    exact vx_Zq.kept h0 (fun a h1 _ => hz2 a h1)
  have hN : vx_Zq Bundle.tN "SUPPRESSED_SENTINEL" Bundle.listD (lm_A s0) s s.heap := by
    have h0 := vx_Zq.moved hW.alike hV.2.2.2.2.2.2.2.2.2.1
    exact vx_Zq.kept h0 (fun a h1 _ => hz2 a h1)
  have hxx : ∀ E, E = lm_xn ex → ∀ t : State, s.vm.Alike t.vm → H.size ≤ t.heap.size → (∀ q : Nat, q < H.size → t.heap[q]? = H[q]?) → lm_XC s0 ad D tc Q E s t := by
    intro E hE t h1 h2 h3
    refine ⟨(σ, ex), ⟨hQ, hex⟩, ⟨hE, ?_, by rw [hn]; exact Nat.le_refl _⟩, Nat.le_trans hS.1 h2, fun q h4 h5 => ?_⟩
    · exact va_P.kept hP (fun k9 q hq => h3 _ (hP k9 q hq).lt)
    · rw [h3 q (Nat.lt_of_lt_of_le h4 hS.1)]
      exact hS.2.1 q h4 h5
  have hown' : s.vm.findClass "HummedTunes" = some m.cls := by rw [← k2]; exact hown
  have hd0 := of_decide_eq_true hd
  match ex, hex, k1, k5, hxx with
  | 0, _, k1, k5, hxx =>
    refine vx_throw0 (own := "HummedTunes") (cls := "java/util/NoSuchElementException") (names := ["java/lang/RuntimeException", "java/lang/Exception"]) (ik := idx) (ic := 346) (A := lm_A s0) hx hb hV.2.2.2.2.2.2.2.1 hown' (by decide +kernel) (by decide +kernel) (by have := lm_word hV hW k1 args; rw [k2] at this; exact this) (lm_wmem hV hW lm_xc.2.2.1 args) (lm_xhat hV hW lm_xw0 lm_xc.1) ?_ hU hN hS hsz hd0 k4 k5 k6 hout (by show 2 + 3 < R.frames; omega) (by show 0 + (13 * (2 + 1) + 42) ≤ R.locals; omega) (by omega) (by omega) hlk (hxx _ rfl) hS.2.2 hcc hkk
    intro w hw
    rcases List.mem_cons.mp hw with rfl | hw
    · rfl
    · rcases List.mem_cons.mp hw with rfl | hw
      · rfl
      · exact lm_xg0 w hw
  | 1, _, k1, k5, hxx =>
    refine vx_throw0 (own := "HummedTunes") (cls := "java/lang/IllegalArgumentException") (names := ["java/lang/RuntimeException", "java/lang/Exception"]) (ik := idx) (ic := 349) (A := lm_A s0) hx hb hV.2.2.2.2.2.2.2.1 hown' (by decide +kernel) (by decide +kernel) (by have := lm_word hV hW k1 args; rw [k2] at this; exact this) (lm_wmem hV hW lm_xc.2.2.2 args) (lm_xhat hV hW lm_xw1 lm_xc.2.1) ?_ hU hN hS hsz hd0 k4 k5 k6 hout (by show 2 + 3 < R.frames; omega) (by show 0 + (13 * (2 + 1) + 42) ≤ R.locals; omega) (by omega) (by omega) hlk (hxx _ rfl) hS.2.2 hcc hkk
    intro w hw
    rcases List.mem_cons.mp hw with rfl | hw
    · rfl
    · rcases List.mem_cons.mp hw with rfl | hw
      · rfl
      · exact lm_xg1 w hw
end LMR
