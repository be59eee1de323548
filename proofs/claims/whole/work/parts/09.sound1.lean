/-! ===== the light machine is the machine's: instructions ===== -/
/-- the texts, and two statics that their methods read -/
def lm_TX (s0 : State) (ad adV : Nat → Nat) : Prop :=
  (∀ i : Nat, i < lm_str.length → va_O "java/lang/String" (ad (lm_sp + i)) (fun q => s0.heap.size ≤ q) s0 s0.heap ∧ va_OF "java/lang/String" "coder" "B" (.int 0) (ad (lm_sp + i)) (fun q => s0.heap.size ≤ q) s0 s0.heap ∧ va_OF "java/lang/String" "value" "[B" (.ref (adV i)) (ad (lm_sp + i)) (fun q => s0.heap.size ≤ q) s0 s0.heap ∧ va_T .byte (adV i) (lm_str.getD i []).length (fun j => .int ((lm_str.getD i []).getD j 0)) (fun q => s0.heap.size ≤ q) s0 s0.heap) ∧
  va_Z "java/lang/String" "COMPACT_STRINGS" "Z" (.int 1) (fun q => s0.heap.size ≤ q) s0 s0.heap ∧ va_Zq "jdk/internal/util/Preconditions" "SIOOBE_FORMATTER" "Ljava/util/function/BiFunction;" (fun q => s0.heap.size ≤ q) s0 s0.heap
/-- what is known of the law's start -/
def lm_V (l : Launch) (s0 : State) (args0 : Array Value) (ad adV : Nat → Nat) (D : va_G) (tc : Nat → ClassId) (X : lm_X) : Prop :=
  (∀ w ∈ lw_tbl, w.before args0 s0 = true) ∧ (∀ k, k ≤ lm_N0 → ad k = s0.heap.size + k) ∧ va_K D vwCl (lm_tys tc) s0 ∧
  lm_TX s0 ad adV ∧
  (∀ (own : String) (idx j : Nat), j < lm_str.length → Cond.stringRef own idx (lm_txt.getD j "") ∈ lw_tbl → vk_R own idx (lm_txt.getD j "") (ad (lm_sp + j)) s0) ∧
  va_X (ad lm_scr) X.1 X.2 s0 s0.heap ∧ ad lm_scr < s0.heap.size ∧ l.stackTraces = false ∧
  vx_Zq Bundle.tN "UNASSIGNED_STACK" Bundle.steD (fun q => s0.heap.size ≤ q) s0 s0.heap ∧ vx_Zq Bundle.tN "SUPPRESSED_SENTINEL" Bundle.listD (fun q => s0.heap.size ≤ q) s0 s0.heap ∧
  va_AO "java/lang/String" s0 ∧ va_Nc "java/lang/IllegalArgumentException" "java/util/NoSuchElementException" s0
/-- what is known in a walk of the method i -/
def lm_C (l : Launch) (s0 : State) (args0 : Array Value) (ad adV : Nat → Nat) (D : va_G) (tc : Nat → ClassId) (X : lm_X) (i d z : Nat) (p : Program) (R : Room) (s : State) (m : MethodId) (meth : Method) (c : Code) : Prop :=
  lm_V l s0 args0 ad adV D tc X ∧ i < 273 ∧ p.tables.exec = Jvm.exec ∧ c.code = lm_cc i ∧ meth.sig.returnType = lm_rt i ∧ c.maxLocals = lm_ml i ∧ s.vm.findClass (lm_y i).cls = some m.cls ∧ ((lm_y i).name = "<init>" → meth.name = "<init>") ∧ meth.locks = false ∧
  s0.WarmedH s.vm ∧ s0.heap.size ≤ s.heap.size ∧ (∀ q, q < s0.heap.size → s.heap[q]? = s0.heap[q]?) ∧ (z < lm_N0 → s.heap.size = ad z) ∧
  ((lm_y i).cls = "HummedTunes" → lm_hh i = [] → ∀ x ∈ c.exceptionTable.toList, False) ∧ (lm_hh i ≠ [] → c.exceptionTable.toList = tableOf (lm_hh i)) ∧ d + 20 ≤ R.frames ∧ 60 * d + 1000 ≤ R.locals ∧ R.cells = lm_mc i ∧ R.slots = lm_ms i
theorem lm_word {l : Launch} {s0 : State} {args0 : Array Value} {ad adV : Nat → Nat} {D : va_G} {tc : Nat → ClassId} {X : lm_X} (hV : lm_V l s0 args0 ad adV D tc X) {U : State} (hW : s0.WarmedH U.vm) {w : Nat} {c : Cond} (h : lm_wd w c = true) (a' : Array Value) : c.before a' U = true := by
  unfold lm_wd at h
  simp only [Bool.and_eq_true, decide_eq_true_eq] at h
  exact word_at hW (good_of_word h.2) (hV.1 c (List.mem_of_getElem? h.1))
theorem lm_D {l : Launch} {s0 : State} {args0 : Array Value} {ad adV : Nat → Nat} {D : va_G} {tc : Nat → ClassId} {X : lm_X} (hV : lm_V l s0 args0 ad adV D tc X) {σ : lm_S} (hn : σ.2.2.2 ≤ lm_N0) : va_D (fun q => s0.heap.size ≤ q) (lm_re ad tc σ) := by
  refine ⟨fun i j p q hp hq h => ?_, fun k q hk => ?_⟩
  · obtain ⟨h1, rfl⟩ := lm_re_of hp
    obtain ⟨h2, rfl⟩ := lm_re_of hq
    simp only at h
    rw [hV.2.1 i (by omega), hV.2.1 j (by omega)] at h
    omega
  · obtain ⟨h1, rfl⟩ := lm_re_of hk
    simp only
    rw [hV.2.1 k (by omega)]
    omega
section LMS
variable {l : Launch} {s0 : State} {args0 : Array Value} {ad adV : Nat → Nat} {D : va_G} {tc : Nat → ClassId} {X : lm_X} {i d z : Nat} {p : Program} {e : Env} {R : Room} {s : State} {m : MethodId} {args : Array Value} {below : List Frame} {meth : Method} {cd : Code} {H : Heap} {locs : List Loc} {c k pc : Nat} {Z : State → Prop} {L : lm_L} {S : List Value} {σ : lm_S} {ls : Array Slot}
/-- what a walk goes on with -/
abbrev lm_K (s0 : State) (ad : Nat → Nat) (D : va_G) (tc : Nat → ClassId) (i : Nat) (p : Program) (l : Launch) (e : Env) (R : Room) (s : State) (m : MethodId) (args : Array Value) (below : List Frame) (meth : Method) (cd : Code) (c k : Nat) (Z : State → Prop) (pc : Nat) (L : lm_L) (S : List Value) (σ : lm_S) : Prop :=
  ∀ (H : Heap) (locs : List Loc) (ls : Array Slot), va_P D vwCl (lm_re ad tc σ) H → σ.2.2.2 ≤ lm_N0 → va_S (fun q => s0.heap.size ≤ q) s.heap H locs → lm_LS ad L ls (lm_ml i) → W p l e R s m args below meth cd H locs c k Z (F0 m pc ls (S.map (lm_v ad)))
theorem lm_bin_spec {f : Int32 → Int32 → Int32} {g : Prop} {pc' : Nat} {L' : lm_L} {S' : List Value} {σ' : lm_S} (h : lm_bin f pc L S σ = some (g, pc', L', S', σ')) : ∃ x y r, S = .int y :: .int x :: r ∧ pc' = pc + 1 ∧ L' = L ∧ S' = .int (f x y) :: r ∧ σ' = σ := by
  unfold lm_bin at h
  split at h
  · rename_i y x r
    cases h
    exact ⟨x, y, r, rfl, rfl, rfl, rfl, rfl⟩
  · cases h
theorem lm_get_spec {t kk : Nat} {g : Prop} {pc' : Nat} {L' : lm_L} {S' : List Value} {σ' : lm_S} (h : lm_get L kk t pc S σ = some (g, pc', L', S', σ')) : ∃ v, L[kk]? = some (some v) ∧ pc' = pc ∧ L' = L ∧ S' = v :: S ∧ σ' = σ ∧ ((t = 0 ∧ ∃ x, v = .int x) ∨ (t = 1 ∧ ∃ x, v = .ref x) ∨ (t = 2 ∧ ∃ x, v = .long x)) := by
  unfold lm_get at h
  split at h
  · rename_i x heq
    split at h
    · rename_i ht
      cases h
      exact ⟨_, heq, rfl, rfl, rfl, rfl, Or.inl ⟨ht, x, rfl⟩⟩
    · cases h
  · rename_i x heq
    split at h
    · rename_i ht
      cases h
      exact ⟨_, heq, rfl, rfl, rfl, rfl, Or.inr (Or.inl ⟨ht, x, rfl⟩)⟩
    · cases h
  · rename_i x heq
    split at h
    · rename_i ht
      cases h
      exact ⟨_, heq, rfl, rfl, rfl, rfl, Or.inr (Or.inr ⟨ht, x, rfl⟩)⟩
    · cases h
  · cases h
theorem lm_put_spec {kk : Nat} {v : Value} {g : Prop} {pc' : Nat} {L' : lm_L} {S' : List Value} {σ' : lm_S} (h : lm_put L kk v pc S σ = some (g, pc', L', S', σ')) : kk < L.length ∧ lm_nl L kk = true ∧ pc' = pc ∧ L' = L.set kk (some v) ∧ S' = S ∧ σ' = σ := by
  unfold lm_put at h
  split at h
  · rename_i hh
    cases h
    exact ⟨hh.1, hh.2, rfl, rfl, rfl, rfl⟩
  · cases h
set_option maxHeartbeats 4000000 in
/-- constants, locals, stack, arithmetic -/
theorem lm_st_a (hC : lm_C l s0 args0 ad adV D tc X i d z p R s m meth cd) {ins : Instr} {x y w : Nat} (hr : lm_row i pc = some (pc, ins, x, y, w)) {g : Prop} {pc' : Nat} {L' : lm_L} {S' : List Value} {σ' : lm_S} (h : lm_st X (pc, ins, x, y, w) L S σ = some (g, pc', L', S', σ')) (hg : g)
    (hP : va_P D vwCl (lm_re ad tc σ) H) (hn : σ.2.2.2 ≤ lm_N0) (hS : va_S (fun q => s0.heap.size ≤ q) s.heap H locs) (hL : lm_LS ad L ls (lm_ml i))
    (kk : lm_K s0 ad D tc i p l e R s m args below meth cd c k Z pc' L' S' σ')
    (hrest : (∀ idx, ins ≠ .ldc idx) ∧ (∀ idx, ins ≠ .ldc_w idx) ∧ (∀ idx, ins ≠ .getfield idx) ∧ (∀ idx, ins ≠ .putfield idx) ∧ (∀ idx, ins ≠ .invokestatic idx) ∧ (∀ idx, ins ≠ .invokevirtual idx) ∧ (∀ idx, ins ≠ .invokespecial idx) ∧ ins ≠ .iaload ∧ ins ≠ .baload ∧ ins ≠ .laload ∧ ins ≠ .aaload ∧ ins ≠ .iastore ∧ ins ≠ .bastore ∧ ins ≠ .lastore ∧ ins ≠ .aastore ∧ ins ≠ .arraylength ∧ ins ≠ .dup ∧ ins ≠ .dup2 ∧ ins ≠ .pop ∧ (∀ a b c d, ins ≠ .tableswitch a b c d) ∧ (∀ a b, ins ≠ .lookupswitch a b)) : W p l e R s m args below meth cd H locs c k Z (F0 m pc ls (S.map (lm_v ad))) := by
  obtain ⟨hV, hi, hx, hb, hret, hml, hown, hnm, hlk, hW, hz1, hz2, hz3, ht1, ht2, hf1, hf2, hc1, hc2⟩ := hC
  obtain ⟨hk, -⟩ := lm_rok_at hi hr
  simp only [lm_rok, Bool.and_eq_true] at hk
  obtain ⟨hd, hk⟩ := hk
  cases ins <;> simp only [lm_st] at h <;> first
    | (cases h; done)
    | (exfalso; simp at hrest; done)
    | skip
  case tableswitch a b c' d' => exact absurd rfl (hrest.2.2.2.2.2.2.2.2.2.2.2.2.2.2.2.2.2.2.2.1 a b c' d')
  case iconst n => cases h; exact lv_iconst hx hb (of_decide_eq_true hd) rfl (kk H locs ls hP hn hS hL)
  case bipush n => cases h; exact lv_bipush hx hb (of_decide_eq_true hd) rfl (kk H locs ls hP hn hS hL)
  case sipush n => cases h; exact lv_sipush hx hb (of_decide_eq_true hd) rfl (kk H locs ls hP hn hS hL)
  case lconst n => cases h; exact lv_lconst hx hb (of_decide_eq_true hd) rfl (kk H locs ls hP hn hS hL)
  case ldc2_w idx => cases h; exact lv_ldc2 hx hb hown (lm_word hV hW hk args) (of_decide_eq_true hd) (kk H locs ls hP hn hS hL)
  case goto o => cases h; exact lv_goto hx hb (of_decide_eq_true hd) (of_decide_eq_true hk) (kk H locs ls hP hn hS hL)
  case iadd => obtain ⟨x, y, r, rfl, rfl, rfl, rfl, rfl⟩ := lm_bin_spec h; exact lv_iadd hx hb (of_decide_eq_true hd) (kk H locs ls hP hn hS hL)
  case isub => obtain ⟨x, y, r, rfl, rfl, rfl, rfl, rfl⟩ := lm_bin_spec h; exact lv_isub hx hb (of_decide_eq_true hd) (kk H locs ls hP hn hS hL)
  case imul => obtain ⟨x, y, r, rfl, rfl, rfl, rfl, rfl⟩ := lm_bin_spec h; exact lv_imul hx hb (of_decide_eq_true hd) (kk H locs ls hP hn hS hL)
  case iand => obtain ⟨x, y, r, rfl, rfl, rfl, rfl, rfl⟩ := lm_bin_spec h; exact lv_iand hx hb (of_decide_eq_true hd) (kk H locs ls hP hn hS hL)
  case ior => obtain ⟨x, y, r, rfl, rfl, rfl, rfl, rfl⟩ := lm_bin_spec h; exact lv_ior hx hb (of_decide_eq_true hd) (kk H locs ls hP hn hS hL)
  case ixor => obtain ⟨x, y, r, rfl, rfl, rfl, rfl, rfl⟩ := lm_bin_spec h; exact lv_ixor hx hb (of_decide_eq_true hd) (kk H locs ls hP hn hS hL)
  case ishl => obtain ⟨x, y, r, rfl, rfl, rfl, rfl, rfl⟩ := lm_bin_spec h; exact lv_ishl hx hb (of_decide_eq_true hd) (kk H locs ls hP hn hS hL)
  case ishr => obtain ⟨x, y, r, rfl, rfl, rfl, rfl, rfl⟩ := lm_bin_spec h; exact lv_ishr hx hb (of_decide_eq_true hd) (kk H locs ls hP hn hS hL)
  case iushr => obtain ⟨x, y, r, rfl, rfl, rfl, rfl, rfl⟩ := lm_bin_spec h; exact lv_iushr hx hb (of_decide_eq_true hd) rfl (kk H locs ls hP hn hS hL)
  case idiv =>
    split at h
    · cases h
      exact lv_idiv hx hb (of_decide_eq_true hd) hg (kk H locs ls hP hn hS hL)
    · cases h
  case irem =>
    split at h
    · cases h
      exact lv_irem hx hb (of_decide_eq_true hd) hg (kk H locs ls hP hn hS hL)
    · cases h
  case i2l =>
    split at h
    · cases h
      exact lv_i2l hx hb (of_decide_eq_true hd) rfl (kk H locs ls hP hn hS hL)
    · cases h
  case i2b =>
    split at h
    · cases h
      exact lv_i2b hx hb (of_decide_eq_true hd) rfl (kk H locs ls hP hn hS hL)
    · cases h
  case iload_n kq =>
    obtain ⟨v, h1, rfl, rfl, rfl, rfl, h2⟩ := lm_get_spec h
    rcases h2 with ⟨-, x, rfl⟩ | ⟨h0, -⟩ | ⟨h0, -⟩
    · exact lv_iload_n hx hb (of_decide_eq_true hd) rfl (hL.2.2.2 _ _ h1) (kk H locs ls hP hn hS hL)
    · cases h0
    · cases h0
  case iload kq =>
    obtain ⟨v, h1, rfl, rfl, rfl, rfl, h2⟩ := lm_get_spec h
    rcases h2 with ⟨-, x, rfl⟩ | ⟨h0, -⟩ | ⟨h0, -⟩
    · exact lv_iload hx hb (of_decide_eq_true hd) (hL.2.2.2 _ _ h1) (kk H locs ls hP hn hS hL)
    · cases h0
    · cases h0
  case aload_n kq =>
    obtain ⟨v, h1, rfl, rfl, rfl, rfl, h2⟩ := lm_get_spec h
    rcases h2 with ⟨h0, -⟩ | ⟨-, x, rfl⟩ | ⟨h0, -⟩
    · cases h0
    · exact lv_aload_n hx hb (of_decide_eq_true hd) rfl (hL.2.2.2 _ _ h1) (kk H locs ls hP hn hS hL)
    · cases h0
  case aload kq =>
    obtain ⟨v, h1, rfl, rfl, rfl, rfl, h2⟩ := lm_get_spec h
    rcases h2 with ⟨h0, -⟩ | ⟨-, x, rfl⟩ | ⟨h0, -⟩
    · cases h0
    · exact lv_aload hx hb (of_decide_eq_true hd) (hL.2.2.2 _ _ h1) (kk H locs ls hP hn hS hL)
    · cases h0
  case lload_n kq =>
    obtain ⟨v, h1, rfl, rfl, rfl, rfl, h2⟩ := lm_get_spec h
    rcases h2 with ⟨h0, -⟩ | ⟨h0, -⟩ | ⟨-, x, rfl⟩
    · cases h0
    · cases h0
    · exact lv_lload_n hx hb (of_decide_eq_true hd) rfl (hL.2.2.2 _ _ h1) (kk H locs ls hP hn hS hL)
  case lload kq =>
    obtain ⟨v, h1, rfl, rfl, rfl, rfl, h2⟩ := lm_get_spec h
    rcases h2 with ⟨h0, -⟩ | ⟨h0, -⟩ | ⟨-, x, rfl⟩
    · cases h0
    · cases h0
    · exact lv_lload hx hb (of_decide_eq_true hd) (hL.2.2.2 _ _ h1) (kk H locs ls hP hn hS hL)
  case istore_n kq =>
    split at h
    · obtain ⟨h1, h2, rfl, rfl, rfl, rfl⟩ := lm_put_spec h
      exact lv_istore_n hx hb (of_decide_eq_true hd) rfl hL.has (by rw [← hL.1]; exact h1) rfl (fun ls' h' => kk H locs ls' hP hn hS (hL.put h1 h2 h'))
    · cases h
  case istore kq =>
    split at h
    · obtain ⟨h1, h2, rfl, rfl, rfl, rfl⟩ := lm_put_spec h
      exact lv_istore hx hb (of_decide_eq_true hd) hL.has (by rw [← hL.1]; exact h1) rfl (fun ls' h' => kk H locs ls' hP hn hS (hL.put h1 h2 h'))
    · cases h
  case astore_n kq =>
    split at h
    · obtain ⟨h1, h2, rfl, rfl, rfl, rfl⟩ := lm_put_spec h
      exact lv_astore_n hx hb (of_decide_eq_true hd) rfl hL.has (by rw [← hL.1]; exact h1) rfl (fun ls' h' => kk H locs ls' hP hn hS (hL.put h1 h2 h'))
    · cases h
  case astore kq =>
    split at h
    · obtain ⟨h1, h2, rfl, rfl, rfl, rfl⟩ := lm_put_spec h
      exact lv_astore hx hb (of_decide_eq_true hd) hL.has (by rw [← hL.1]; exact h1) rfl (fun ls' h' => kk H locs ls' hP hn hS (hL.put h1 h2 h'))
    · cases h
  case iinc kq n =>
    split at h
    · rename_i v heq
      obtain ⟨h1, h2, rfl, rfl, rfl, rfl⟩ := lm_put_spec h
      obtain ⟨kx, hkx⟩ := List.getElem?_of_mem (lm_tl_mem (ad := ad) (q := (kq, .int v)) |>.mpr ⟨_, heq, rfl⟩)
      exact lv_iinc (v := v + Int32.ofInt n) hx hb (of_decide_eq_true hd) hL.has hkx rfl (by rw [← hL.1]; exact h1) rfl (fun ls' h' => kk H locs ls' hP hn hS (hL.put h1 h2 h'))
    · cases h
  case lcmp =>
    split at h
    · rename_i y x r
      cases h
      refine W.lcmp hx hb (of_decide_eq_true hd) ?_
      have hq : lg_cmp x y = lm_lcmp x y := by
        unfold lg_cmp lm_lcmp
        by_cases h1 : y < x
        · rw [if_pos h1, if_neg (fun q => by rw [q] at h1; exact Int64.lt_irrefl h1), if_neg (fun q => Int64.lt_irrefl (Int64.lt_trans h1 q))]
        · rw [if_neg h1]
          by_cases h2 : x = y
          · rw [if_pos h2, if_pos h2]
          · rw [if_neg h2, if_neg h2, if_pos (Int64.lt_of_le_of_ne (Int64.not_lt.mp h1) h2)]
      rw [hq]
      exact kk H locs ls hP hn hS hL
    · cases h
end LMS
