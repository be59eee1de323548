/-! ===== texts: length, charAt ===== -/
section LMX
variable {l : Launch} {s0 : State} {args0 : Array Value} {ad adV : Nat → Nat} {D : va_G} {tc : Nat → ClassId} {X : lm_X} {i d z : Nat} {p : Program} {e : Env} {R : Room} {s : State} {m : MethodId} {args : Array Value} {below : List Frame} {meth : Method} {cd : Code} {H : Heap} {locs : List Loc} {c k pc : Nat} {Z : State → Prop} {L : lm_L} {S : List Value} {σ : lm_S} {ls : Array Slot}
set_option maxHeartbeats 4000000 in
theorem lm_bi_v (hC : lm_C l s0 args0 ad adV D tc X i d z p R s m meth cd) {idx y w : Nat} (hd : decode (lm_cc i) pc = .ok (.invokevirtual idx, 3)) (hk : lm_bok (lm_y i).cls idx y w 0 = true) {g : Prop} {pc' : Nat} {L' : lm_L} {S' : List Value} {σ' : lm_S} (h : lm_bi y pc L S σ = some (g, pc', L', S', σ')) (hg : g) (hgd : (S.map fun v => v.category).sum ≤ 8) (hc : c ≤ lm_mc i) (hkm : k ≤ lm_ms i)
    (hP : va_P D vwCl (lm_re ad tc σ) H) (hn : σ.2.2.2 ≤ lm_N0) (hS : va_S (fun q => s0.heap.size ≤ q) s.heap H locs) (hL : lm_LS ad L ls (lm_ml i))
    (kk : lm_K s0 ad D tc i p l e R s m args below meth cd c k Z pc' L' S' σ') : W p l e R s m args below meth cd H locs c k Z (F0 m pc ls (S.map (lm_v ad))) := by
  sorry
end LMX
