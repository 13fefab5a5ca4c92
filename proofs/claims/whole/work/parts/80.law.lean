/-! the law's world, and its script -/
abbrev wW (cI cZ cJ : ClassId) (o : Nat) (fo : Nat → Int64) (a : Nat → Nat) (v : Nat → Int32) (g : Nat → Nat → Int32) (am : Nat → Nat) (y : Nat → Int32) (z : Nat → Nat → Int32) : va_W := wL cI cZ cJ o fo a v g ++ wM cI cZ am y z
theorem gd_SW {c0 c1 : Cond} {own : String} {idx : Nat} {y : MethodName} (h1 : Cond.methodLink own idx y ∈ allW) (h2 : Cond.static y ∈ allW) (h4 : Cond.initialized y.cls ∈ allW) (h5 : c1 ∈ allW) : GoodIn (c0 :: allW) (va_wsS own idx y (c1 :: allW)) := by
  intro w hw
  have hm : w ∈ allW := by
    simp only [va_wsS, List.mem_append, List.mem_cons, List.not_mem_nil, or_false] at hw
    rcases hw with (rfl | rfl | rfl) | rfl | h
    · exact h1
    · exact h2
    · exact h4
    · exact h5
    · exact h
  exact ⟨List.mem_cons_of_mem _ hm, good_of_word (List.mem_filter.mp hm).2⟩
section OWNS
variable {p : Program} {l : Launch} {e : Env} {R : Room} {s : State} {m : MethodId} {args : Array Value} {below : List Frame} {meth : Method} {c : Code} {H : Heap} {locs : List Loc} {cells slots : Nat} {Q : State → Prop}
variable {cc : ByteArray} {pc : Nat} {ls : Array Slot} {rest : List Value}
theorem lw_sld (hexec : p.tables.exec = Jvm.exec) (hb : c.code = cc) {b L : Nat} {xs : Nat → Int32} (hX : va_X b L xs s s.heap) (hbl : b < s.heap.size) (hS : va_S (fun q : Nat => s.heap.size ≤ q) s.heap H locs) {i k : Nat} {x : Int32} (hxk : x = nI k) (hi : i + k < L) (hL : L ≤ 3584) (hdg : decode cc pc = .ok (.iaload, 1))
    (kk : W p l e R s m args below meth c H locs cells slots Q (F0 m (pc + 1) ls (.int (xs (i + k)) :: rest))) : W p l e R s m args below meth c H locs cells slots Q (F0 m pc ls (.int (nI i + x) :: .ref b :: rest)) := by
  subst hxk
  rw [nI_add]
  refine va_sld (A := fun q : Nat => s.heap.size ≤ q) hexec hb hX hbl (Nat.not_le.mpr hbl) hS (vp_in_nI hi (by omega)) hdg ?_
  rw [nI_clamp (by omega)]
  exact kk
end OWNS
theorem lw_eq {x y : Int64} (h : x = y) : lg_cmp x y = 0 := by subst h; simp [lg_cmp]
theorem lw_nn {x : Int32} (h : ¬ ¬ x = 0) : x = 0 := Classical.not_not.mp h
