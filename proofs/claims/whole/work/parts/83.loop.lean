/-! the law, from its loop to its end -/
def R_law : String := "ShareStatisticsLaw"
def lw_P (b : Addr) (xs : List Int32) (args : Array Value) (s : State) : Prop := args = #[.ref b] ∧ s.IntsAt b xs ∧ xs.length ≤ 3584 ∧ (Jvm.Cond.and given_1 narrow_1).before args s = true
def lw_Q (_ : Array Value) (s : State) (o : Outcome) (t : State) : Prop := o = .returned (some (.int 1)) ∧ Framed s o t [] 601024 7293034
def lw_Z (below : List Frame) (a : Array Value) (s : State) : State → Prop := fun t => ∃ o, t.status = .running ∧ Ended t below o ∧ lw_Q a s o t
/-- the law's own end, with 1 on the stack, nothing written that was there before, its room as the claim has it -/
theorem lw_ret {p : Program} {l : Launch} {e : Env} {s : State} {m : MethodId} {below : List Frame} {meth : Method} {c : Code} {b : Nat} (hx : p.tables.exec = Jvm.exec) (hb : c.code = code) (hr : meth.sig.returnType = ret) (hlocks : meth.locks = false) {pc : Nat} {H : Heap} {ls : Array Slot} (hdg : decode code pc = .ok (.ireturn, 1)) : W p l e room_1 s m #[Value.ref b] below meth c H [] 601024 7293034 (lw_Z below #[Value.ref b] s) (F0 m pc ls [.int 1]) := by
  intro T hT X
  obtain ⟨fs, hret, hrun, hended, hW, hframe⟩ := X.leave (v := some (.int 1)) (hlocks := hlocks) (fun h => by rw [hr] at h; cases h)
  have hmeth' : T.vm.method? m = some meth := X.method'
  refine ⟨T.setFrames fs, ?_, .returned (some (.int 1)), hrun, hended, rfl, ⟨_, rfl⟩, hW, hframe⟩
  jvm_step X.here [X.here.top, hx, hb, hdg, hmeth', hr, ret, narrow_b1]
  (try refine ⟨rfl, ?_⟩); (try refine ⟨rfl, ?_⟩)
  first | (intro acts; rw [hret _ acts rfl rfl rfl]) | rw [hret _ _ rfl rfl rfl]
  exact Steps.refl _
/-- what holds at the law's entry: the machine, the code, the tables' words (any of lw_tbl by 'hts w (by decide +kernel)'), the script of L ints xs at the cell b, what the Statement gives of the start (any of its parts by flat_of_before) -/
def lw_At (p : Program) (s : State) (m : MethodId) (meth : Method) (c : Code) (b L : Nat) (xs : Nat → Int32) : Prop :=
  p.tables.exec = Jvm.exec ∧ c.code = code ∧ meth.sig.returnType = ret ∧ c.maxLocals = 7 ∧ s.vm.findClass R_law = some m.cls ∧ (∀ w ∈ lw_tbl, w.before #[Value.ref b] s = true) ∧ va_X b L xs s s.heap ∧ b < s.heap.size ∧ meth.locks = false ∧ (Jvm.Cond.and given_1 narrow_1).before #[Value.ref b] s = true
theorem lw_head {p : Program} {l : Launch} {e : Env} {s : State} {m : MethodId} {below : List Frame} {meth : Method} {c : Code} {b L : Nat} {xs : Nat → Int32} {a am : Nat → Nat} {o : Nat} {Q : State → Prop} (hx : p.tables.exec = Jvm.exec) (hb : c.code = code) (hX : va_X b L xs s s.heap) (hbl : b < s.heap.size) {i cells slots : Nat} (hi : i ≤ 7000) (hL : L ≤ 3584) {H : Heap} {locs : List Loc} {ls : Array Slot} (hS : va_S (fun q : Nat => s.heap.size ≤ q) s.heap H locs) (hl : lv_has ls 7 [(0, .ref b), (1, .ref (a 0)), (2, .ref (am 0)), (3, .ref o), (4, .int (nI i))])
    (kt : L < i + 7 → W p l e room_1 s m #[Value.ref b] below meth c H locs cells slots Q (F0 m 1182 ls [])) (kf : i + 7 ≤ L → W p l e room_1 s m #[Value.ref b] below meth c H locs cells slots Q (F0 m 33 ls [])) : W p l e room_1 s m #[Value.ref b] below meth c H locs cells slots Q (F0 m 23 ls []) := by
  refine lv_iload hx hb dL_law_23 (lv_at hl 4 rfl) ?_
  refine lv_aload_n hx hb dL_law_25 rfl (lv_at hl 0 rfl) ?_
  refine va_slen (A := (fun q : Nat => s.heap.size ≤ q)) hx hb hX hbl (Nat.not_le.mpr hbl) hS dL_law_26 ?_
  refine lv_bipush (v := 7) hx hb dL_law_27 (by decide) ?_
  refine lv_isub hx hb dL_law_29 ?_
  have e : (Int32.ofNat L - 7).toInt = (L : Int) - 7 := pk_sub_toInt (a := L) (b := 7) (by omega) (by decide)
  have e2 : (nI i).toInt = (i : Int) := nI_toInt (by omega)
  refine lv_icmp_gt (tgt := 1182) hx hb dL_law_30 (by decide) (fun c => kt ?_) (fun c => kf ?_)
  · have c := Int32.lt_iff_toInt_lt.mp c
    rw [e, e2] at c; omega
  · have c := Int32.le_iff_toInt_le.mp (Int32.not_lt.mp c)
    rw [e, e2] at c; omega
set_option maxHeartbeats 4000000 in
set_option maxRecDepth 100000 in
theorem lw_switch {p : Program} {l : Launch} {e : Env} {s : State} {m : MethodId} {below : List Frame} {meth : Method} {c : Code} {c0 : Cond} {b L : Nat} {xs : Nat → Int32} {dC : Nat → ClassId} {dI : Nat → Nat → Nat} {cI cZ cJ : ClassId} {a am : Nat → Nat} {o : Nat} {tx : Nat → Nat} {Q : State → Prop}
    (hl9 : l.stackTraces = false) (hx : p.tables.exec = Jvm.exec) (hb : c.code = code) (hml : c.maxLocals = 7) (hown : s.vm.findClass RL = some m.cls) (hts : ∀ w ∈ c0 :: allW, w.before #[Value.ref b] s = true) (hX : va_X b L xs s s.heap) (hbl : b < s.heap.size) (hK : va_K (dC, dI) clA (tyA cI cZ cJ) s) (hZ : ZX tx (fun q : Nat => s.heap.size ≤ q) s s.heap) (hC : ZC s)
    {i cells slots : Nat} (hi : i + 7 ≤ L) (hL : L ≤ 3584) (hce : cells + 7 ≤ 601024) (hsl : slots + 42 ≤ 7293034) {v : Nat → Int32} {g : Nat → Nat → Int32} {y : Nat → Int32} {z : Nat → Nat → Int32} {fo : Nat → Int64} {H : Heap} {locs : List Loc} {ls : Array Slot} (hR : Rel v g y z) (hP : va_P (dC, dI) clA (wW cI cZ cJ o fo a v g am y z) H) (hD : va_D (fun q : Nat => s.heap.size ≤ q) (wW cI cZ cJ o fo a v g am y z)) (hS : va_S (fun q : Nat => s.heap.size ≤ q) s.heap H locs) (hl : lv_has ls 7 [(0, .ref b), (1, .ref (a 0)), (2, .ref (am 0)), (3, .ref o), (4, .int (nI i))])
    (kk : ∀ (v1 : Nat → Int32) (g1 : Nat → Nat → Int32) (y1 : Nat → Int32) (z1 : Nat → Nat → Int32) (fo1 : Nat → Int64) (H1 : Heap) (locs1 : List Loc) (ls1 : Array Slot), Rel v1 g1 y1 z1 → va_P (dC, dI) clA (wW cI cZ cJ o fo1 a v1 g1 am y1 z1) H1 → va_D (fun q : Nat => s.heap.size ≤ q) (wW cI cZ cJ o fo1 a v1 g1 am y1 z1) → va_S (fun q : Nat => s.heap.size ≤ q) s.heap H1 locs1 → lv_has ls1 7 [(0, .ref b), (1, .ref (a 0)), (2, .ref (am 0)), (3, .ref o), (4, .int (nI i))] → W p l e room_1 s m #[Value.ref b] below meth c H1 locs1 (cells + 7) (slots + 42) Q (F0 m 1176 ls1 [])) : W p l e room_1 s m #[Value.ref b] below meth c H locs cells slots Q (F0 m 33 ls []) := by
  refine lv_aload_n hx hb dL_law_33 rfl (lv_at hl 0 rfl) ?_
  refine lv_iload hx hb dL_law_34 (lv_at hl 4 rfl) ?_
  refine va_sld (A := (fun q : Nat => s.heap.size ≤ q)) hx hb hX hbl (Nat.not_le.mpr hbl) hS (vp_in_nI (show i < L by omega) (by omega)) dL_law_36 ?_
  refine lv_bipush (v := 31) hx hb dL_law_37 (by decide) ?_
  refine lv_iand hx hb dL_law_39 ?_
  obtain ⟨j, hj, ej⟩ := pk_andE (xs (nI i).toNatClampNeg) (m := 31) 5 (by decide)
  rw [ej]
  by_cases h18 : j < 18
  · rcases (show j = 0 ∨ j = 1 ∨ j = 2 ∨ j = 3 ∨ j = 4 ∨ j = 5 ∨ j = 6 ∨ j = 7 ∨ j = 8 ∨ j = 9 ∨ j = 10 ∨ j = 11 ∨ j = 12 ∨ j = 13 ∨ j = 14 ∨ j = 15 ∨ j = 16 ∨ j = 17 by omega) with rfl | rfl | rfl | rfl | rfl | rfl | rfl | rfl | rfl | rfl | rfl | rfl | rfl | rfl | rfl | rfl | rfl | rfl
    · refine lv_tableIn (off := 88) (tgt := 128) hx hb dL_law_40 (by decide +kernel) (by decide +kernel) (by decide +kernel) (by decide) ?_
      exact law_row hl9 hx hb hml hown hts hX hbl hK hZ hC hi hL hce hsl hR hP hD hS hl kk
    · refine lv_tableIn (off := 206) (tgt := 246) hx hb dL_law_40 (by decide +kernel) (by decide +kernel) (by decide +kernel) (by decide) ?_
      exact law_values hl9 hx hb hml hown hts hX hbl hK hZ hC hi hL hce hsl hR hP hD hS hl kk
    · refine lv_tableIn (off := 266) (tgt := 306) hx hb dL_law_40 (by decide +kernel) (by decide +kernel) (by decide +kernel) (by decide) ?_
      exact law_define hl9 hx hb hml hown hts hX hbl hK hZ hC hi hL hce hsl hR hP hD hS hl kk
    · refine lv_tableIn (off := 334) (tgt := 374) hx hb dL_law_40 (by decide +kernel) (by decide +kernel) (by decide +kernel) (by decide) ?_
      exact law_ask hl9 hx hb hml hown hts hX hbl hK hZ hC hi hL hce hsl hR hP hD hS hl kk
    · refine lv_tableIn (off := 406) (tgt := 446) hx hb dL_law_40 (by decide +kernel) (by decide +kernel) (by decide +kernel) (by decide) ?_
      exact law_count hl9 hx hb hml hown hts hX hbl hK hZ hC hi hL hce hsl hR hP hD hS hl kk
    · refine lv_tableIn (off := 462) (tgt := 502) hx hb dL_law_40 (by decide +kernel) (by decide +kernel) (by decide +kernel) (by decide) ?_
      exact law_hour hl9 hx hb hml hown hts hX hbl hK hZ hC hi hL hce hsl hR hP hD hS hl kk
    · refine lv_tableIn (off := 518) (tgt := 558) hx hb dL_law_40 (by decide +kernel) (by decide +kernel) (by decide +kernel) (by decide) ?_
      exact law_share hl9 hx hb hml hown hts hX hbl hK hZ hC hi hL hce hsl hR hP hD hS hl kk
    · refine lv_tableIn (off := 574) (tgt := 614) hx hb dL_law_40 (by decide +kernel) (by decide +kernel) (by decide +kernel) (by decide) ?_
      exact law_placed hl9 hx hb hml hown hts hX hbl hK hZ hC hi hL hce hsl hR hP hD hS hl kk
    · refine lv_tableIn (off := 630) (tgt := 670) hx hb dL_law_40 (by decide +kernel) (by decide +kernel) (by decide +kernel) (by decide) ?_
      exact law_splits hl9 hx hb hml hown hts hX hbl hK hZ hC hi hL hce hsl hR hP hD hS hl kk
    · refine lv_tableIn (off := 643) (tgt := 683) hx hb dL_law_40 (by decide +kernel) (by decide +kernel) (by decide +kernel) (by decide) ?_
      exact law_compare hl9 hx hb hml hown hts hX hbl hK hZ hC hi hL hce hsl hR hP hD hS hl kk
    · refine lv_tableIn (off := 711) (tgt := 751) hx hb dL_law_40 (by decide +kernel) (by decide +kernel) (by decide +kernel) (by decide) ?_
      exact law_trend hl9 hx hb hml hown hts hX hbl hK hZ hC hi hL hce hsl hR hP hD hS hl kk
    · refine lv_tableIn (off := 803) (tgt := 843) hx hb dL_law_40 (by decide +kernel) (by decide +kernel) (by decide +kernel) (by decide) ?_
      exact law_people hl9 hx hb hml hown hts hX hbl hK hZ hC hi hL hce hsl hR hP hD hS hl kk
    · refine lv_tableIn (off := 851) (tgt := 891) hx hb dL_law_40 (by decide +kernel) (by decide +kernel) (by decide +kernel) (by decide) ?_
      exact law_perThousand hl9 hx hb hml hown hts hX hbl hK hZ hC hi hL hce hsl hR hP hD hS hl kk
    · refine lv_tableIn (off := 907) (tgt := 947) hx hb dL_law_40 (by decide +kernel) (by decide +kernel) (by decide +kernel) (by decide) ?_
      exact law_rank hl9 hx hb hml hown hts hX hbl hK hZ hC hi hL hce hsl hR hP hD hS hl kk
    · refine lv_tableIn (off := 963) (tgt := 1003) hx hb dL_law_40 (by decide +kernel) (by decide +kernel) (by decide +kernel) (by decide) ?_
      exact law_least hl9 hx hb hml hown hts hX hbl hK hZ hC hi hL hce hsl hR hP hD hS hl kk
    · refine lv_tableIn (off := 999) (tgt := 1039) hx hb dL_law_40 (by decide +kernel) (by decide +kernel) (by decide +kernel) (by decide) ?_
      exact law_shown hl9 hx hb hml hown hts hX hbl hK hZ hC hi hL hce hsl hR hP hD hS hl kk
    · refine lv_tableIn (off := 1055) (tgt := 1095) hx hb dL_law_40 (by decide +kernel) (by decide +kernel) (by decide +kernel) (by decide) ?_
      exact law_joined hl9 hx hb hml hown hts hX hbl hK hZ hC hi hL hce hsl hR hP hD hS hl kk
    · refine lv_tableIn (off := 1068) (tgt := 1108) hx hb dL_law_40 (by decide +kernel) (by decide +kernel) (by decide +kernel) (by decide) ?_
      exact law_work hl9 hx hb hml hown hts hX hbl hK hZ hC hi hL hce hsl hR hP hD hS hl kk
  · refine lv_tableOut (tgt := 1176) hx hb dL_law_40 (Or.inr (by rw [nI_toInt (by omega)]; omega)) (by decide) ?_
    refine W.widen (k := cells + 7) (n := slots + 42) (by omega) (by omega) ?_
    exact kk v g y z fo H locs ls hR hP hD hS hl
theorem lw_exit {p : Program} {l : Launch} {e : Env} {s : State} {m : MethodId} {below : List Frame} {meth : Method} {c : Code} {b : Nat} (hx : p.tables.exec = Jvm.exec) (hb : c.code = code) (hr : meth.sig.returnType = ret) (hlocks : meth.locks = false) {cells slots : Nat} (hce : cells ≤ 601024) (hsl : slots ≤ 7293034) {H : Heap} {locs : List Loc} {ls : Array Slot} (hS : va_S (fun q : Nat => s.heap.size ≤ q) s.heap H locs) : W p l e room_1 s m #[Value.ref b] below meth c H locs cells slots (lw_Z below #[Value.ref b] s) (F0 m 1182 ls []) := by
  refine lv_iconst (v := 1) hx hb dL_law_1182 (by decide) ?_
  refine va_forget hS.2.2 ?_
  refine W.widen (k := 601024) (n := 7293034) hce hsl ?_
  exact lw_ret hx hb hr hlocks dL_law_1183
set_option maxHeartbeats 4000000 in
set_option maxRecDepth 100000 in
theorem lw_loop {p : Program} {l : Launch} {e : Env} {s : State} {m : MethodId} {below : List Frame} {meth : Method} {c : Code} {c0 : Cond} {b L : Nat} {xs : Nat → Int32} {dC : Nat → ClassId} {dI : Nat → Nat → Nat} {cI cZ cJ : ClassId} {a am : Nat → Nat} {o : Nat} {tx : Nat → Nat}
    (hl9 : l.stackTraces = false) (hx : p.tables.exec = Jvm.exec) (hb : c.code = code) (hml : c.maxLocals = 7) (hown : s.vm.findClass RL = some m.cls) (hts : ∀ w ∈ c0 :: allW, w.before #[Value.ref b] s = true) (hX : va_X b L xs s s.heap) (hbl : b < s.heap.size) (hK : va_K (dC, dI) clA (tyA cI cZ cJ) s) (hZ : ZX tx (fun q : Nat => s.heap.size ≤ q) s s.heap) (hC : ZC s) (hr : meth.sig.returnType = ret) (hlocks : meth.locks = false) (hL : L ≤ 3584) :
    ∀ (N i cells slots : Nat), L < i + 7 * N → i ≤ L + 7 → cells + 7 * N ≤ 601024 → slots + 42 * N ≤ 7293034 → ∀ {v : Nat → Int32} {g : Nat → Nat → Int32} {y : Nat → Int32} {z : Nat → Nat → Int32} {fo : Nat → Int64} {H : Heap} {locs : List Loc} {ls : Array Slot}, Rel v g y z → va_P (dC, dI) clA (wW cI cZ cJ o fo a v g am y z) H → va_D (fun q : Nat => s.heap.size ≤ q) (wW cI cZ cJ o fo a v g am y z) → va_S (fun q : Nat => s.heap.size ≤ q) s.heap H locs → lv_has ls 7 [(0, .ref b), (1, .ref (a 0)), (2, .ref (am 0)), (3, .ref o), (4, .int (nI i))] → W p l e room_1 s m #[Value.ref b] below meth c H locs cells slots (lw_Z below #[Value.ref b] s) (F0 m 23 ls []) := by
  intro N
  induction N with
  | zero =>
    intro i cells slots h1 h2 h3 h4 v g y z fo H locs ls hR hP hD hS hl
    refine lw_head hx hb hX hbl (by omega) hL hS hl (fun _ => ?_) (fun h => absurd h (by omega))
    exact lw_exit hx hb hr hlocks (by omega) (by omega) hS
  | succ N ih =>
    intro i cells slots h1 h2 h3 h4 v g y z fo H locs ls hR hP hD hS hl
    refine lw_head hx hb hX hbl (by omega) hL hS hl (fun _ => ?_) (fun h => ?_)
    · exact lw_exit hx hb hr hlocks (by omega) (by omega) hS
    · refine lw_switch hl9 hx hb hml hown hts hX hbl hK hZ hC h hL (by omega) (by omega) hR hP hD hS hl (fun v1 g1 y1 z1 fo1 H1 locs1 ls1 hR1 hP1 hD1 hS1 hl1 => ?_)
      refine lv_iinc (v := nI (i + 7)) (lv' := [(4, .int (nI (i + 7))), (0, .ref b), (1, .ref (a 0)), (2, .ref (am 0)), (3, .ref o)]) hx hb dL_law_1176 hl1 (k := 4) rfl (nI_add i 7) (by decide) rfl (fun ls hl => ?_)
      refine lv_goto (tgt := 23) hx hb dL_law_1179 (by decide) ?_
      exact ih (i + 7) (cells + 7) (slots + 42) (by omega) (by omega) (by omega) (by omega) hR1 hP1 hD1 hS1 (lv_sub hl [1, 2, 3, 4, 0] rfl)
