/-- what throwing needs of the tables, beside the good words -/
def ZW (U : State) : Prop := va_Nw (.declares ⟨"java/lang/RuntimeException", "<init>", "(Ljava/lang/String;)V"⟩) U ∧ va_Nw (.declares ⟨"java/lang/Exception", "<init>", "(Ljava/lang/String;)V"⟩) U ∧ va_Nw (.declares ⟨"java/lang/Throwable", "<init>", "(Ljava/lang/String;)V"⟩) U ∧ va_Nw (.castable "java/lang/IllegalArgumentException" "java/lang/IllegalArgumentException") U ∧ va_Nw (.castable "java/lang/IndexOutOfBoundsException" "java/lang/IndexOutOfBoundsException") U ∧ va_Nw (.castable "java/lang/UnsupportedOperationException" "java/lang/UnsupportedOperationException") U ∧ va_Nw (.castable "java/lang/ArithmeticException" "java/lang/ArithmeticException") U
/-- what throwing needs: the two statics of Throwable, the texts, the tables -/
def ZX (tx : Nat → Nat) (A : Nat → Prop) (U : State) (H : Heap) : Prop := vx_Zq Bundle.tN "UNASSIGNED_STACK" Bundle.steD A U H ∧ vx_Zq Bundle.tN "SUPPRESSED_SENTINEL" Bundle.listD A U H ∧ vk_R RX4 179 "an unknown number" (tx 0) U ∧ vk_R RX4 184 "a number outside its range" (tx 1) U ∧ vk_R RX4 68 "no room for one more row" (tx 2) U ∧ vk_R RX4 85 "no room for one more definition" (tx 3) U ∧ vk_R RX4 187 "a share of rows without alone" (tx 4) U ∧ vk_R RX4 148 "an area without people" (tx 5) U ∧ ZW U
theorem ZX.s179 {tx : Nat → Nat} {A : Nat → Prop} {U : State} {H : Heap} (h : ZX tx A U H) : vk_R RX4 179 "an unknown number" (tx 0) U := h.2.2.1
theorem ZX.s184 {tx : Nat → Nat} {A : Nat → Prop} {U : State} {H : Heap} (h : ZX tx A U H) : vk_R RX4 184 "a number outside its range" (tx 1) U := h.2.2.2.1
theorem ZX.s68 {tx : Nat → Nat} {A : Nat → Prop} {U : State} {H : Heap} (h : ZX tx A U H) : vk_R RX4 68 "no room for one more row" (tx 2) U := h.2.2.2.2.1
theorem ZX.s85 {tx : Nat → Nat} {A : Nat → Prop} {U : State} {H : Heap} (h : ZX tx A U H) : vk_R RX4 85 "no room for one more definition" (tx 3) U := h.2.2.2.2.2.1
theorem ZX.s187 {tx : Nat → Nat} {A : Nat → Prop} {U : State} {H : Heap} (h : ZX tx A U H) : vk_R RX4 187 "a share of rows without alone" (tx 4) U := h.2.2.2.2.2.2.1
theorem ZX.s148 {tx : Nat → Nat} {A : Nat → Prop} {U : State} {H : Heap} (h : ZX tx A U H) : vk_R RX4 148 "an area without people" (tx 5) U := h.2.2.2.2.2.2.2.1
theorem ZX.w {tx : Nat → Nat} {A : Nat → Prop} {U : State} {H : Heap} (h : ZX tx A U H) : ZW U := h.2.2.2.2.2.2.2.2
theorem ZW.w0 {U : State} (h : ZW U) : va_Nw (.declares ⟨"java/lang/RuntimeException", "<init>", "(Ljava/lang/String;)V"⟩) U := h.1
theorem ZW.w1 {U : State} (h : ZW U) : va_Nw (.declares ⟨"java/lang/Exception", "<init>", "(Ljava/lang/String;)V"⟩) U := h.2.1
theorem ZW.w2 {U : State} (h : ZW U) : va_Nw (.declares ⟨"java/lang/Throwable", "<init>", "(Ljava/lang/String;)V"⟩) U := h.2.2.1
theorem ZW.w3 {U : State} (h : ZW U) : va_Nw (.castable "java/lang/IllegalArgumentException" "java/lang/IllegalArgumentException") U := h.2.2.2.1
theorem ZW.w4 {U : State} (h : ZW U) : va_Nw (.castable "java/lang/IndexOutOfBoundsException" "java/lang/IndexOutOfBoundsException") U := h.2.2.2.2.1
theorem ZW.w5 {U : State} (h : ZW U) : va_Nw (.castable "java/lang/UnsupportedOperationException" "java/lang/UnsupportedOperationException") U := h.2.2.2.2.2.1
theorem ZW.w6 {U : State} (h : ZW U) : va_Nw (.castable "java/lang/ArithmeticException" "java/lang/ArithmeticException") U := h.2.2.2.2.2.2
theorem ZW.same {u U : State} (hv : u.vm = U.vm) (h : ZW u) : ZW U := ⟨va_Nw.same rfl hv h.w0, va_Nw.same rfl hv h.w1, va_Nw.same rfl hv h.w2, va_Nw.same rfl hv h.w3, va_Nw.same rfl hv h.w4, va_Nw.same rfl hv h.w5, va_Nw.same rfl hv h.w6⟩
theorem ZW.warm {s U : State} (hW : s.WarmedH U.vm) (h : ZW s) : ZW U := ⟨va_Nw.warmD hW h.w0, va_Nw.warmD hW h.w1, va_Nw.warmD hW h.w2, va_Nw.warmC hW h.w3, va_Nw.warmC hW h.w4, va_Nw.warmC hW h.w5, va_Nw.warmC hW h.w6⟩
theorem ZX.calling {tx : Nat → Nat} {A : Nat → Prop} {U : State} {g : JFrame} {mk : MethodId} {a : Array Value} (h : ZX tx A U U.heap) : ZX tx A (U.calling g mk a) (U.calling g mk a).heap := ⟨vx_Zq.moved (u := U) (U := U.calling g mk a) (Vm.Alike.refl U.vm) h.1, vx_Zq.moved (u := U) (U := U.calling g mk a) (Vm.Alike.refl U.vm) h.2.1, vk_R.same (u := U) (U := U.calling g mk a) rfl h.s179, vk_R.same (u := U) (U := U.calling g mk a) rfl h.s184, vk_R.same (u := U) (U := U.calling g mk a) rfl h.s68, vk_R.same (u := U) (U := U.calling g mk a) rfl h.s85, vk_R.same (u := U) (U := U.calling g mk a) rfl h.s187, vk_R.same (u := U) (U := U.calling g mk a) rfl h.s148, ZW.same (u := U) (U := U.calling g mk a) rfl h.w⟩
theorem ZX.call {tx : Nat → Nat} {A B : Nat → Prop} {s U : State} {H : Heap} {locs : List Loc} (h : ZX tx A s s.heap) (hS : va_S A s.heap H locs) (hF : ∀ q, B q → A q) (hW : s.WarmedH U.vm) (hU : U.heap = H) : ZX tx B U U.heap := by
  rw [hU]
  exact ⟨vx_Zq.moved hW.alike ((h.1.kept hS.2.1).narrow hF), vx_Zq.moved hW.alike ((h.2.1.kept hS.2.1).narrow hF), vk_R.warm hW h.s179, vk_R.warm hW h.s184, vk_R.warm hW h.s68, vk_R.warm hW h.s85, vk_R.warm hW h.s187, vk_R.warm hW h.s148, h.w.warm hW⟩
theorem at_ArithmeticException_150 : ∀ w ∈ vx_atS RX4 150 "java/lang/ArithmeticException" ["java/lang/RuntimeException", "java/lang/Exception"], w ∈ lw_tbl := by decide +kernel
theorem hat_ArithmeticException_150 {c0 : Cond} {args : Array Value} {s : State} {tx : Nat → Nat} {A : Nat → Prop} {H : Heap} (hts : ∀ w ∈ c0 :: allW, w.before args s = true) (hZ : ZX tx A s H) : ∀ w ∈ vx_atS RX4 150 "java/lang/ArithmeticException" ["java/lang/RuntimeException", "java/lang/Exception"], w.before args s = true := vx_hat (B := [.declares ⟨"java/lang/RuntimeException", "<init>", "(Ljava/lang/String;)V"⟩, .declares ⟨"java/lang/Exception", "<init>", "(Ljava/lang/String;)V"⟩, .declares ⟨"java/lang/Throwable", "<init>", "(Ljava/lang/String;)V"⟩, .castable "java/lang/ArithmeticException" "java/lang/ArithmeticException"]) (fun w hw => hts w (List.mem_cons_of_mem _ (List.mem_filter.mpr ⟨at_ArithmeticException_150 w (List.mem_filter.mp hw).1, (List.mem_filter.mp hw).2⟩))) (by decide +kernel) (vx_c (va_Nw.use rfl hZ.w.w0) (vx_c (va_Nw.use rfl hZ.w.w1) (vx_c (va_Nw.use rfl hZ.w.w2) (vx_c (va_Nw.use rfl hZ.w.w6) vx_n))))
theorem gw_ArithmeticException_146_150 : ∀ w ∈ Cond.classLink RX4 146 "java/lang/ArithmeticException" :: Cond.initialized "java/lang/ArithmeticException" :: vx_atS RX4 150 "java/lang/ArithmeticException" ["java/lang/RuntimeException", "java/lang/Exception"], vx_ot w = true := by decide +kernel
theorem at_IllegalArgumentException_181 : ∀ w ∈ vx_atS RX4 181 "java/lang/IllegalArgumentException" ["java/lang/RuntimeException", "java/lang/Exception"], w ∈ lw_tbl := by decide +kernel
theorem hat_IllegalArgumentException_181 {c0 : Cond} {args : Array Value} {s : State} {tx : Nat → Nat} {A : Nat → Prop} {H : Heap} (hts : ∀ w ∈ c0 :: allW, w.before args s = true) (hZ : ZX tx A s H) : ∀ w ∈ vx_atS RX4 181 "java/lang/IllegalArgumentException" ["java/lang/RuntimeException", "java/lang/Exception"], w.before args s = true := vx_hat (B := [.declares ⟨"java/lang/RuntimeException", "<init>", "(Ljava/lang/String;)V"⟩, .declares ⟨"java/lang/Exception", "<init>", "(Ljava/lang/String;)V"⟩, .declares ⟨"java/lang/Throwable", "<init>", "(Ljava/lang/String;)V"⟩, .castable "java/lang/IllegalArgumentException" "java/lang/IllegalArgumentException"]) (fun w hw => hts w (List.mem_cons_of_mem _ (List.mem_filter.mpr ⟨at_IllegalArgumentException_181 w (List.mem_filter.mp hw).1, (List.mem_filter.mp hw).2⟩))) (by decide +kernel) (vx_c (va_Nw.use rfl hZ.w.w0) (vx_c (va_Nw.use rfl hZ.w.w1) (vx_c (va_Nw.use rfl hZ.w.w2) (vx_c (va_Nw.use rfl hZ.w.w3) vx_n))))
theorem gw_IllegalArgumentException_177_181 : ∀ w ∈ Cond.classLink RX4 177 "java/lang/IllegalArgumentException" :: Cond.initialized "java/lang/IllegalArgumentException" :: vx_atS RX4 181 "java/lang/IllegalArgumentException" ["java/lang/RuntimeException", "java/lang/Exception"], vx_ot w = true := by decide +kernel
theorem at_IndexOutOfBoundsException_186 : ∀ w ∈ vx_atS RX4 186 "java/lang/IndexOutOfBoundsException" ["java/lang/RuntimeException", "java/lang/Exception"], w ∈ lw_tbl := by decide +kernel
theorem hat_IndexOutOfBoundsException_186 {c0 : Cond} {args : Array Value} {s : State} {tx : Nat → Nat} {A : Nat → Prop} {H : Heap} (hts : ∀ w ∈ c0 :: allW, w.before args s = true) (hZ : ZX tx A s H) : ∀ w ∈ vx_atS RX4 186 "java/lang/IndexOutOfBoundsException" ["java/lang/RuntimeException", "java/lang/Exception"], w.before args s = true := vx_hat (B := [.declares ⟨"java/lang/RuntimeException", "<init>", "(Ljava/lang/String;)V"⟩, .declares ⟨"java/lang/Exception", "<init>", "(Ljava/lang/String;)V"⟩, .declares ⟨"java/lang/Throwable", "<init>", "(Ljava/lang/String;)V"⟩, .castable "java/lang/IndexOutOfBoundsException" "java/lang/IndexOutOfBoundsException"]) (fun w hw => hts w (List.mem_cons_of_mem _ (List.mem_filter.mpr ⟨at_IndexOutOfBoundsException_186 w (List.mem_filter.mp hw).1, (List.mem_filter.mp hw).2⟩))) (by decide +kernel) (vx_c (va_Nw.use rfl hZ.w.w0) (vx_c (va_Nw.use rfl hZ.w.w1) (vx_c (va_Nw.use rfl hZ.w.w2) (vx_c (va_Nw.use rfl hZ.w.w4) vx_n))))
theorem gw_IndexOutOfBoundsException_182_186 : ∀ w ∈ Cond.classLink RX4 182 "java/lang/IndexOutOfBoundsException" :: Cond.initialized "java/lang/IndexOutOfBoundsException" :: vx_atS RX4 186 "java/lang/IndexOutOfBoundsException" ["java/lang/RuntimeException", "java/lang/Exception"], vx_ot w = true := by decide +kernel
theorem at_UnsupportedOperationException_70 : ∀ w ∈ vx_atS RX4 70 "java/lang/UnsupportedOperationException" ["java/lang/RuntimeException", "java/lang/Exception"], w ∈ lw_tbl := by decide +kernel
theorem hat_UnsupportedOperationException_70 {c0 : Cond} {args : Array Value} {s : State} {tx : Nat → Nat} {A : Nat → Prop} {H : Heap} (hts : ∀ w ∈ c0 :: allW, w.before args s = true) (hZ : ZX tx A s H) : ∀ w ∈ vx_atS RX4 70 "java/lang/UnsupportedOperationException" ["java/lang/RuntimeException", "java/lang/Exception"], w.before args s = true := vx_hat (B := [.declares ⟨"java/lang/RuntimeException", "<init>", "(Ljava/lang/String;)V"⟩, .declares ⟨"java/lang/Exception", "<init>", "(Ljava/lang/String;)V"⟩, .declares ⟨"java/lang/Throwable", "<init>", "(Ljava/lang/String;)V"⟩, .castable "java/lang/UnsupportedOperationException" "java/lang/UnsupportedOperationException"]) (fun w hw => hts w (List.mem_cons_of_mem _ (List.mem_filter.mpr ⟨at_UnsupportedOperationException_70 w (List.mem_filter.mp hw).1, (List.mem_filter.mp hw).2⟩))) (by decide +kernel) (vx_c (va_Nw.use rfl hZ.w.w0) (vx_c (va_Nw.use rfl hZ.w.w1) (vx_c (va_Nw.use rfl hZ.w.w2) (vx_c (va_Nw.use rfl hZ.w.w5) vx_n))))
theorem gw_UnsupportedOperationException_66_70 : ∀ w ∈ Cond.classLink RX4 66 "java/lang/UnsupportedOperationException" :: Cond.initialized "java/lang/UnsupportedOperationException" :: vx_atS RX4 70 "java/lang/UnsupportedOperationException" ["java/lang/RuntimeException", "java/lang/Exception"], vx_ot w = true := by decide +kernel

def inU (x y : Int32) : Prop := 0 ≤ x ∧ x < y
def inR (x y z : Int32) : Prop := y ≤ x ∧ x ≤ z
def thr (E E1 : String) (B1 : Prop) (E2 : String) (B2 : Prop) (E3 : String) (B3 : Prop) : Prop := (E = E1 ∧ B1) ∨ (E = E2 ∧ ¬ B1 ∧ B2) ∨ (E = E3 ∧ ¬ B1 ∧ ¬ B2 ∧ B3)
theorem inU_nat {x : Int32} {n : Nat} (hn : n < 2 ^ 31) (h : inU x (nI n)) : ∃ k : Nat, k < n ∧ x = nI k := by
  obtain ⟨j, hj, rfl⟩ := nI_of (Int32.not_lt.mpr h.1)
  exact ⟨j, (nI_ltI hj hn).mp h.2, rfl⟩

set_option maxHeartbeats 4000000 in
set_option maxRecDepth 100000 in
theorem c_refU (l : Launch) (hl9 : l.stackTraces = false) (dC : Nat → ClassId) (dI : Nat → Nat → Nat) (cI cZ cJ : ClassId) (a : Nat → Nat) (tx : Nat → Nat) (v : Nat → Int32) (g : Nat → Nat → Int32) (sz : Nat) (x y : Int32) : vx_Met l yX4_refuseUnknown wsX4_refuseUnknown ({ frames := 8, cells := 1, slots := 6, locals := 120 }) (va_Pc [.int x, .int y] (fun U => U.heap.size = sz ∧ va_P (dC, dI) clA (wA cI cZ a v g) U.heap ∧ va_K (dC, dI) clA (tyA cI cZ cJ) U ∧ va_D (fun _ => True) (wA cI cZ a v g) ∧ ZX tx (va_A (wA cI cZ a v g) sz) U U.heap)) (va_Qv (fun (u : StA) => (inU x y) ∧ u = (v, g)) (atA dC dI cI cZ cJ a (va_A (wA cI cZ a v g) sz)) (va_A (wA cI cZ a v g) sz)) (vx_X (fun E : String => E = "java/lang/IllegalArgumentException" ∧ ¬ inU x y) (fun E1 E t => E1 = E ∧ atA dC dI cI cZ cJ a (va_A (wA cI cZ a v g) sz) (v, g) t) (va_A (wA cI cZ a v g) sz)) 1 6 (va_A (wA cI cZ a v g) sz) := by
  refine vx_ofW (cc := cX4_refuseUnknown) (maxL := 2) (ret := none) (by decide) rfl ?_
  intro p e s m args below meth c s₁ B hml hEx hv
  obtain ⟨rfl, hsz, hP, hK, hD0, hZ⟩ := hv
  have hx := B.exec
  have hb := B.bytes
  have hr := B.returns
  have hts := atoms_spec (ws := wsX4_refuseUnknown) B.pre
  have hown : s.vm.findClass RX4 = some m.cls := findClass_of_methodNamed B.named
  have hlocks := B.notSynchronized
  subst hsz
  have hD := hD0.self (sz := s.heap.size)
  generalize hAe : va_A (wA cI cZ a v g) s.heap.size = A at hD hZ ⊢
  have hA : ∀ q : Nat, s.heap.size ≤ q → A q := fun q h => by rw [← hAe]; exact Or.inr h
  have hS : va_S A s.heap s.heap [] := va_S.rf
  have hP : va_P (dC, dI) clA (wA cI cZ a v g) s.heap := hP
  have hl := lv_entry ([.int x, .int y]) (n := 2) (Nat.le_of_ble_eq_true rfl)
  rw [lg_entry_eq]
  generalize (lg_sl ([.int x, .int y]) ++ List.replicate (2 - (lg_sl ([.int x, .int y])).length) Slot.unset).toArray = ls at hl ⊢
  have hl : lv_has ls 2 [(0, .int x), (1, .int y)] := hl
  refine lv_iload_n hx hb dX4_refuseUnknown_0 rfl (lv_at hl 0 rfl) ?_
  refine lv_if_lt (tgt := 9) hx hb dX4_refuseUnknown_1 (by decide) (fun c1 => ?_) (fun c1 => ?_)
  · have n1 := Int32.not_le.mpr c1
    exact vx_throwS hx hb hl9 (own := RX4) (cls := "java/lang/IllegalArgumentException") (text := "an unknown number") (names := ["java/lang/RuntimeException", "java/lang/Exception"]) (ik := 177) (is := 179) (ic := 181) (A := A) hown (by decide +kernel) (by decide +kernel) (hts _ (List.mem_cons_of_mem _ cl_X4_IllegalArgumentException)) (hts _ (List.mem_cons_of_mem _ in_IllegalArgumentException)) (ZX.s179 hZ) (fun w h => hat_IllegalArgumentException_181 hts hZ w h) gw_IllegalArgumentException_177_181 hZ.1 hZ.2.1 hS (by rw [hml]; exact hl.1) dX4_refuseUnknown_9 dX4_refuseUnknown_12 dX4_refuseUnknown_13 dX4_refuseUnknown_15 dX4_refuseUnknown_18 (fun x h => (hEx x h).elim) (by decide) (by decide) (by decide) (by decide) hlocks (fun t9 hal h1 h2 => ⟨"java/lang/IllegalArgumentException", ⟨rfl, by simp [inU, c1, n1]⟩, ⟨rfl, hP.kept (fun k q hk => h2 q.1 ((hP k q hk).lt)), va_K.moved hal hK, hD⟩, ⟨Nat.le_trans hS.1 h1, fun q h3 h4 => (h2 q (Nat.lt_of_lt_of_le h3 hS.1)).trans (hS.2.1 q h3 h4)⟩⟩) hS.2.2 (by decide) (by decide)
  · have n1 := Int32.not_lt.mp c1
    refine lv_iload_n hx hb dX4_refuseUnknown_4 rfl (lv_at hl 0 rfl) ?_
    refine lv_iload_n hx hb dX4_refuseUnknown_5 rfl (lv_at hl 1 rfl) ?_
    refine lv_icmp_lt (tgt := 19) hx hb dX4_refuseUnknown_6 (by decide) (fun c6 => ?_) (fun c6 => ?_)
    · have n6 := Int32.not_le.mpr c6
      refine W.widen (k := 1) (n := 6) (by decide) (by decide) ?_
      exact vx_ret (W.vret hx hb hr (fun t9 ht hW => ⟨⟨(v, g), rfl, ⟨⟨n1, c6⟩, rfl⟩, ⟨by rw [ht]; exact hP, va_K.moved hW.alike hK, hD⟩⟩, hS.F ht⟩) hS.2.2 dX4_refuseUnknown_19)
    · have n6 := Int32.not_lt.mp c6
      exact vx_throwS hx hb hl9 (own := RX4) (cls := "java/lang/IllegalArgumentException") (text := "an unknown number") (names := ["java/lang/RuntimeException", "java/lang/Exception"]) (ik := 177) (is := 179) (ic := 181) (A := A) hown (by decide +kernel) (by decide +kernel) (hts _ (List.mem_cons_of_mem _ cl_X4_IllegalArgumentException)) (hts _ (List.mem_cons_of_mem _ in_IllegalArgumentException)) (ZX.s179 hZ) (fun w h => hat_IllegalArgumentException_181 hts hZ w h) gw_IllegalArgumentException_177_181 hZ.1 hZ.2.1 hS (by rw [hml]; exact hl.1) dX4_refuseUnknown_9 dX4_refuseUnknown_12 dX4_refuseUnknown_13 dX4_refuseUnknown_15 dX4_refuseUnknown_18 (fun x h => (hEx x h).elim) (by decide) (by decide) (by decide) (by decide) hlocks (fun t9 hal h1 h2 => ⟨"java/lang/IllegalArgumentException", ⟨rfl, by simp [inU, c1, n1, c6, n6]⟩, ⟨rfl, hP.kept (fun k q hk => h2 q.1 ((hP k q hk).lt)), va_K.moved hal hK, hD⟩, ⟨Nat.le_trans hS.1 h1, fun q h3 h4 => (h2 q (Nat.lt_of_lt_of_le h3 hS.1)).trans (hS.2.1 q h3 h4)⟩⟩) hS.2.2 (by decide) (by decide)
set_option maxHeartbeats 4000000 in
set_option maxRecDepth 100000 in
theorem c_refO (l : Launch) (hl9 : l.stackTraces = false) (dC : Nat → ClassId) (dI : Nat → Nat → Nat) (cI cZ cJ : ClassId) (a : Nat → Nat) (tx : Nat → Nat) (v : Nat → Int32) (g : Nat → Nat → Int32) (sz : Nat) (x y z : Int32) : vx_Met l yX4_refuseOutside wsX4_refuseOutside ({ frames := 8, cells := 1, slots := 6, locals := 120 }) (va_Pc [.int x, .int y, .int z] (fun U => U.heap.size = sz ∧ va_P (dC, dI) clA (wA cI cZ a v g) U.heap ∧ va_K (dC, dI) clA (tyA cI cZ cJ) U ∧ va_D (fun _ => True) (wA cI cZ a v g) ∧ ZX tx (va_A (wA cI cZ a v g) sz) U U.heap)) (va_Qv (fun (u : StA) => (inR x y z) ∧ u = (v, g)) (atA dC dI cI cZ cJ a (va_A (wA cI cZ a v g) sz)) (va_A (wA cI cZ a v g) sz)) (vx_X (fun E : String => E = "java/lang/IndexOutOfBoundsException" ∧ ¬ inR x y z) (fun E1 E t => E1 = E ∧ atA dC dI cI cZ cJ a (va_A (wA cI cZ a v g) sz) (v, g) t) (va_A (wA cI cZ a v g) sz)) 1 6 (va_A (wA cI cZ a v g) sz) := by
  refine vx_ofW (cc := cX4_refuseOutside) (maxL := 3) (ret := none) (by decide) rfl ?_
  intro p e s m args below meth c s₁ B hml hEx hv
  obtain ⟨rfl, hsz, hP, hK, hD0, hZ⟩ := hv
  have hx := B.exec
  have hb := B.bytes
  have hr := B.returns
  have hts := atoms_spec (ws := wsX4_refuseOutside) B.pre
  have hown : s.vm.findClass RX4 = some m.cls := findClass_of_methodNamed B.named
  have hlocks := B.notSynchronized
  subst hsz
  have hD := hD0.self (sz := s.heap.size)
  generalize hAe : va_A (wA cI cZ a v g) s.heap.size = A at hD hZ ⊢
  have hA : ∀ q : Nat, s.heap.size ≤ q → A q := fun q h => by rw [← hAe]; exact Or.inr h
  have hS : va_S A s.heap s.heap [] := va_S.rf
  have hP : va_P (dC, dI) clA (wA cI cZ a v g) s.heap := hP
  have hl := lv_entry ([.int x, .int y, .int z]) (n := 3) (Nat.le_of_ble_eq_true rfl)
  rw [lg_entry_eq]
  generalize (lg_sl ([.int x, .int y, .int z]) ++ List.replicate (3 - (lg_sl ([.int x, .int y, .int z])).length) Slot.unset).toArray = ls at hl ⊢
  have hl : lv_has ls 3 [(0, .int x), (1, .int y), (2, .int z)] := hl
  refine lv_iload_n hx hb dX4_refuseOutside_0 rfl (lv_at hl 0 rfl) ?_
  refine lv_iload_n hx hb dX4_refuseOutside_1 rfl (lv_at hl 1 rfl) ?_
  refine lv_icmp_lt (tgt := 10) hx hb dX4_refuseOutside_2 (by decide) (fun c2 => ?_) (fun c2 => ?_)
  · have n2 := Int32.not_le.mpr c2
    exact vx_throwS hx hb hl9 (own := RX4) (cls := "java/lang/IndexOutOfBoundsException") (text := "a number outside its range") (names := ["java/lang/RuntimeException", "java/lang/Exception"]) (ik := 182) (is := 184) (ic := 186) (A := A) hown (by decide +kernel) (by decide +kernel) (hts _ (List.mem_cons_of_mem _ cl_X4_IndexOutOfBoundsException)) (hts _ (List.mem_cons_of_mem _ in_IndexOutOfBoundsException)) (ZX.s184 hZ) (fun w h => hat_IndexOutOfBoundsException_186 hts hZ w h) gw_IndexOutOfBoundsException_182_186 hZ.1 hZ.2.1 hS (by rw [hml]; exact hl.1) dX4_refuseOutside_10 dX4_refuseOutside_13 dX4_refuseOutside_14 dX4_refuseOutside_16 dX4_refuseOutside_19 (fun x h => (hEx x h).elim) (by decide) (by decide) (by decide) (by decide) hlocks (fun t9 hal h1 h2 => ⟨"java/lang/IndexOutOfBoundsException", ⟨rfl, by simp [inR, c2, n2]⟩, ⟨rfl, hP.kept (fun k q hk => h2 q.1 ((hP k q hk).lt)), va_K.moved hal hK, hD⟩, ⟨Nat.le_trans hS.1 h1, fun q h3 h4 => (h2 q (Nat.lt_of_lt_of_le h3 hS.1)).trans (hS.2.1 q h3 h4)⟩⟩) hS.2.2 (by decide) (by decide)
  · have n2 := Int32.not_lt.mp c2
    refine lv_iload_n hx hb dX4_refuseOutside_5 rfl (lv_at hl 0 rfl) ?_
    refine lv_iload_n hx hb dX4_refuseOutside_6 rfl (lv_at hl 2 rfl) ?_
    refine lv_icmp_le (tgt := 20) hx hb dX4_refuseOutside_7 (by decide) (fun c7 => ?_) (fun c7 => ?_)
    · have n7 := Int32.not_lt.mpr c7
      refine W.widen (k := 1) (n := 6) (by decide) (by decide) ?_
      exact vx_ret (W.vret hx hb hr (fun t9 ht hW => ⟨⟨(v, g), rfl, ⟨⟨n2, c7⟩, rfl⟩, ⟨by rw [ht]; exact hP, va_K.moved hW.alike hK, hD⟩⟩, hS.F ht⟩) hS.2.2 dX4_refuseOutside_20)
    · have n7 := Int32.not_le.mp c7
      exact vx_throwS hx hb hl9 (own := RX4) (cls := "java/lang/IndexOutOfBoundsException") (text := "a number outside its range") (names := ["java/lang/RuntimeException", "java/lang/Exception"]) (ik := 182) (is := 184) (ic := 186) (A := A) hown (by decide +kernel) (by decide +kernel) (hts _ (List.mem_cons_of_mem _ cl_X4_IndexOutOfBoundsException)) (hts _ (List.mem_cons_of_mem _ in_IndexOutOfBoundsException)) (ZX.s184 hZ) (fun w h => hat_IndexOutOfBoundsException_186 hts hZ w h) gw_IndexOutOfBoundsException_182_186 hZ.1 hZ.2.1 hS (by rw [hml]; exact hl.1) dX4_refuseOutside_10 dX4_refuseOutside_13 dX4_refuseOutside_14 dX4_refuseOutside_16 dX4_refuseOutside_19 (fun x h => (hEx x h).elim) (by decide) (by decide) (by decide) (by decide) hlocks (fun t9 hal h1 h2 => ⟨"java/lang/IndexOutOfBoundsException", ⟨rfl, by simp [inR, c2, n2, c7, n7]⟩, ⟨rfl, hP.kept (fun k q hk => h2 q.1 ((hP k q hk).lt)), va_K.moved hal hK, hD⟩, ⟨Nat.le_trans hS.1 h1, fun q h3 h4 => (h2 q (Nat.lt_of_lt_of_le h3 hS.1)).trans (hS.2.1 q h3 h4)⟩⟩) hS.2.2 (by decide) (by decide)
set_option maxHeartbeats 4000000 in
set_option maxRecDepth 100000 in
theorem c_refS (l : Launch) (hl9 : l.stackTraces = false) (dC : Nat → ClassId) (dI : Nat → Nat → Nat) (cI cZ cJ : ClassId) (a : Nat → Nat) (tx : Nat → Nat) (v : Nat → Int32) (g : Nat → Nat → Int32) (sz : Nat) (x y : Int32) : vx_Met l yX4_refuseNoSpan wsX4_refuseNoSpan ({ frames := 9, cells := 2, slots := 12, locals := 142 }) (va_Pc [.int x, .int y] (fun U => U.heap.size = sz ∧ va_P (dC, dI) clA (wA cI cZ a v g) U.heap ∧ va_K (dC, dI) clA (tyA cI cZ cJ) U ∧ va_D (fun _ => True) (wA cI cZ a v g) ∧ ZX tx (va_A (wA cI cZ a v g) sz) U U.heap)) (va_Qv (fun (u : StA) => (inR x 0 9999 ∧ inR y x 9999) ∧ u = (v, g)) (atA dC dI cI cZ cJ a (va_A (wA cI cZ a v g) sz)) (va_A (wA cI cZ a v g) sz)) (vx_X (fun E : String => E = "java/lang/IndexOutOfBoundsException" ∧ ¬ (inR x 0 9999 ∧ inR y x 9999)) (fun E1 E t => E1 = E ∧ atA dC dI cI cZ cJ a (va_A (wA cI cZ a v g) sz) (v, g) t) (va_A (wA cI cZ a v g) sz)) 2 12 (va_A (wA cI cZ a v g) sz) := by
  refine vx_ofW (cc := cX4_refuseNoSpan) (maxL := 2) (ret := none) (by decide) rfl ?_
  intro p e s m args below meth c s₁ B hml hEx hv
  obtain ⟨rfl, hsz, hP, hK, hD0, hZ⟩ := hv
  have hx := B.exec
  have hb := B.bytes
  have hr := B.returns
  have hts := atoms_spec (ws := wsX4_refuseNoSpan) B.pre
  have hown : s.vm.findClass RX4 = some m.cls := findClass_of_methodNamed B.named
  have hlocks := B.notSynchronized
  subst hsz
  have hD := hD0.self (sz := s.heap.size)
  generalize hAe : va_A (wA cI cZ a v g) s.heap.size = A at hD hZ ⊢
  have hA : ∀ q : Nat, s.heap.size ≤ q → A q := fun q h => by rw [← hAe]; exact Or.inr h
  have hS : va_S A s.heap s.heap [] := va_S.rf
  have hP : va_P (dC, dI) clA (wA cI cZ a v g) s.heap := hP
  have hl := lv_entry ([.int x, .int y]) (n := 2) (Nat.le_of_ble_eq_true rfl)
  rw [lg_entry_eq]
  generalize (lg_sl ([.int x, .int y]) ++ List.replicate (2 - (lg_sl ([.int x, .int y])).length) Slot.unset).toArray = ls at hl ⊢
  have hl : lv_has ls 2 [(0, .int x), (1, .int y)] := hl
  refine lv_iload_n hx hb dX4_refuseNoSpan_0 rfl (lv_at hl 0 rfl) ?_
  refine lv_iconst (v := 0) hx hb dX4_refuseNoSpan_1 (by decide) ?_
  refine lv_sipush (v := 9999) hx hb dX4_refuseNoSpan_2 (by decide) ?_
  have hFc := va_free (wc := (wA cI cZ a v g)) hD hS hA [0, 1, 2, 3, 4, 5, 6, 7, 8, 9, 10, 11, 12, 13, 14, 15, 16, 17, 18, 19] rfl
  refine vx_callv (vx_runS (As := [.int x, .int 0, .int 9999]) (rest := []) ⟨hx, hb, hml, hown, hts⟩ (c_refO l hl9 dC dI cI cZ cJ a tx v g s.heap.size x 0 9999) (cwS 3 hts (gd_S ml_X4_X4_refuseOutside sm_X4_refuseOutside in_X4 kX4_refuseOutside) rfl rfl rfl (by decide +kernel) ⟨Nat.le_of_ble_eq_true rfl, Nat.le_of_ble_eq_true rfl⟩) ⟨fun _ U g mk q => by obtain ⟨q0, q1, qP, qK, qD, qZ⟩ := q; exact ⟨q0, q1, qP, va_K.moved (u := U) (U := U.calling g mk _) (Vm.Alike.refl U.vm) qK, qD, ZX.calling qZ⟩, fun U hU hW => ⟨rfl, by rw [hU], by rw [hU]; exact hP, va_K.moved hW.alike hK, hD.weaken (fun _ _ _ _ => trivial), ZX.call hZ hS hFc hW hU⟩⟩ rfl rfl hl.1 rfl (lv_room (Nat.le_of_ble_eq_true rfl)) dX4_refuseNoSpan_5 ⟨Nat.le_of_ble_eq_true rfl, Nat.le_of_ble_eq_true rfl⟩) hS (fun q _ h => hFc q h) hFc (fun q _ h => hFc q h) (fun E5 ce q9 u9 t9 H1 locs ht hvm hp hB hz1 hk1 hS hcell hcv hcl => ?_) (fun u9 t9 H1 locs ht hvm hw hB hz1 hk1 hS => ?_)
  · obtain ⟨rfl, hP1, hK1, hD1⟩ := hB
    rw [ht] at hP1
    have hD := hD1.weaken (fun k q _ h => hFc q.1 h)
    exact vx_out (fun x h => (hEx x h).elim) hlocks hcell hcv hcl (fun t8 ht2 hal => ⟨_, ⟨hp.1, fun h => hp.2 h.1⟩, ⟨rfl, by rw [ht2]; exact hP1, va_K.moved hal hK, hD⟩, hS.F ht2⟩) hS.2.2 (by decide) (by decide)
  · obtain ⟨ok5, rfl⟩ := hw
    obtain ⟨hP, hK1, hD1⟩ := hB
    rw [ht] at hP
    have hD := hD1.weaken (fun k q _ h => hFc q.1 h)
    clear hFc hk1 hD1 hK1
    generalize H1 = H at hP hS ⊢
    have hP : va_P (dC, dI) clA (wA cI cZ a v g) H := hP
    have hD : va_D A (wA cI cZ a v g) := hD
    refine lv_iload_n hx hb dX4_refuseNoSpan_8 rfl (lv_at hl 1 rfl) ?_
    refine lv_iload_n hx hb dX4_refuseNoSpan_9 rfl (lv_at hl 0 rfl) ?_
    refine lv_sipush (v := 9999) hx hb dX4_refuseNoSpan_10 (by decide) ?_
    have hFc := va_free (wc := (wA cI cZ a v g)) hD hS hA [0, 1, 2, 3, 4, 5, 6, 7, 8, 9, 10, 11, 12, 13, 14, 15, 16, 17, 18, 19] rfl
    refine vx_callv (vx_runS (As := [.int y, .int x, .int 9999]) (rest := []) ⟨hx, hb, hml, hown, hts⟩ (c_refO l hl9 dC dI cI cZ cJ a tx v g H.size y x 9999) (cwS 3 hts (gd_S ml_X4_X4_refuseOutside sm_X4_refuseOutside in_X4 kX4_refuseOutside) rfl rfl rfl (by decide +kernel) ⟨Nat.le_of_ble_eq_true rfl, Nat.le_of_ble_eq_true rfl⟩) ⟨fun _ U g mk q => by obtain ⟨q0, q1, qP, qK, qD, qZ⟩ := q; exact ⟨q0, q1, qP, va_K.moved (u := U) (U := U.calling g mk _) (Vm.Alike.refl U.vm) qK, qD, ZX.calling qZ⟩, fun U hU hW => ⟨rfl, by rw [hU], by rw [hU]; exact hP, va_K.moved hW.alike hK, hD.weaken (fun _ _ _ _ => trivial), ZX.call hZ hS hFc hW hU⟩⟩ rfl rfl hl.1 rfl (lv_room (Nat.le_of_ble_eq_true rfl)) dX4_refuseNoSpan_13 ⟨Nat.le_of_ble_eq_true rfl, Nat.le_of_ble_eq_true rfl⟩) hS (fun q _ h => hFc q h) hFc (fun q _ h => hFc q h) (fun E13 ce q9 u9 t9 H1 locs ht hvm hp hB hz1 hk1 hS hcell hcv hcl => ?_) (fun u9 t9 H1 locs ht hvm hw hB hz1 hk1 hS => ?_)
    · obtain ⟨rfl, hP1, hK1, hD1⟩ := hB
      rw [ht] at hP1
      have hD := hD1.weaken (fun k q _ h => hFc q.1 h)
      exact vx_out (fun x h => (hEx x h).elim) hlocks hcell hcv hcl (fun t8 ht2 hal => ⟨_, ⟨hp.1, fun h => hp.2 h.2⟩, ⟨rfl, by rw [ht2]; exact hP1, va_K.moved hal hK, hD⟩, hS.F ht2⟩) hS.2.2 (by decide) (by decide)
    · obtain ⟨ok13, rfl⟩ := hw
      obtain ⟨hP, hK1, hD1⟩ := hB
      rw [ht] at hP
      have hD := hD1.weaken (fun k q _ h => hFc q.1 h)
      clear hFc hk1 hD1 hK1
      generalize H1 = H at hP hS ⊢
      have hP : va_P (dC, dI) clA (wA cI cZ a v g) H := hP
      have hD : va_D A (wA cI cZ a v g) := hD
      exact vx_ret (W.vret hx hb hr (fun t9 ht hW => ⟨⟨(v, g), rfl, ⟨⟨ok5, ok13⟩, rfl⟩, ⟨by rw [ht]; exact hP, va_K.moved hW.alike hK, hD⟩⟩, hS.F ht⟩) hS.2.2 dX4_refuseNoSpan_16)
set_option maxHeartbeats 4000000 in
set_option maxRecDepth 100000 in
theorem c_refN (l : Launch) (hl9 : l.stackTraces = false) (dC : Nat → ClassId) (dI : Nat → Nat → Nat) (cI cZ cJ : ClassId) (a : Nat → Nat) (tx : Nat → Nat) (v : Nat → Int32) (g : Nat → Nat → Int32) (sz : Nat) (x : Int32) : vx_Met l yX4_refuseNoShare wsX4_refuseNoShare ({ frames := 8, cells := 1, slots := 6, locals := 120 }) (va_Pc [.int x] (fun U => U.heap.size = sz ∧ va_P (dC, dI) clA (wA cI cZ a v g) U.heap ∧ va_K (dC, dI) clA (tyA cI cZ cJ) U ∧ va_D (fun _ => True) (wA cI cZ a v g) ∧ ZX tx (va_A (wA cI cZ a v g) sz) U U.heap)) (va_Qv (fun (u : StA) => (0 < x) ∧ u = (v, g)) (atA dC dI cI cZ cJ a (va_A (wA cI cZ a v g) sz)) (va_A (wA cI cZ a v g) sz)) (vx_X (fun E : String => E = "java/lang/ArithmeticException" ∧ ¬ 0 < x) (fun E1 E t => E1 = E ∧ atA dC dI cI cZ cJ a (va_A (wA cI cZ a v g) sz) (v, g) t) (va_A (wA cI cZ a v g) sz)) 1 6 (va_A (wA cI cZ a v g) sz) := by
  refine vx_ofW (cc := cX4_refuseNoShare) (maxL := 1) (ret := none) (by decide) rfl ?_
  intro p e s m args below meth c s₁ B hml hEx hv
  obtain ⟨rfl, hsz, hP, hK, hD0, hZ⟩ := hv
  have hx := B.exec
  have hb := B.bytes
  have hr := B.returns
  have hts := atoms_spec (ws := wsX4_refuseNoShare) B.pre
  have hown : s.vm.findClass RX4 = some m.cls := findClass_of_methodNamed B.named
  have hlocks := B.notSynchronized
  subst hsz
  have hD := hD0.self (sz := s.heap.size)
  generalize hAe : va_A (wA cI cZ a v g) s.heap.size = A at hD hZ ⊢
  have hA : ∀ q : Nat, s.heap.size ≤ q → A q := fun q h => by rw [← hAe]; exact Or.inr h
  have hS : va_S A s.heap s.heap [] := va_S.rf
  have hP : va_P (dC, dI) clA (wA cI cZ a v g) s.heap := hP
  have hl := lv_entry ([.int x]) (n := 1) (Nat.le_of_ble_eq_true rfl)
  rw [lg_entry_eq]
  generalize (lg_sl ([.int x]) ++ List.replicate (1 - (lg_sl ([.int x])).length) Slot.unset).toArray = ls at hl ⊢
  have hl : lv_has ls 1 [(0, .int x)] := hl
  refine lv_iload_n hx hb dX4_refuseNoShare_0 rfl (lv_at hl 0 rfl) ?_
  refine lv_if_gt (tgt := 14) hx hb dX4_refuseNoShare_1 (by decide) (fun c1 => ?_) (fun c1 => ?_)
  · have n1 := Int32.not_le.mpr c1
    refine W.widen (k := 1) (n := 6) (by decide) (by decide) ?_
    exact vx_ret (W.vret hx hb hr (fun t9 ht hW => ⟨⟨(v, g), rfl, ⟨c1, rfl⟩, ⟨by rw [ht]; exact hP, va_K.moved hW.alike hK, hD⟩⟩, hS.F ht⟩) hS.2.2 dX4_refuseNoShare_14)
  · have n1 := Int32.not_lt.mp c1
    exact vx_throwS hx hb hl9 (own := RX4) (cls := "java/lang/ArithmeticException") (text := "a share of rows without alone") (names := ["java/lang/RuntimeException", "java/lang/Exception"]) (ik := 146) (is := 187) (ic := 150) (A := A) hown (by decide +kernel) (by decide +kernel) (hts _ (List.mem_cons_of_mem _ cl_X4_ArithmeticException)) (hts _ (List.mem_cons_of_mem _ in_ArithmeticException)) (ZX.s187 hZ) (fun w h => hat_ArithmeticException_150 hts hZ w h) gw_ArithmeticException_146_150 hZ.1 hZ.2.1 hS (by rw [hml]; exact hl.1) dX4_refuseNoShare_4 dX4_refuseNoShare_7 dX4_refuseNoShare_8 dX4_refuseNoShare_10 dX4_refuseNoShare_13 (fun x h => (hEx x h).elim) (by decide) (by decide) (by decide) (by decide) hlocks (fun t9 hal h1 h2 => ⟨"java/lang/ArithmeticException", ⟨rfl, c1⟩, ⟨rfl, hP.kept (fun k q hk => h2 q.1 ((hP k q hk).lt)), va_K.moved hal hK, hD⟩, ⟨Nat.le_trans hS.1 h1, fun q h3 h4 => (h2 q (Nat.lt_of_lt_of_le h3 hS.1)).trans (hS.2.1 q h3 h4)⟩⟩) hS.2.2 (by decide) (by decide)
