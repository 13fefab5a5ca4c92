
/-- which exceptions are no other ones -/
def ZC (U : State) : Prop := va_Nc "java/lang/IndexOutOfBoundsException" "java/lang/IllegalArgumentException" U ∧ va_Nc "java/lang/UnsupportedOperationException" "java/lang/IllegalArgumentException" U ∧ va_Nc "java/lang/UnsupportedOperationException" "java/lang/IndexOutOfBoundsException" U ∧ va_Nc "java/lang/ArithmeticException" "java/lang/IllegalArgumentException" U ∧ va_Nc "java/lang/ArithmeticException" "java/lang/IndexOutOfBoundsException" U
theorem ZC.moved {u U : State} (hvm : u.vm.Alike U.vm) (h : ZC u) : ZC U := ⟨h.1.moved hvm, h.2.1.moved hvm, h.2.2.1.moved hvm, h.2.2.2.1.moved hvm, h.2.2.2.2.moved hvm⟩
/-- the class's world, and the law's own cell for an answer -/
abbrev wL (cI cZ cJ : ClassId) (o : Nat) (fo : Nat → Int64) (a : Nat → Nat) (v : Nat → Int32) (g : Nat → Nat → Int32) : va_W := (o, .inl (cJ, 1, .inr (.inl fo))) :: wA cI cZ a v g
def trc (r : Int32) (B1 B2 B3 : Prop) : Prop := (r = 1 ∧ B1) ∨ (r = 2 ∧ ¬ B1 ∧ B2) ∨ (r = 3 ∧ ¬ B1 ∧ ¬ B2 ∧ B3)
set_option maxHeartbeats 4000000 in
set_option maxRecDepth 100000 in
theorem w_row (l : Launch) (hl9 : l.stackTraces = false) (dC : Nat → ClassId) (dI : Nat → Nat → Nat) (cI cZ cJ : ClassId) (a : Nat → Nat) (tx : Nat → Nat) (v : Nat → Int32) (g : Nat → Nat → Int32) (o : Nat) (fo : Nat → Int64) (sz : Nat) (n : Nat) (hn : v 5 = nI n) (hn2 : n ≤ 200) (d ho kd ar st mk : Int32) : Met l yL_row wsL_row ({ frames := 10, cells := 7, slots := 42, locals := 168 }) (va_Pc [.ref (a 0), .int d, .int ho, .int kd, .int ar, .int st, .int mk, .ref o] (fun U => U.heap.size = sz ∧ va_P (dC, dI) clA (wL cI cZ cJ o fo a v g) U.heap ∧ va_K (dC, dI) clA (tyA cI cZ cJ) U ∧ va_D (fun _ => True) (wL cI cZ cJ o fo a v g) ∧ ZX tx (va_A (wL cI cZ cJ o fo a v g) sz) U U.heap ∧ ZC U)) (va_Qi (fun (r : Int32) (u : StA × (Nat → Int64)) => (r = 0 ∧ (inU kd 5 ∧ inU ar 10 ∧ inU st 6 ∧ inR d 0 9999 ∧ inR ho 0 23 ∧ inR mk 0 3 ∧ n < 200) ∧ u = ((upd v 5 (v 5 + 1), upg (upg (upg (upg (upg (upg (upg (upg g 3 n d) 4 n ho) 5 n kd) 6 n ar) 7 n st) 8 n mk) 9 n (-1)) 10 n (-1)), vp_updL fo 0 (v 5).toInt64)) ∨ (trc r (¬ inU kd 5 ∨ ¬ inU ar 10 ∨ ¬ inU st 6) (¬ inR d 0 9999 ∨ ¬ inR ho 0 23 ∨ ¬ inR mk 0 3) (n = 200) ∧ u = ((v, g), fo))) (fun u t9 => va_P (dC, dI) clA (wL cI cZ cJ o u.2 a u.1.1 u.1.2) t9.heap ∧ va_K (dC, dI) clA (tyA cI cZ cJ) t9 ∧ va_D (va_A (wL cI cZ cJ o fo a v g) sz) (wL cI cZ cJ o u.2 a u.1.1 u.1.2)) (va_A (wL cI cZ cJ o fo a v g) sz)) 7 42 (va_A (wL cI cZ cJ o fo a v g) sz) := by
  refine va_MetW (cc := cL_row) (maxL := 9) (ret := (some .int)) (by decide) rfl ?_
  intro p e s m args below meth c s₁ B hml hv
  obtain ⟨rfl, hsz, hP, hK, hD0, hZ, hC⟩ := hv
  have hx := B.exec
  have hb := B.bytes
  have hr := B.returns
  have hts := atoms_spec (ws := wsL_row) B.pre
  have hown : s.vm.findClass RL = some m.cls := findClass_of_methodNamed B.named
  have hlocks := B.notSynchronized
  have hTab := vx_table (x := yL_row) B (hts _ List.mem_cons_self)
  subst hsz
  have hD := hD0.self (sz := s.heap.size)
  generalize hAe : va_A (wL cI cZ cJ o fo a v g) s.heap.size = A at hD hZ ⊢
  have hA : ∀ q : Nat, s.heap.size ≤ q → A q := fun q h => by rw [← hAe]; exact Or.inr h
  have hS : va_S A s.heap s.heap [] := va_S.rf
  have hP : va_P (dC, dI) clA (wL cI cZ cJ o fo a v g) s.heap := hP
  have hl := lv_entry ([.ref (a 0), .int d, .int ho, .int kd, .int ar, .int st, .int mk, .ref o]) (n := 9) (Nat.le_of_ble_eq_true rfl)
  rw [lg_entry_eq]
  generalize (lg_sl ([.ref (a 0), .int d, .int ho, .int kd, .int ar, .int st, .int mk, .ref o]) ++ List.replicate (9 - (lg_sl ([.ref (a 0), .int d, .int ho, .int kd, .int ar, .int st, .int mk, .ref o])).length) Slot.unset).toArray = ls at hl ⊢
  have hl : lv_has ls 9 [(0, .ref (a 0)), (1, .int d), (2, .int ho), (3, .int kd), (4, .int ar), (5, .int st), (6, .int mk), (7, .ref o)] := hl
  refine lv_aload hx hb dL_row_0 (lv_at hl 7 rfl) ?_
  refine lv_iconst (v := 0) hx hb dL_row_2 (by decide) ?_
  refine lv_aload_n hx hb dL_row_3 rfl (lv_at hl 0 rfl) ?_
  refine lv_iload_n hx hb dL_row_4 rfl (lv_at hl 1 rfl) ?_
  refine lv_iload_n hx hb dL_row_5 rfl (lv_at hl 2 rfl) ?_
  refine lv_iload_n hx hb dL_row_6 rfl (lv_at hl 3 rfl) ?_
  refine lv_iload hx hb dL_row_7 (lv_at hl 4 rfl) ?_
  refine lv_iload hx hb dL_row_9 (lv_at hl 5 rfl) ?_
  refine lv_iload hx hb dL_row_11 (lv_at hl 6 rfl) ?_
  have hPc := hP.sub (ws' := (wA cI cZ a v g)) [1, 2, 3, 4, 5, 6, 7, 8, 9, 10, 11, 12, 13, 14, 15, 16, 17, 18, 19, 20] rfl
  have hDc := hD.sub (ws' := (wA cI cZ a v g)) [1, 2, 3, 4, 5, 6, 7, 8, 9, 10, 11, 12, 13, 14, 15, 16, 17, 18, 19, 20] (by decide) rfl
  have hFc := va_free (wc := (wA cI cZ a v g)) hD hS hA [1, 2, 3, 4, 5, 6, 7, 8, 9, 10, 11, 12, 13, 14, 15, 16, 17, 18, 19, 20] rfl
  refine vx_calli (vx_runV (As := [.int d, .int ho, .int kd, .int ar, .int st, .int mk]) (rest := [.int 0, .ref o]) ⟨hx, hb, hml, hown, hts⟩ (c_row l hl9 dC dI cI cZ cJ a tx v g s.heap.size n hn hn2 d ho kd ar st mk) (cwV 6 hts (gd_V ml_L_X4_row im_X4_row se_X4_row in_X4 kX4_row) rfl rfl rfl (by decide +kernel) ⟨Nat.le_of_ble_eq_true rfl, Nat.le_of_ble_eq_true rfl⟩) ⟨fun _ U g mk q => by obtain ⟨q0, q1, qP, qK, qD, qZ⟩ := q; exact ⟨q0, q1, qP, va_K.moved (u := U) (U := U.calling g mk _) (Vm.Alike.refl U.vm) qK, qD, ZX.calling qZ⟩, va_recv hK hPc (ci := 4) (q0 := 0) rfl rfl, fun U hU hW => ⟨rfl, by rw [hU], by rw [hU]; exact hPc, va_K.moved hW.alike hK, hDc.weaken (fun _ _ _ _ => trivial), ZX.call hZ hS hFc hW hU⟩⟩ rfl rfl hl.1 rfl (lv_room (Nat.le_of_ble_eq_true rfl)) dL_row_13 ⟨Nat.le_of_ble_eq_true rfl, Nat.le_of_ble_eq_true rfl⟩) hS (fun q _ h => hFc q h) hFc (fun q _ h => hFc q h) (fun E9 ce q9 u9 t9 H1 locs ht hvm hp hB hz1 hk1 hS hcell hcv hcl => ?_) (fun r13 u9 t9 H1 locs ht hvm hw hB hz1 hk1 hS => ?_)
  · obtain ⟨rfl, hP1, hK1, hD1⟩ := hB
    rw [ht] at hP1
    obtain ⟨hP, hD⟩ := va_join (wr := [(o, .inl (cJ, 1, .inr (.inl fo)))]) (w1 := (wA cI cZ a v g)) hP hD [1, 2, 3, 4, 5, 6, 7, 8, 9, 10, 11, 12, 13, 14, 15, 16, 17, 18, 19, 20] [0] rfl rfl (by decide) (by decide) hk1 hFc hP1 hD1
    rcases hp with ⟨rfl, h1⟩ | ⟨rfl, h1, h2⟩ | ⟨rfl, h1, h2, h3⟩
    · refine vx_catch (name := "java/lang/IllegalArgumentException") hown ([]) ⟨0, 18, 21, 13⟩ (tableOf [(0, 18, 25, 15), (0, 18, 29, 17)]) hTab (fun z hz => absurd hz List.not_mem_nil) (by decide) (by decide) (hts _ (List.mem_cons_of_mem _ cl_L_IllegalArgumentException)) (va_Nw.use rfl hZ.w.w3) hcell hcv hcl ?_
      refine lv_astore (lv' := [(8, .ref q9), (0, .ref (a 0)), (1, .int d), (2, .int ho), (3, .int kd), (4, .int ar), (5, .int st), (6, .int mk), (7, .ref o)]) hx hb dL_row_21 hl (by decide) rfl (fun ls hl => ?_)
      refine lv_iconst (v := 1) hx hb dL_row_23 (by decide) ?_
      exact W.iret (v := 1) hx hb hr (fun t8 ht hW => ⟨⟨1, ((v, g), fo), rfl, Or.inr ⟨Or.inl ⟨rfl, h1⟩, rfl⟩, by rw [ht]; exact hP, va_K.moved hW.alike hK, hD⟩, hS.F ht⟩) hS.2.2 dL_row_24
    · refine vx_catch (name := "java/lang/IndexOutOfBoundsException") hown (tableOf [(0, 18, 21, 13)]) ⟨0, 18, 25, 15⟩ (tableOf [(0, 18, 29, 17)]) hTab (fun z hz => by simp only [tableOf, List.map, List.mem_cons, List.not_mem_nil, or_false] at hz; rcases hz with rfl; exact Or.inr ⟨by decide, "java/lang/IllegalArgumentException", hts _ (List.mem_cons_of_mem _ cl_L_IllegalArgumentException), hC.1⟩) (by decide) (by decide) (hts _ (List.mem_cons_of_mem _ cl_L_IndexOutOfBoundsException)) (va_Nw.use rfl hZ.w.w4) hcell hcv hcl ?_
      refine lv_astore (lv' := [(8, .ref q9), (0, .ref (a 0)), (1, .int d), (2, .int ho), (3, .int kd), (4, .int ar), (5, .int st), (6, .int mk), (7, .ref o)]) hx hb dL_row_25 hl (by decide) rfl (fun ls hl => ?_)
      refine lv_iconst (v := 2) hx hb dL_row_27 (by decide) ?_
      exact W.iret (v := 2) hx hb hr (fun t8 ht hW => ⟨⟨2, ((v, g), fo), rfl, Or.inr ⟨Or.inr (Or.inl ⟨rfl, h1, h2⟩), rfl⟩, by rw [ht]; exact hP, va_K.moved hW.alike hK, hD⟩, hS.F ht⟩) hS.2.2 dL_row_28
    · refine vx_catch (name := "java/lang/UnsupportedOperationException") hown (tableOf [(0, 18, 21, 13), (0, 18, 25, 15)]) ⟨0, 18, 29, 17⟩ ([]) hTab (fun z hz => by simp only [tableOf, List.map, List.mem_cons, List.not_mem_nil, or_false] at hz; rcases hz with rfl | rfl; exact Or.inr ⟨by decide, "java/lang/IllegalArgumentException", hts _ (List.mem_cons_of_mem _ cl_L_IllegalArgumentException), hC.2.1⟩; exact Or.inr ⟨by decide, "java/lang/IndexOutOfBoundsException", hts _ (List.mem_cons_of_mem _ cl_L_IndexOutOfBoundsException), hC.2.2.1⟩) (by decide) (by decide) (hts _ (List.mem_cons_of_mem _ cl_L_UnsupportedOperationException)) (va_Nw.use rfl hZ.w.w5) hcell hcv hcl ?_
      refine lv_astore (lv' := [(8, .ref q9), (0, .ref (a 0)), (1, .int d), (2, .int ho), (3, .int kd), (4, .int ar), (5, .int st), (6, .int mk), (7, .ref o)]) hx hb dL_row_29 hl (by decide) rfl (fun ls hl => ?_)
      refine lv_iconst (v := 3) hx hb dL_row_31 (by decide) ?_
      exact W.iret (v := 3) hx hb hr (fun t8 ht hW => ⟨⟨3, ((v, g), fo), rfl, Or.inr ⟨Or.inr (Or.inr ⟨rfl, h1, h2, h3⟩), rfl⟩, by rw [ht]; exact hP, va_K.moved hW.alike hK, hD⟩, hS.F ht⟩) hS.2.2 dL_row_32
  · obtain ⟨rfl, okk, rfl⟩ := hw
    obtain ⟨hP1, hK1, hD1⟩ := hB
    rw [ht] at hP1
    obtain ⟨hP, hD⟩ := va_join (wr := [(o, .inl (cJ, 1, .inr (.inl fo)))]) (w1 := (wA cI cZ a (upd v 5 (v 5 + 1)) (upg (upg (upg (upg (upg (upg (upg (upg g 3 n d) 4 n ho) 5 n kd) 6 n ar) 7 n st) 8 n mk) 9 n (-1)) 10 n (-1)))) hP hD [1, 2, 3, 4, 5, 6, 7, 8, 9, 10, 11, 12, 13, 14, 15, 16, 17, 18, 19, 20] [0] rfl rfl (by decide) (by decide) hk1 hFc hP1 hD1
    generalize H1 = H at hP hS ⊢
    have hP : va_P (dC, dI) clA (wL cI cZ cJ o fo a (upd v 5 (v 5 + 1)) (upg (upg (upg (upg (upg (upg (upg (upg g 3 n d) 4 n ho) 5 n kd) 6 n ar) 7 n st) 8 n mk) 9 n (-1)) 10 n (-1))) H := hP
    have hD : va_D A (wL cI cZ cJ o fo a (upd v 5 (v 5 + 1)) (upg (upg (upg (upg (upg (upg (upg (upg g 3 n d) 4 n ho) 5 n kd) 6 n ar) 7 n st) 8 n mk) 9 n (-1)) 10 n (-1))) := hD
    refine lv_i2l (v := (v 5).toInt64) hx hb dL_row_16 rfl ?_
    refine va_last hx hb hK hP hD hS 0 2 rfl rfl (vp_in_nI (n := 0) (N := 1) (by decide) (by decide)) dL_row_17 (fun H locs hP hD hS => ?_)
    have hP : va_P (dC, dI) clA (wL cI cZ cJ o (vp_updL fo 0 (v 5).toInt64) a (upd v 5 (v 5 + 1)) (upg (upg (upg (upg (upg (upg (upg (upg g 3 n d) 4 n ho) 5 n kd) 6 n ar) 7 n st) 8 n mk) 9 n (-1)) 10 n (-1))) H := hP
    have hD : va_D A (wL cI cZ cJ o (vp_updL fo 0 (v 5).toInt64) a (upd v 5 (v 5 + 1)) (upg (upg (upg (upg (upg (upg (upg (upg g 3 n d) 4 n ho) 5 n kd) 6 n ar) 7 n st) 8 n mk) 9 n (-1)) 10 n (-1))) := hD
    refine lv_goto (tgt := 33) hx hb dL_row_18 (by decide) ?_
    refine lv_iconst (v := 0) hx hb dL_row_33 (by decide) ?_
    exact W.iret (v := 0) hx hb hr (fun t8 ht hW => ⟨⟨0, ((upd v 5 (v 5 + 1), upg (upg (upg (upg (upg (upg (upg (upg g 3 n d) 4 n ho) 5 n kd) 6 n ar) 7 n st) 8 n mk) 9 n (-1)) 10 n (-1)), vp_updL fo 0 (v 5).toInt64), rfl, Or.inl ⟨rfl, okk, rfl⟩, by rw [ht]; exact hP, va_K.moved hW.alike hK, hD⟩, hS.F ht⟩) hS.2.2 dL_row_34
set_option maxHeartbeats 4000000 in
set_option maxRecDepth 100000 in
theorem w_values (l : Launch) (hl9 : l.stackTraces = false) (dC : Nat → ClassId) (dI : Nat → Nat → Nat) (cI cZ cJ : ClassId) (a : Nat → Nat) (tx : Nat → Nat) (v : Nat → Int32) (g : Nat → Nat → Int32) (sz : Nat) (n : Nat) (hn : v 5 = nI n) (hn2 : n ≤ 200) (rw x y : Int32) : Met l yL_values wsL_values ({ frames := 10, cells := 3, slots := 18, locals := 165 }) (va_Pc [.ref (a 0), .int rw, .int x, .int y] (fun U => U.heap.size = sz ∧ va_P (dC, dI) clA (wA cI cZ a v g) U.heap ∧ va_K (dC, dI) clA (tyA cI cZ cJ) U ∧ va_D (fun _ => True) (wA cI cZ a v g) ∧ ZX tx (va_A (wA cI cZ a v g) sz) U U.heap ∧ ZC U)) (va_Qi (fun (r : Int32) (u : StA) => (r = 0 ∧ (inU rw (v 5) ∧ inR x (-1) 9999 ∧ inR y (-1) 9999) ∧ u = (v, upg (upg g 9 rw.toNatClampNeg x) 10 rw.toNatClampNeg y)) ∨ (trc r (¬ inU rw (v 5)) (¬ inR x (-1) 9999 ∨ ¬ inR y (-1) 9999) (False) ∧ u = (v, g))) (fun u t9 => va_P (dC, dI) clA (wA cI cZ a u.1 u.2) t9.heap ∧ va_K (dC, dI) clA (tyA cI cZ cJ) t9 ∧ va_D (va_A (wA cI cZ a v g) sz) (wA cI cZ a u.1 u.2)) (va_A (wA cI cZ a v g) sz)) 3 18 (va_A (wA cI cZ a v g) sz) := by
  refine va_MetW (cc := cL_values) (maxL := 5) (ret := (some .int)) (by decide) rfl ?_
  intro p e s m args below meth c s₁ B hml hv
  obtain ⟨rfl, hsz, hP, hK, hD0, hZ, hC⟩ := hv
  have hx := B.exec
  have hb := B.bytes
  have hr := B.returns
  have hts := atoms_spec (ws := wsL_values) B.pre
  have hown : s.vm.findClass RL = some m.cls := findClass_of_methodNamed B.named
  have hlocks := B.notSynchronized
  have hTab := vx_table (x := yL_values) B (hts _ List.mem_cons_self)
  subst hsz
  have hD := hD0.self (sz := s.heap.size)
  generalize hAe : va_A (wA cI cZ a v g) s.heap.size = A at hD hZ ⊢
  have hA : ∀ q : Nat, s.heap.size ≤ q → A q := fun q h => by rw [← hAe]; exact Or.inr h
  have hS : va_S A s.heap s.heap [] := va_S.rf
  have hP : va_P (dC, dI) clA (wA cI cZ a v g) s.heap := hP
  have hl := lv_entry ([.ref (a 0), .int rw, .int x, .int y]) (n := 5) (Nat.le_of_ble_eq_true rfl)
  rw [lg_entry_eq]
  generalize (lg_sl ([.ref (a 0), .int rw, .int x, .int y]) ++ List.replicate (5 - (lg_sl ([.ref (a 0), .int rw, .int x, .int y])).length) Slot.unset).toArray = ls at hl ⊢
  have hl : lv_has ls 5 [(0, .ref (a 0)), (1, .int rw), (2, .int x), (3, .int y)] := hl
  refine lv_aload_n hx hb dL_values_0 rfl (lv_at hl 0 rfl) ?_
  refine lv_iload_n hx hb dL_values_1 rfl (lv_at hl 1 rfl) ?_
  refine lv_iload_n hx hb dL_values_2 rfl (lv_at hl 2 rfl) ?_
  refine lv_iload_n hx hb dL_values_3 rfl (lv_at hl 3 rfl) ?_
  have hPc := hP.sub (ws' := (wA cI cZ a v g)) [0, 1, 2, 3, 4, 5, 6, 7, 8, 9, 10, 11, 12, 13, 14, 15, 16, 17, 18, 19] rfl
  have hDc := hD.sub (ws' := (wA cI cZ a v g)) [0, 1, 2, 3, 4, 5, 6, 7, 8, 9, 10, 11, 12, 13, 14, 15, 16, 17, 18, 19] (by decide) rfl
  have hFc := va_free (wc := (wA cI cZ a v g)) hD hS hA [0, 1, 2, 3, 4, 5, 6, 7, 8, 9, 10, 11, 12, 13, 14, 15, 16, 17, 18, 19] rfl
  refine vx_callv (vx_runV (As := [.int rw, .int x, .int y]) (rest := []) ⟨hx, hb, hml, hown, hts⟩ (c_values l hl9 dC dI cI cZ cJ a tx v g s.heap.size n hn hn2 rw x y) (cwV 3 hts (gd_V ml_L_X4_values im_X4_values se_X4_values in_X4 kX4_values) rfl rfl rfl (by decide +kernel) ⟨Nat.le_of_ble_eq_true rfl, Nat.le_of_ble_eq_true rfl⟩) ⟨fun _ U g mk q => by obtain ⟨q0, q1, qP, qK, qD, qZ⟩ := q; exact ⟨q0, q1, qP, va_K.moved (u := U) (U := U.calling g mk _) (Vm.Alike.refl U.vm) qK, qD, ZX.calling qZ⟩, va_recv hK hPc (ci := 4) (q0 := 0) rfl rfl, fun U hU hW => ⟨rfl, by rw [hU], by rw [hU]; exact hPc, va_K.moved hW.alike hK, hDc.weaken (fun _ _ _ _ => trivial), ZX.call hZ hS hFc hW hU⟩⟩ rfl rfl hl.1 rfl (lv_room (Nat.le_of_ble_eq_true rfl)) dL_values_4 ⟨Nat.le_of_ble_eq_true rfl, Nat.le_of_ble_eq_true rfl⟩) hS (fun q _ h => hFc q h) hFc (fun q _ h => hFc q h) (fun E9 ce q9 u9 t9 H1 locs ht hvm hp hB hz1 hk1 hS hcell hcv hcl => ?_) (fun u9 t9 H1 locs ht hvm hw hB hz1 hk1 hS => ?_)
  · obtain ⟨rfl, hP1, hK1, hD1⟩ := hB
    rw [ht] at hP1
    obtain ⟨hP, hD⟩ := va_join (wr := []) (w1 := (wA cI cZ a v g)) hP hD [0, 1, 2, 3, 4, 5, 6, 7, 8, 9, 10, 11, 12, 13, 14, 15, 16, 17, 18, 19] [] rfl rfl (by decide) (by decide) hk1 hFc hP1 hD1
    rcases hp with ⟨rfl, h1⟩ | ⟨rfl, h1, h2⟩ | ⟨rfl, h1, h2, h3⟩
    · refine vx_catch (name := "java/lang/IllegalArgumentException") hown ([]) ⟨0, 7, 10, 13⟩ (tableOf [(0, 7, 14, 15)]) hTab (fun z hz => absurd hz List.not_mem_nil) (by decide) (by decide) (hts _ (List.mem_cons_of_mem _ cl_L_IllegalArgumentException)) (va_Nw.use rfl hZ.w.w3) hcell hcv hcl ?_
      refine lv_astore (lv' := [(4, .ref q9), (0, .ref (a 0)), (1, .int rw), (2, .int x), (3, .int y)]) hx hb dL_values_10 hl (by decide) rfl (fun ls hl => ?_)
      refine lv_iconst (v := 1) hx hb dL_values_12 (by decide) ?_
      exact W.iret (v := 1) hx hb hr (fun t8 ht hW => ⟨⟨1, (v, g), rfl, Or.inr ⟨Or.inl ⟨rfl, h1⟩, rfl⟩, by rw [ht]; exact hP, va_K.moved hW.alike hK, hD⟩, hS.F ht⟩) hS.2.2 dL_values_13
    · refine vx_catch (name := "java/lang/IndexOutOfBoundsException") hown (tableOf [(0, 7, 10, 13)]) ⟨0, 7, 14, 15⟩ ([]) hTab (fun z hz => by simp only [tableOf, List.map, List.mem_cons, List.not_mem_nil, or_false] at hz; rcases hz with rfl; exact Or.inr ⟨by decide, "java/lang/IllegalArgumentException", hts _ (List.mem_cons_of_mem _ cl_L_IllegalArgumentException), hC.1⟩) (by decide) (by decide) (hts _ (List.mem_cons_of_mem _ cl_L_IndexOutOfBoundsException)) (va_Nw.use rfl hZ.w.w4) hcell hcv hcl ?_
      refine lv_astore (lv' := [(4, .ref q9), (0, .ref (a 0)), (1, .int rw), (2, .int x), (3, .int y)]) hx hb dL_values_14 hl (by decide) rfl (fun ls hl => ?_)
      refine lv_iconst (v := 2) hx hb dL_values_16 (by decide) ?_
      exact W.iret (v := 2) hx hb hr (fun t8 ht hW => ⟨⟨2, (v, g), rfl, Or.inr ⟨Or.inr (Or.inl ⟨rfl, h1, h2⟩), rfl⟩, by rw [ht]; exact hP, va_K.moved hW.alike hK, hD⟩, hS.F ht⟩) hS.2.2 dL_values_17
    · exact absurd h3 id
  · obtain ⟨okk, rfl⟩ := hw
    obtain ⟨hP1, hK1, hD1⟩ := hB
    rw [ht] at hP1
    obtain ⟨hP, hD⟩ := va_join (wr := []) (w1 := (wA cI cZ a (v) (upg (upg g 9 rw.toNatClampNeg x) 10 rw.toNatClampNeg y))) hP hD [0, 1, 2, 3, 4, 5, 6, 7, 8, 9, 10, 11, 12, 13, 14, 15, 16, 17, 18, 19] [] rfl rfl (by decide) (by decide) hk1 hFc hP1 hD1
    generalize H1 = H at hP hS ⊢
    refine lv_goto (tgt := 18) hx hb dL_values_7 (by decide) ?_
    refine lv_iconst (v := 0) hx hb dL_values_18 (by decide) ?_
    exact W.iret (v := 0) hx hb hr (fun t8 ht hW => ⟨⟨0, (v, upg (upg g 9 rw.toNatClampNeg x) 10 rw.toNatClampNeg y), rfl, Or.inl ⟨rfl, okk, rfl⟩, by rw [ht]; exact hP, va_K.moved hW.alike hK, hD⟩, hS.F ht⟩) hS.2.2 dL_values_19
set_option maxHeartbeats 4000000 in
set_option maxRecDepth 100000 in
theorem w_define (l : Launch) (hl9 : l.stackTraces = false) (dC : Nat → ClassId) (dI : Nat → Nat → Nat) (cI cZ cJ : ClassId) (a : Nat → Nat) (tx : Nat → Nat) (v : Nat → Int32) (g : Nat → Nat → Int32) (o : Nat) (fo : Nat → Int64) (sz : Nat) (nd : Nat) (hnd : v 4 = nI nd) (hnd2 : nd ≤ 6) (d mk : Int32) : Met l yL_define wsL_define ({ frames := 10, cells := 3, slots := 18, locals := 164 }) (va_Pc [.ref (a 0), .int d, .int mk, .ref o] (fun U => U.heap.size = sz ∧ va_P (dC, dI) clA (wL cI cZ cJ o fo a v g) U.heap ∧ va_K (dC, dI) clA (tyA cI cZ cJ) U ∧ va_D (fun _ => True) (wL cI cZ cJ o fo a v g) ∧ ZX tx (va_A (wL cI cZ cJ o fo a v g) sz) U U.heap ∧ ZC U)) (va_Qi (fun (r : Int32) (u : StA × (Nat → Int64)) => (r = 0 ∧ (inR d 0 9999 ∧ inR mk 0 20000 ∧ nd < 6) ∧ u = ((upd v 4 (v 4 + 1), upg (upg g 1 nd d) 2 nd mk), vp_updL fo 0 (v 4 + 1).toInt64)) ∨ (trc r (¬ inR d 0 9999 ∨ ¬ inR mk 0 20000) (nd = 6) (False) ∧ u = ((v, g), fo))) (fun u t9 => va_P (dC, dI) clA (wL cI cZ cJ o u.2 a u.1.1 u.1.2) t9.heap ∧ va_K (dC, dI) clA (tyA cI cZ cJ) t9 ∧ va_D (va_A (wL cI cZ cJ o fo a v g) sz) (wL cI cZ cJ o u.2 a u.1.1 u.1.2)) (va_A (wL cI cZ cJ o fo a v g) sz)) 3 18 (va_A (wL cI cZ cJ o fo a v g) sz) := by
  refine va_MetW (cc := cL_define) (maxL := 5) (ret := (some .int)) (by decide) rfl ?_
  intro p e s m args below meth c s₁ B hml hv
  obtain ⟨rfl, hsz, hP, hK, hD0, hZ, hC⟩ := hv
  have hx := B.exec
  have hb := B.bytes
  have hr := B.returns
  have hts := atoms_spec (ws := wsL_define) B.pre
  have hown : s.vm.findClass RL = some m.cls := findClass_of_methodNamed B.named
  have hlocks := B.notSynchronized
  have hTab := vx_table (x := yL_define) B (hts _ List.mem_cons_self)
  subst hsz
  have hD := hD0.self (sz := s.heap.size)
  generalize hAe : va_A (wL cI cZ cJ o fo a v g) s.heap.size = A at hD hZ ⊢
  have hA : ∀ q : Nat, s.heap.size ≤ q → A q := fun q h => by rw [← hAe]; exact Or.inr h
  have hS : va_S A s.heap s.heap [] := va_S.rf
  have hP : va_P (dC, dI) clA (wL cI cZ cJ o fo a v g) s.heap := hP
  have hl := lv_entry ([.ref (a 0), .int d, .int mk, .ref o]) (n := 5) (Nat.le_of_ble_eq_true rfl)
  rw [lg_entry_eq]
  generalize (lg_sl ([.ref (a 0), .int d, .int mk, .ref o]) ++ List.replicate (5 - (lg_sl ([.ref (a 0), .int d, .int mk, .ref o])).length) Slot.unset).toArray = ls at hl ⊢
  have hl : lv_has ls 5 [(0, .ref (a 0)), (1, .int d), (2, .int mk), (3, .ref o)] := hl
  refine lv_aload_n hx hb dL_define_0 rfl (lv_at hl 3 rfl) ?_
  refine lv_iconst (v := 0) hx hb dL_define_1 (by decide) ?_
  refine lv_aload_n hx hb dL_define_2 rfl (lv_at hl 0 rfl) ?_
  refine lv_iload_n hx hb dL_define_3 rfl (lv_at hl 1 rfl) ?_
  refine lv_iload_n hx hb dL_define_4 rfl (lv_at hl 2 rfl) ?_
  have hPc := hP.sub (ws' := (wA cI cZ a v g)) [1, 2, 3, 4, 5, 6, 7, 8, 9, 10, 11, 12, 13, 14, 15, 16, 17, 18, 19, 20] rfl
  have hDc := hD.sub (ws' := (wA cI cZ a v g)) [1, 2, 3, 4, 5, 6, 7, 8, 9, 10, 11, 12, 13, 14, 15, 16, 17, 18, 19, 20] (by decide) rfl
  have hFc := va_free (wc := (wA cI cZ a v g)) hD hS hA [1, 2, 3, 4, 5, 6, 7, 8, 9, 10, 11, 12, 13, 14, 15, 16, 17, 18, 19, 20] rfl
  refine vx_calli (vx_runV (As := [.int d, .int mk]) (rest := [.int 0, .ref o]) ⟨hx, hb, hml, hown, hts⟩ (c_define l hl9 dC dI cI cZ cJ a tx v g s.heap.size nd hnd hnd2 d mk) (cwV 2 hts (gd_V ml_L_X4_define im_X4_define se_X4_define in_X4 kX4_define) rfl rfl rfl (by decide +kernel) ⟨Nat.le_of_ble_eq_true rfl, Nat.le_of_ble_eq_true rfl⟩) ⟨fun _ U g mk q => by obtain ⟨q0, q1, qP, qK, qD, qZ⟩ := q; exact ⟨q0, q1, qP, va_K.moved (u := U) (U := U.calling g mk _) (Vm.Alike.refl U.vm) qK, qD, ZX.calling qZ⟩, va_recv hK hPc (ci := 4) (q0 := 0) rfl rfl, fun U hU hW => ⟨rfl, by rw [hU], by rw [hU]; exact hPc, va_K.moved hW.alike hK, hDc.weaken (fun _ _ _ _ => trivial), ZX.call hZ hS hFc hW hU⟩⟩ rfl rfl hl.1 rfl (lv_room (Nat.le_of_ble_eq_true rfl)) dL_define_5 ⟨Nat.le_of_ble_eq_true rfl, Nat.le_of_ble_eq_true rfl⟩) hS (fun q _ h => hFc q h) hFc (fun q _ h => hFc q h) (fun E9 ce q9 u9 t9 H1 locs ht hvm hp hB hz1 hk1 hS hcell hcv hcl => ?_) (fun r5 u9 t9 H1 locs ht hvm hw hB hz1 hk1 hS => ?_)
  · obtain ⟨rfl, hP1, hK1, hD1⟩ := hB
    rw [ht] at hP1
    obtain ⟨hP, hD⟩ := va_join (wr := [(o, .inl (cJ, 1, .inr (.inl fo)))]) (w1 := (wA cI cZ a v g)) hP hD [1, 2, 3, 4, 5, 6, 7, 8, 9, 10, 11, 12, 13, 14, 15, 16, 17, 18, 19, 20] [0] rfl rfl (by decide) (by decide) hk1 hFc hP1 hD1
    rcases hp with ⟨rfl, h1⟩ | ⟨rfl, h1, h2⟩ | ⟨rfl, h1, h2, h3⟩
    · refine vx_catch (name := "java/lang/IndexOutOfBoundsException") hown ([]) ⟨0, 10, 13, 15⟩ (tableOf [(0, 10, 17, 17)]) hTab (fun z hz => absurd hz List.not_mem_nil) (by decide) (by decide) (hts _ (List.mem_cons_of_mem _ cl_L_IndexOutOfBoundsException)) (va_Nw.use rfl hZ.w.w4) hcell hcv hcl ?_
      refine lv_astore (lv' := [(4, .ref q9), (0, .ref (a 0)), (1, .int d), (2, .int mk), (3, .ref o)]) hx hb dL_define_13 hl (by decide) rfl (fun ls hl => ?_)
      refine lv_iconst (v := 1) hx hb dL_define_15 (by decide) ?_
      exact W.iret (v := 1) hx hb hr (fun t8 ht hW => ⟨⟨1, ((v, g), fo), rfl, Or.inr ⟨Or.inl ⟨rfl, h1⟩, rfl⟩, by rw [ht]; exact hP, va_K.moved hW.alike hK, hD⟩, hS.F ht⟩) hS.2.2 dL_define_16
    · refine vx_catch (name := "java/lang/UnsupportedOperationException") hown (tableOf [(0, 10, 13, 15)]) ⟨0, 10, 17, 17⟩ ([]) hTab (fun z hz => by simp only [tableOf, List.map, List.mem_cons, List.not_mem_nil, or_false] at hz; rcases hz with rfl; exact Or.inr ⟨by decide, "java/lang/IndexOutOfBoundsException", hts _ (List.mem_cons_of_mem _ cl_L_IndexOutOfBoundsException), hC.2.2.1⟩) (by decide) (by decide) (hts _ (List.mem_cons_of_mem _ cl_L_UnsupportedOperationException)) (va_Nw.use rfl hZ.w.w5) hcell hcv hcl ?_
      refine lv_astore (lv' := [(4, .ref q9), (0, .ref (a 0)), (1, .int d), (2, .int mk), (3, .ref o)]) hx hb dL_define_17 hl (by decide) rfl (fun ls hl => ?_)
      refine lv_iconst (v := 2) hx hb dL_define_19 (by decide) ?_
      exact W.iret (v := 2) hx hb hr (fun t8 ht hW => ⟨⟨2, ((v, g), fo), rfl, Or.inr ⟨Or.inr (Or.inl ⟨rfl, h1, h2⟩), rfl⟩, by rw [ht]; exact hP, va_K.moved hW.alike hK, hD⟩, hS.F ht⟩) hS.2.2 dL_define_20
    · exact absurd h3 id
  · obtain ⟨rfl, okk, rfl⟩ := hw
    obtain ⟨hP1, hK1, hD1⟩ := hB
    rw [ht] at hP1
    obtain ⟨hP, hD⟩ := va_join (wr := [(o, .inl (cJ, 1, .inr (.inl fo)))]) (w1 := (wA cI cZ a (upd v 4 (v 4 + 1)) (upg (upg g 1 nd d) 2 nd mk))) hP hD [1, 2, 3, 4, 5, 6, 7, 8, 9, 10, 11, 12, 13, 14, 15, 16, 17, 18, 19, 20] [0] rfl rfl (by decide) (by decide) hk1 hFc hP1 hD1
    generalize H1 = H at hP hS ⊢
    have hP : va_P (dC, dI) clA (wL cI cZ cJ o fo a (upd v 4 (v 4 + 1)) (upg (upg g 1 nd d) 2 nd mk)) H := hP
    have hD : va_D A (wL cI cZ cJ o fo a (upd v 4 (v 4 + 1)) (upg (upg g 1 nd d) 2 nd mk)) := hD
    refine lv_i2l (v := (v 4 + 1).toInt64) hx hb dL_define_8 rfl ?_
    refine va_last hx hb hK hP hD hS 0 2 rfl rfl (vp_in_nI (n := 0) (N := 1) (by decide) (by decide)) dL_define_9 (fun H locs hP hD hS => ?_)
    have hP : va_P (dC, dI) clA (wL cI cZ cJ o (vp_updL fo 0 (v 4 + 1).toInt64) a (upd v 4 (v 4 + 1)) (upg (upg g 1 nd d) 2 nd mk)) H := hP
    have hD : va_D A (wL cI cZ cJ o (vp_updL fo 0 (v 4 + 1).toInt64) a (upd v 4 (v 4 + 1)) (upg (upg g 1 nd d) 2 nd mk)) := hD
    refine lv_goto (tgt := 21) hx hb dL_define_10 (by decide) ?_
    refine lv_iconst (v := 0) hx hb dL_define_21 (by decide) ?_
    exact W.iret (v := 0) hx hb hr (fun t8 ht hW => ⟨⟨0, ((upd v 4 (v 4 + 1), upg (upg g 1 nd d) 2 nd mk), vp_updL fo 0 (v 4 + 1).toInt64), rfl, Or.inl ⟨rfl, okk, rfl⟩, by rw [ht]; exact hP, va_K.moved hW.alike hK, hD⟩, hS.F ht⟩) hS.2.2 dL_define_22
set_option maxHeartbeats 4000000 in
set_option maxRecDepth 100000 in
theorem w_ask (l : Launch) (hl9 : l.stackTraces = false) (dC : Nat → ClassId) (dI : Nat → Nat → Nat) (cI cZ cJ : ClassId) (a : Nat → Nat) (tx : Nat → Nat) (v : Nat → Int32) (g : Nat → Nat → Int32) (sz : Nat) (f t kd ar : Int32) : Met l yL_ask wsL_ask ({ frames := 11, cells := 4, slots := 24, locals := 187 }) (va_Pc [.ref (a 0), .int f, .int t, .int kd, .int ar] (fun U => U.heap.size = sz ∧ va_P (dC, dI) clA (wA cI cZ a v g) U.heap ∧ va_K (dC, dI) clA (tyA cI cZ cJ) U ∧ va_D (fun _ => True) (wA cI cZ a v g) ∧ ZX tx (va_A (wA cI cZ a v g) sz) U U.heap ∧ ZC U)) (va_Qi (fun (r : Int32) (u : StA) => (r = 0 ∧ ((kd = -1 ∨ inU kd 5) ∧ (ar = -1 ∨ inU ar 10) ∧ (inR f 0 9999 ∧ inR t f 9999)) ∧ u = (upd (upd (upd (upd v 0 f) 1 t) 2 kd) 3 ar, g)) ∨ (trc r (¬ (kd = -1 ∨ inU kd 5) ∨ ¬ (ar = -1 ∨ inU ar 10)) (¬ (inR f 0 9999 ∧ inR t f 9999)) (False) ∧ u = (v, g))) (fun u t9 => va_P (dC, dI) clA (wA cI cZ a u.1 u.2) t9.heap ∧ va_K (dC, dI) clA (tyA cI cZ cJ) t9 ∧ va_D (va_A (wA cI cZ a v g) sz) (wA cI cZ a u.1 u.2)) (va_A (wA cI cZ a v g) sz)) 4 24 (va_A (wA cI cZ a v g) sz) := by
  refine va_MetW (cc := cL_ask) (maxL := 6) (ret := (some .int)) (by decide) rfl ?_
  intro p e s m args below meth c s₁ B hml hv
  obtain ⟨rfl, hsz, hP, hK, hD0, hZ, hC⟩ := hv
  have hx := B.exec
  have hb := B.bytes
  have hr := B.returns
  have hts := atoms_spec (ws := wsL_ask) B.pre
  have hown : s.vm.findClass RL = some m.cls := findClass_of_methodNamed B.named
  have hlocks := B.notSynchronized
  have hTab := vx_table (x := yL_ask) B (hts _ List.mem_cons_self)
  subst hsz
  have hD := hD0.self (sz := s.heap.size)
  generalize hAe : va_A (wA cI cZ a v g) s.heap.size = A at hD hZ ⊢
  have hA : ∀ q : Nat, s.heap.size ≤ q → A q := fun q h => by rw [← hAe]; exact Or.inr h
  have hS : va_S A s.heap s.heap [] := va_S.rf
  have hP : va_P (dC, dI) clA (wA cI cZ a v g) s.heap := hP
  have hl := lv_entry ([.ref (a 0), .int f, .int t, .int kd, .int ar]) (n := 6) (Nat.le_of_ble_eq_true rfl)
  rw [lg_entry_eq]
  generalize (lg_sl ([.ref (a 0), .int f, .int t, .int kd, .int ar]) ++ List.replicate (6 - (lg_sl ([.ref (a 0), .int f, .int t, .int kd, .int ar])).length) Slot.unset).toArray = ls at hl ⊢
  have hl : lv_has ls 6 [(0, .ref (a 0)), (1, .int f), (2, .int t), (3, .int kd), (4, .int ar)] := hl
  refine lv_aload_n hx hb dL_ask_0 rfl (lv_at hl 0 rfl) ?_
  refine lv_iload_n hx hb dL_ask_1 rfl (lv_at hl 1 rfl) ?_
  refine lv_iload_n hx hb dL_ask_2 rfl (lv_at hl 2 rfl) ?_
  refine lv_iload_n hx hb dL_ask_3 rfl (lv_at hl 3 rfl) ?_
  refine lv_iload hx hb dL_ask_4 (lv_at hl 4 rfl) ?_
  have hPc := hP.sub (ws' := (wA cI cZ a v g)) [0, 1, 2, 3, 4, 5, 6, 7, 8, 9, 10, 11, 12, 13, 14, 15, 16, 17, 18, 19] rfl
  have hDc := hD.sub (ws' := (wA cI cZ a v g)) [0, 1, 2, 3, 4, 5, 6, 7, 8, 9, 10, 11, 12, 13, 14, 15, 16, 17, 18, 19] (by decide) rfl
  have hFc := va_free (wc := (wA cI cZ a v g)) hD hS hA [0, 1, 2, 3, 4, 5, 6, 7, 8, 9, 10, 11, 12, 13, 14, 15, 16, 17, 18, 19] rfl
  refine vx_callv (vx_runV (As := [.int f, .int t, .int kd, .int ar]) (rest := []) ⟨hx, hb, hml, hown, hts⟩ (c_ask l hl9 dC dI cI cZ cJ a tx v g s.heap.size f t kd ar) (cwV 4 hts (gd_V ml_L_X4_ask im_X4_ask se_X4_ask in_X4 kX4_ask) rfl rfl rfl (by decide +kernel) ⟨Nat.le_of_ble_eq_true rfl, Nat.le_of_ble_eq_true rfl⟩) ⟨fun _ U g mk q => by obtain ⟨q0, q1, qP, qK, qD, qZ⟩ := q; exact ⟨q0, q1, qP, va_K.moved (u := U) (U := U.calling g mk _) (Vm.Alike.refl U.vm) qK, qD, ZX.calling qZ⟩, va_recv hK hPc (ci := 4) (q0 := 0) rfl rfl, fun U hU hW => ⟨rfl, by rw [hU], by rw [hU]; exact hPc, va_K.moved hW.alike hK, hDc.weaken (fun _ _ _ _ => trivial), ZX.call hZ hS hFc hW hU⟩⟩ rfl rfl hl.1 rfl (lv_room (Nat.le_of_ble_eq_true rfl)) dL_ask_6 ⟨Nat.le_of_ble_eq_true rfl, Nat.le_of_ble_eq_true rfl⟩) hS (fun q _ h => hFc q h) hFc (fun q _ h => hFc q h) (fun E9 ce q9 u9 t9 H1 locs ht hvm hp hB hz1 hk1 hS hcell hcv hcl => ?_) (fun u9 t9 H1 locs ht hvm hw hB hz1 hk1 hS => ?_)
  · obtain ⟨rfl, hP1, hK1, hD1⟩ := hB
    rw [ht] at hP1
    obtain ⟨hP, hD⟩ := va_join (wr := []) (w1 := (wA cI cZ a v g)) hP hD [0, 1, 2, 3, 4, 5, 6, 7, 8, 9, 10, 11, 12, 13, 14, 15, 16, 17, 18, 19] [] rfl rfl (by decide) (by decide) hk1 hFc hP1 hD1
    rcases hp with ⟨rfl, h1⟩ | ⟨rfl, h1, h2⟩ | ⟨rfl, h1, h2, h3⟩
    · refine vx_catch (name := "java/lang/IllegalArgumentException") hown ([]) ⟨0, 9, 12, 13⟩ (tableOf [(0, 9, 16, 15)]) hTab (fun z hz => absurd hz List.not_mem_nil) (by decide) (by decide) (hts _ (List.mem_cons_of_mem _ cl_L_IllegalArgumentException)) (va_Nw.use rfl hZ.w.w3) hcell hcv hcl ?_
      refine lv_astore (lv' := [(5, .ref q9), (0, .ref (a 0)), (1, .int f), (2, .int t), (3, .int kd), (4, .int ar)]) hx hb dL_ask_12 hl (by decide) rfl (fun ls hl => ?_)
      refine lv_iconst (v := 1) hx hb dL_ask_14 (by decide) ?_
      exact W.iret (v := 1) hx hb hr (fun t8 ht hW => ⟨⟨1, (v, g), rfl, Or.inr ⟨Or.inl ⟨rfl, h1⟩, rfl⟩, by rw [ht]; exact hP, va_K.moved hW.alike hK, hD⟩, hS.F ht⟩) hS.2.2 dL_ask_15
    · refine vx_catch (name := "java/lang/IndexOutOfBoundsException") hown (tableOf [(0, 9, 12, 13)]) ⟨0, 9, 16, 15⟩ ([]) hTab (fun z hz => by simp only [tableOf, List.map, List.mem_cons, List.not_mem_nil, or_false] at hz; rcases hz with rfl; exact Or.inr ⟨by decide, "java/lang/IllegalArgumentException", hts _ (List.mem_cons_of_mem _ cl_L_IllegalArgumentException), hC.1⟩) (by decide) (by decide) (hts _ (List.mem_cons_of_mem _ cl_L_IndexOutOfBoundsException)) (va_Nw.use rfl hZ.w.w4) hcell hcv hcl ?_
      refine lv_astore (lv' := [(5, .ref q9), (0, .ref (a 0)), (1, .int f), (2, .int t), (3, .int kd), (4, .int ar)]) hx hb dL_ask_16 hl (by decide) rfl (fun ls hl => ?_)
      refine lv_iconst (v := 2) hx hb dL_ask_18 (by decide) ?_
      exact W.iret (v := 2) hx hb hr (fun t8 ht hW => ⟨⟨2, (v, g), rfl, Or.inr ⟨Or.inr (Or.inl ⟨rfl, h1, h2⟩), rfl⟩, by rw [ht]; exact hP, va_K.moved hW.alike hK, hD⟩, hS.F ht⟩) hS.2.2 dL_ask_19
    · exact absurd h3 id
  · obtain ⟨okk, rfl⟩ := hw
    obtain ⟨hP1, hK1, hD1⟩ := hB
    rw [ht] at hP1
    obtain ⟨hP, hD⟩ := va_join (wr := []) (w1 := (wA cI cZ a (upd (upd (upd (upd v 0 f) 1 t) 2 kd) 3 ar) (g))) hP hD [0, 1, 2, 3, 4, 5, 6, 7, 8, 9, 10, 11, 12, 13, 14, 15, 16, 17, 18, 19] [] rfl rfl (by decide) (by decide) hk1 hFc hP1 hD1
    generalize H1 = H at hP hS ⊢
    refine lv_goto (tgt := 20) hx hb dL_ask_9 (by decide) ?_
    refine lv_iconst (v := 0) hx hb dL_ask_20 (by decide) ?_
    exact W.iret (v := 0) hx hb hr (fun t8 ht hW => ⟨⟨0, (upd (upd (upd (upd v 0 f) 1 t) 2 kd) 3 ar, g), rfl, Or.inl ⟨rfl, okk, rfl⟩, by rw [ht]; exact hP, va_K.moved hW.alike hK, hD⟩, hS.F ht⟩) hS.2.2 dL_ask_21
set_option maxHeartbeats 4000000 in
set_option maxRecDepth 100000 in
theorem w_count (l : Launch) (hl9 : l.stackTraces = false) (dC : Nat → ClassId) (dI : Nat → Nat → Nat) (cI cZ cJ : ClassId) (a : Nat → Nat) (tx : Nat → Nat) (v : Nat → Int32) (g : Nat → Nat → Int32) (o : Nat) (fo : Nat → Int64) (sz : Nat) (n : Nat) (hn : v 5 = nI n) (hn2 : n ≤ 200) (nd : Nat) (hnd : v 4 = nI nd) (hnd2 : nd ≤ 6) (w : Int32) : Met l yL_count wsL_count ({ frames := 10, cells := 1, slots := 6, locals := 162 }) (va_Pc [.ref (a 0), .int w, .ref o] (fun U => U.heap.size = sz ∧ va_P (dC, dI) clA (wL cI cZ cJ o fo a v g) U.heap ∧ va_K (dC, dI) clA (tyA cI cZ cJ) U ∧ va_D (fun _ => True) (wL cI cZ cJ o fo a v g) ∧ ZX tx (va_A (wL cI cZ cJ o fo a v g) sz) U U.heap ∧ ZC U)) (va_Qi (fun (r : Int32) (u : StA × (Nat → Int64)) => (r = 0 ∧ (inU w 5) ∧ u = ((v, g), vp_updL fo 0 (totI g n nd w (v 0) (v 1) (v 2) (v 3)).toInt64)) ∨ (trc r (¬ inU w 5) (False) (False) ∧ u = ((v, g), fo))) (fun u t9 => va_P (dC, dI) clA (wL cI cZ cJ o u.2 a u.1.1 u.1.2) t9.heap ∧ va_K (dC, dI) clA (tyA cI cZ cJ) t9 ∧ va_D (va_A (wL cI cZ cJ o fo a v g) sz) (wL cI cZ cJ o u.2 a u.1.1 u.1.2)) (va_A (wL cI cZ cJ o fo a v g) sz)) 1 6 (va_A (wL cI cZ cJ o fo a v g) sz) := by
  refine va_MetW (cc := cL_count) (maxL := 4) (ret := (some .int)) (by decide) rfl ?_
  intro p e s m args below meth c s₁ B hml hv
  obtain ⟨rfl, hsz, hP, hK, hD0, hZ, hC⟩ := hv
  have hx := B.exec
  have hb := B.bytes
  have hr := B.returns
  have hts := atoms_spec (ws := wsL_count) B.pre
  have hown : s.vm.findClass RL = some m.cls := findClass_of_methodNamed B.named
  have hlocks := B.notSynchronized
  have hTab := vx_table (x := yL_count) B (hts _ List.mem_cons_self)
  subst hsz
  have hD := hD0.self (sz := s.heap.size)
  generalize hAe : va_A (wL cI cZ cJ o fo a v g) s.heap.size = A at hD hZ ⊢
  have hA : ∀ q : Nat, s.heap.size ≤ q → A q := fun q h => by rw [← hAe]; exact Or.inr h
  have hS : va_S A s.heap s.heap [] := va_S.rf
  have hP : va_P (dC, dI) clA (wL cI cZ cJ o fo a v g) s.heap := hP
  have hl := lv_entry ([.ref (a 0), .int w, .ref o]) (n := 4) (Nat.le_of_ble_eq_true rfl)
  rw [lg_entry_eq]
  generalize (lg_sl ([.ref (a 0), .int w, .ref o]) ++ List.replicate (4 - (lg_sl ([.ref (a 0), .int w, .ref o])).length) Slot.unset).toArray = ls at hl ⊢
  have hl : lv_has ls 4 [(0, .ref (a 0)), (1, .int w), (2, .ref o)] := hl
  refine lv_aload_n hx hb dL_count_0 rfl (lv_at hl 2 rfl) ?_
  refine lv_iconst (v := 0) hx hb dL_count_1 (by decide) ?_
  refine lv_aload_n hx hb dL_count_2 rfl (lv_at hl 0 rfl) ?_
  refine lv_iload_n hx hb dL_count_3 rfl (lv_at hl 1 rfl) ?_
  have hPc := hP.sub (ws' := (wA cI cZ a v g)) [1, 2, 3, 4, 5, 6, 7, 8, 9, 10, 11, 12, 13, 14, 15, 16, 17, 18, 19, 20] rfl
  have hDc := hD.sub (ws' := (wA cI cZ a v g)) [1, 2, 3, 4, 5, 6, 7, 8, 9, 10, 11, 12, 13, 14, 15, 16, 17, 18, 19, 20] (by decide) rfl
  have hFc := va_free (wc := (wA cI cZ a v g)) hD hS hA [1, 2, 3, 4, 5, 6, 7, 8, 9, 10, 11, 12, 13, 14, 15, 16, 17, 18, 19, 20] rfl
  refine vx_calli (vx_runV (As := [.int w]) (rest := [.int 0, .ref o]) ⟨hx, hb, hml, hown, hts⟩ (c_count l hl9 dC dI cI cZ cJ a tx v g s.heap.size n hn hn2 nd hnd hnd2 w) (cwV 1 hts (gd_V ml_L_X4_count im_X4_count se_X4_count in_X4 kX4_count) rfl rfl rfl (by decide +kernel) ⟨Nat.le_of_ble_eq_true rfl, Nat.le_of_ble_eq_true rfl⟩) ⟨fun _ U g mk q => by obtain ⟨q0, q1, qP, qK, qD, qZ⟩ := q; exact ⟨q0, q1, qP, va_K.moved (u := U) (U := U.calling g mk _) (Vm.Alike.refl U.vm) qK, qD, ZX.calling qZ⟩, va_recv hK hPc (ci := 4) (q0 := 0) rfl rfl, fun U hU hW => ⟨rfl, by rw [hU], by rw [hU]; exact hPc, va_K.moved hW.alike hK, hDc.weaken (fun _ _ _ _ => trivial), ZX.call hZ hS hFc hW hU⟩⟩ rfl rfl hl.1 rfl (lv_room (Nat.le_of_ble_eq_true rfl)) dL_count_4 ⟨Nat.le_of_ble_eq_true rfl, Nat.le_of_ble_eq_true rfl⟩) hS (fun q _ h => hFc q h) hFc (fun q _ h => hFc q h) (fun E9 ce q9 u9 t9 H1 locs ht hvm hp hB hz1 hk1 hS hcell hcv hcl => ?_) (fun r4 u9 t9 H1 locs ht hvm hw hB hz1 hk1 hS => ?_)
  · obtain ⟨rfl, hP1, hK1, hD1⟩ := hB
    rw [ht] at hP1
    obtain ⟨hP, hD⟩ := va_join (wr := [(o, .inl (cJ, 1, .inr (.inl fo)))]) (w1 := (wA cI cZ a v g)) hP hD [1, 2, 3, 4, 5, 6, 7, 8, 9, 10, 11, 12, 13, 14, 15, 16, 17, 18, 19, 20] [0] rfl rfl (by decide) (by decide) hk1 hFc hP1 hD1
    rcases hp with ⟨rfl, h1⟩ | ⟨rfl, h1, h2⟩ | ⟨rfl, h1, h2, h3⟩
    · refine vx_catch (name := "java/lang/IllegalArgumentException") hown ([]) ⟨0, 9, 12, 13⟩ ([]) hTab (fun z hz => absurd hz List.not_mem_nil) (by decide) (by decide) (hts _ (List.mem_cons_of_mem _ cl_L_IllegalArgumentException)) (va_Nw.use rfl hZ.w.w3) hcell hcv hcl ?_
      refine lv_astore_n (lv' := [(3, .ref q9), (0, .ref (a 0)), (1, .int w), (2, .ref o)]) hx hb dL_count_12 rfl hl (by decide) rfl (fun ls hl => ?_)
      refine lv_iconst (v := 1) hx hb dL_count_13 (by decide) ?_
      exact W.iret (v := 1) hx hb hr (fun t8 ht hW => ⟨⟨1, ((v, g), fo), rfl, Or.inr ⟨Or.inl ⟨rfl, h1⟩, rfl⟩, by rw [ht]; exact hP, va_K.moved hW.alike hK, hD⟩, hS.F ht⟩) hS.2.2 dL_count_14
    · exact absurd h2 id
    · exact absurd h3 id
  · obtain ⟨rfl, okk, rfl⟩ := hw
    obtain ⟨hP1, hK1, hD1⟩ := hB
    rw [ht] at hP1
    obtain ⟨hP, hD⟩ := va_join (wr := [(o, .inl (cJ, 1, .inr (.inl fo)))]) (w1 := (wA cI cZ a (v) (g))) hP hD [1, 2, 3, 4, 5, 6, 7, 8, 9, 10, 11, 12, 13, 14, 15, 16, 17, 18, 19, 20] [0] rfl rfl (by decide) (by decide) hk1 hFc hP1 hD1
    generalize H1 = H at hP hS ⊢
    have hP : va_P (dC, dI) clA (wL cI cZ cJ o fo a (v) (g)) H := hP
    have hD : va_D A (wL cI cZ cJ o fo a (v) (g)) := hD
    refine lv_i2l (v := (totI g n nd w (v 0) (v 1) (v 2) (v 3)).toInt64) hx hb dL_count_7 rfl ?_
    refine va_last hx hb hK hP hD hS 0 2 rfl rfl (vp_in_nI (n := 0) (N := 1) (by decide) (by decide)) dL_count_8 (fun H locs hP hD hS => ?_)
    have hP : va_P (dC, dI) clA (wL cI cZ cJ o (vp_updL fo 0 (totI g n nd w (v 0) (v 1) (v 2) (v 3)).toInt64) a (v) (g)) H := hP
    have hD : va_D A (wL cI cZ cJ o (vp_updL fo 0 (totI g n nd w (v 0) (v 1) (v 2) (v 3)).toInt64) a (v) (g)) := hD
    refine lv_goto (tgt := 15) hx hb dL_count_9 (by decide) ?_
    refine lv_iconst (v := 0) hx hb dL_count_15 (by decide) ?_
    exact W.iret (v := 0) hx hb hr (fun t8 ht hW => ⟨⟨0, ((v, g), vp_updL fo 0 (totI g n nd w (v 0) (v 1) (v 2) (v 3)).toInt64), rfl, Or.inl ⟨rfl, okk, rfl⟩, by rw [ht]; exact hP, va_K.moved hW.alike hK, hD⟩, hS.F ht⟩) hS.2.2 dL_count_16
set_option maxHeartbeats 4000000 in
set_option maxRecDepth 100000 in
theorem w_hour (l : Launch) (hl9 : l.stackTraces = false) (dC : Nat → ClassId) (dI : Nat → Nat → Nat) (cI cZ cJ : ClassId) (a : Nat → Nat) (tx : Nat → Nat) (v : Nat → Int32) (g : Nat → Nat → Int32) (o : Nat) (fo : Nat → Int64) (sz : Nat) (n : Nat) (hn : v 5 = nI n) (hn2 : n ≤ 200) (ho : Int32) : Met l yL_hour wsL_hour ({ frames := 10, cells := 1, slots := 6, locals := 163 }) (va_Pc [.ref (a 0), .int ho, .ref o] (fun U => U.heap.size = sz ∧ va_P (dC, dI) clA (wL cI cZ cJ o fo a v g) U.heap ∧ va_K (dC, dI) clA (tyA cI cZ cJ) U ∧ va_D (fun _ => True) (wL cI cZ cJ o fo a v g) ∧ ZX tx (va_A (wL cI cZ cJ o fo a v g) sz) U U.heap ∧ ZC U)) (va_Qi (fun (r : Int32) (u : StA × (Nat → Int64)) => (r = 0 ∧ (inR ho 0 23) ∧ u = ((v, g), vp_updL fo 0 (cnt (fun i => askB g i (v 0) (v 1) (v 2) (v 3) && decide (g 4 i = ho)) n).toInt64)) ∨ (trc r (¬ inR ho 0 23) (False) (False) ∧ u = ((v, g), fo))) (fun u t9 => va_P (dC, dI) clA (wL cI cZ cJ o u.2 a u.1.1 u.1.2) t9.heap ∧ va_K (dC, dI) clA (tyA cI cZ cJ) t9 ∧ va_D (va_A (wL cI cZ cJ o fo a v g) sz) (wL cI cZ cJ o u.2 a u.1.1 u.1.2)) (va_A (wL cI cZ cJ o fo a v g) sz)) 1 6 (va_A (wL cI cZ cJ o fo a v g) sz) := by
  refine va_MetW (cc := cL_hour) (maxL := 4) (ret := (some .int)) (by decide) rfl ?_
  intro p e s m args below meth c s₁ B hml hv
  obtain ⟨rfl, hsz, hP, hK, hD0, hZ, hC⟩ := hv
  have hx := B.exec
  have hb := B.bytes
  have hr := B.returns
  have hts := atoms_spec (ws := wsL_hour) B.pre
  have hown : s.vm.findClass RL = some m.cls := findClass_of_methodNamed B.named
  have hlocks := B.notSynchronized
  have hTab := vx_table (x := yL_hour) B (hts _ List.mem_cons_self)
  subst hsz
  have hD := hD0.self (sz := s.heap.size)
  generalize hAe : va_A (wL cI cZ cJ o fo a v g) s.heap.size = A at hD hZ ⊢
  have hA : ∀ q : Nat, s.heap.size ≤ q → A q := fun q h => by rw [← hAe]; exact Or.inr h
  have hS : va_S A s.heap s.heap [] := va_S.rf
  have hP : va_P (dC, dI) clA (wL cI cZ cJ o fo a v g) s.heap := hP
  have hl := lv_entry ([.ref (a 0), .int ho, .ref o]) (n := 4) (Nat.le_of_ble_eq_true rfl)
  rw [lg_entry_eq]
  generalize (lg_sl ([.ref (a 0), .int ho, .ref o]) ++ List.replicate (4 - (lg_sl ([.ref (a 0), .int ho, .ref o])).length) Slot.unset).toArray = ls at hl ⊢
  have hl : lv_has ls 4 [(0, .ref (a 0)), (1, .int ho), (2, .ref o)] := hl
  refine lv_aload_n hx hb dL_hour_0 rfl (lv_at hl 2 rfl) ?_
  refine lv_iconst (v := 0) hx hb dL_hour_1 (by decide) ?_
  refine lv_aload_n hx hb dL_hour_2 rfl (lv_at hl 0 rfl) ?_
  refine lv_iload_n hx hb dL_hour_3 rfl (lv_at hl 1 rfl) ?_
  have hPc := hP.sub (ws' := (wA cI cZ a v g)) [1, 2, 3, 4, 5, 6, 7, 8, 9, 10, 11, 12, 13, 14, 15, 16, 17, 18, 19, 20] rfl
  have hDc := hD.sub (ws' := (wA cI cZ a v g)) [1, 2, 3, 4, 5, 6, 7, 8, 9, 10, 11, 12, 13, 14, 15, 16, 17, 18, 19, 20] (by decide) rfl
  have hFc := va_free (wc := (wA cI cZ a v g)) hD hS hA [1, 2, 3, 4, 5, 6, 7, 8, 9, 10, 11, 12, 13, 14, 15, 16, 17, 18, 19, 20] rfl
  refine vx_calli (vx_runV (As := [.int ho]) (rest := [.int 0, .ref o]) ⟨hx, hb, hml, hown, hts⟩ (c_hour l hl9 dC dI cI cZ cJ a tx v g s.heap.size n hn hn2 ho) (cwV 1 hts (gd_V ml_L_X4_hour im_X4_hour se_X4_hour in_X4 kX4_hour) rfl rfl rfl (by decide +kernel) ⟨Nat.le_of_ble_eq_true rfl, Nat.le_of_ble_eq_true rfl⟩) ⟨fun _ U g mk q => by obtain ⟨q0, q1, qP, qK, qD, qZ⟩ := q; exact ⟨q0, q1, qP, va_K.moved (u := U) (U := U.calling g mk _) (Vm.Alike.refl U.vm) qK, qD, ZX.calling qZ⟩, va_recv hK hPc (ci := 4) (q0 := 0) rfl rfl, fun U hU hW => ⟨rfl, by rw [hU], by rw [hU]; exact hPc, va_K.moved hW.alike hK, hDc.weaken (fun _ _ _ _ => trivial), ZX.call hZ hS hFc hW hU⟩⟩ rfl rfl hl.1 rfl (lv_room (Nat.le_of_ble_eq_true rfl)) dL_hour_4 ⟨Nat.le_of_ble_eq_true rfl, Nat.le_of_ble_eq_true rfl⟩) hS (fun q _ h => hFc q h) hFc (fun q _ h => hFc q h) (fun E9 ce q9 u9 t9 H1 locs ht hvm hp hB hz1 hk1 hS hcell hcv hcl => ?_) (fun r4 u9 t9 H1 locs ht hvm hw hB hz1 hk1 hS => ?_)
  · obtain ⟨rfl, hP1, hK1, hD1⟩ := hB
    rw [ht] at hP1
    obtain ⟨hP, hD⟩ := va_join (wr := [(o, .inl (cJ, 1, .inr (.inl fo)))]) (w1 := (wA cI cZ a v g)) hP hD [1, 2, 3, 4, 5, 6, 7, 8, 9, 10, 11, 12, 13, 14, 15, 16, 17, 18, 19, 20] [0] rfl rfl (by decide) (by decide) hk1 hFc hP1 hD1
    rcases hp with ⟨rfl, h1⟩ | ⟨rfl, h1, h2⟩ | ⟨rfl, h1, h2, h3⟩
    · refine vx_catch (name := "java/lang/IndexOutOfBoundsException") hown ([]) ⟨0, 9, 12, 15⟩ ([]) hTab (fun z hz => absurd hz List.not_mem_nil) (by decide) (by decide) (hts _ (List.mem_cons_of_mem _ cl_L_IndexOutOfBoundsException)) (va_Nw.use rfl hZ.w.w4) hcell hcv hcl ?_
      refine lv_astore_n (lv' := [(3, .ref q9), (0, .ref (a 0)), (1, .int ho), (2, .ref o)]) hx hb dL_hour_12 rfl hl (by decide) rfl (fun ls hl => ?_)
      refine lv_iconst (v := 1) hx hb dL_hour_13 (by decide) ?_
      exact W.iret (v := 1) hx hb hr (fun t8 ht hW => ⟨⟨1, ((v, g), fo), rfl, Or.inr ⟨Or.inl ⟨rfl, h1⟩, rfl⟩, by rw [ht]; exact hP, va_K.moved hW.alike hK, hD⟩, hS.F ht⟩) hS.2.2 dL_hour_14
    · exact absurd h2 id
    · exact absurd h3 id
  · obtain ⟨rfl, okk, rfl⟩ := hw
    obtain ⟨hP1, hK1, hD1⟩ := hB
    rw [ht] at hP1
    obtain ⟨hP, hD⟩ := va_join (wr := [(o, .inl (cJ, 1, .inr (.inl fo)))]) (w1 := (wA cI cZ a (v) (g))) hP hD [1, 2, 3, 4, 5, 6, 7, 8, 9, 10, 11, 12, 13, 14, 15, 16, 17, 18, 19, 20] [0] rfl rfl (by decide) (by decide) hk1 hFc hP1 hD1
    generalize H1 = H at hP hS ⊢
    have hP : va_P (dC, dI) clA (wL cI cZ cJ o fo a (v) (g)) H := hP
    have hD : va_D A (wL cI cZ cJ o fo a (v) (g)) := hD
    refine lv_i2l (v := (cnt (fun i => askB g i (v 0) (v 1) (v 2) (v 3) && decide (g 4 i = ho)) n).toInt64) hx hb dL_hour_7 rfl ?_
    refine va_last hx hb hK hP hD hS 0 2 rfl rfl (vp_in_nI (n := 0) (N := 1) (by decide) (by decide)) dL_hour_8 (fun H locs hP hD hS => ?_)
    have hP : va_P (dC, dI) clA (wL cI cZ cJ o (vp_updL fo 0 (cnt (fun i => askB g i (v 0) (v 1) (v 2) (v 3) && decide (g 4 i = ho)) n).toInt64) a (v) (g)) H := hP
    have hD : va_D A (wL cI cZ cJ o (vp_updL fo 0 (cnt (fun i => askB g i (v 0) (v 1) (v 2) (v 3) && decide (g 4 i = ho)) n).toInt64) a (v) (g)) := hD
    refine lv_goto (tgt := 15) hx hb dL_hour_9 (by decide) ?_
    refine lv_iconst (v := 0) hx hb dL_hour_15 (by decide) ?_
    exact W.iret (v := 0) hx hb hr (fun t8 ht hW => ⟨⟨0, ((v, g), vp_updL fo 0 (cnt (fun i => askB g i (v 0) (v 1) (v 2) (v 3) && decide (g 4 i = ho)) n).toInt64), rfl, Or.inl ⟨rfl, okk, rfl⟩, by rw [ht]; exact hP, va_K.moved hW.alike hK, hD⟩, hS.F ht⟩) hS.2.2 dL_hour_16
set_option maxHeartbeats 4000000 in
set_option maxRecDepth 100000 in
theorem w_share (l : Launch) (hl9 : l.stackTraces = false) (dC : Nat → ClassId) (dI : Nat → Nat → Nat) (cI cZ cJ : ClassId) (a : Nat → Nat) (tx : Nat → Nat) (v : Nat → Int32) (g : Nat → Nat → Int32) (o : Nat) (fo : Nat → Int64) (sz : Nat) (n : Nat) (hn : v 5 = nI n) (hn2 : n ≤ 200) (nd : Nat) (hnd : v 4 = nI nd) (hnd2 : nd ≤ 6) (w : Int32) : Met l yL_share wsL_share ({ frames := 10, cells := 2, slots := 12, locals := 184 }) (va_Pc [.ref (a 0), .int w, .ref o] (fun U => U.heap.size = sz ∧ va_P (dC, dI) clA (wL cI cZ cJ o fo a v g) U.heap ∧ va_K (dC, dI) clA (tyA cI cZ cJ) U ∧ va_D (fun _ => True) (wL cI cZ cJ o fo a v g) ∧ ZX tx (va_A (wL cI cZ cJ o fo a v g) sz) U U.heap ∧ ZC U)) (va_Qi (fun (r : Int32) (u : StA × (Nat → Int64)) => (r = 0 ∧ (inU w 2 ∧ 0 < totI g n nd 0 (v 0) (v 1) (v 2) (v 3) - totI g n nd 3 (v 0) (v 1) (v 2) (v 3)) ∧ u = ((v, g), vp_updL fo 0 (lowT (if w = 0 then totI g n nd 2 (v 0) (v 1) (v 2) (v 3) else totI g n nd 0 (v 0) (v 1) (v 2) (v 3) - totI g n nd 3 (v 0) (v 1) (v 2) (v 3)) (totI g n nd 2 (v 0) (v 1) (v 2) (v 3)) (totI g n nd 0 (v 0) (v 1) (v 2) (v 3) - totI g n nd 3 (v 0) (v 1) (v 2) (v 3))).toInt64)) ∨ (trc r (¬ inU w 2) (¬ 0 < totI g n nd 0 (v 0) (v 1) (v 2) (v 3) - totI g n nd 3 (v 0) (v 1) (v 2) (v 3)) (False) ∧ u = ((v, g), fo))) (fun u t9 => va_P (dC, dI) clA (wL cI cZ cJ o u.2 a u.1.1 u.1.2) t9.heap ∧ va_K (dC, dI) clA (tyA cI cZ cJ) t9 ∧ va_D (va_A (wL cI cZ cJ o fo a v g) sz) (wL cI cZ cJ o u.2 a u.1.1 u.1.2)) (va_A (wL cI cZ cJ o fo a v g) sz)) 2 12 (va_A (wL cI cZ cJ o fo a v g) sz) := by
  refine va_MetW (cc := cL_share) (maxL := 4) (ret := (some .int)) (by decide) rfl ?_
  intro p e s m args below meth c s₁ B hml hv
  obtain ⟨rfl, hsz, hP, hK, hD0, hZ, hC⟩ := hv
  have hx := B.exec
  have hb := B.bytes
  have hr := B.returns
  have hts := atoms_spec (ws := wsL_share) B.pre
  have hown : s.vm.findClass RL = some m.cls := findClass_of_methodNamed B.named
  have hlocks := B.notSynchronized
  have hTab := vx_table (x := yL_share) B (hts _ List.mem_cons_self)
  subst hsz
  have hD := hD0.self (sz := s.heap.size)
  generalize hAe : va_A (wL cI cZ cJ o fo a v g) s.heap.size = A at hD hZ ⊢
  have hA : ∀ q : Nat, s.heap.size ≤ q → A q := fun q h => by rw [← hAe]; exact Or.inr h
  have hS : va_S A s.heap s.heap [] := va_S.rf
  have hP : va_P (dC, dI) clA (wL cI cZ cJ o fo a v g) s.heap := hP
  have hl := lv_entry ([.ref (a 0), .int w, .ref o]) (n := 4) (Nat.le_of_ble_eq_true rfl)
  rw [lg_entry_eq]
  generalize (lg_sl ([.ref (a 0), .int w, .ref o]) ++ List.replicate (4 - (lg_sl ([.ref (a 0), .int w, .ref o])).length) Slot.unset).toArray = ls at hl ⊢
  have hl : lv_has ls 4 [(0, .ref (a 0)), (1, .int w), (2, .ref o)] := hl
  refine lv_aload_n hx hb dL_share_0 rfl (lv_at hl 2 rfl) ?_
  refine lv_iconst (v := 0) hx hb dL_share_1 (by decide) ?_
  refine lv_aload_n hx hb dL_share_2 rfl (lv_at hl 0 rfl) ?_
  refine lv_iload_n hx hb dL_share_3 rfl (lv_at hl 1 rfl) ?_
  have hPc := hP.sub (ws' := (wA cI cZ a v g)) [1, 2, 3, 4, 5, 6, 7, 8, 9, 10, 11, 12, 13, 14, 15, 16, 17, 18, 19, 20] rfl
  have hDc := hD.sub (ws' := (wA cI cZ a v g)) [1, 2, 3, 4, 5, 6, 7, 8, 9, 10, 11, 12, 13, 14, 15, 16, 17, 18, 19, 20] (by decide) rfl
  have hFc := va_free (wc := (wA cI cZ a v g)) hD hS hA [1, 2, 3, 4, 5, 6, 7, 8, 9, 10, 11, 12, 13, 14, 15, 16, 17, 18, 19, 20] rfl
  refine vx_calli (vx_runV (As := [.int w]) (rest := [.int 0, .ref o]) ⟨hx, hb, hml, hown, hts⟩ (c_share l hl9 dC dI cI cZ cJ a tx v g s.heap.size n hn hn2 nd hnd hnd2 w) (cwV 1 hts (gd_V ml_L_X4_share im_X4_share se_X4_share in_X4 kX4_share) rfl rfl rfl (by decide +kernel) ⟨Nat.le_of_ble_eq_true rfl, Nat.le_of_ble_eq_true rfl⟩) ⟨fun _ U g mk q => by obtain ⟨q0, q1, qP, qK, qD, qZ⟩ := q; exact ⟨q0, q1, qP, va_K.moved (u := U) (U := U.calling g mk _) (Vm.Alike.refl U.vm) qK, qD, ZX.calling qZ⟩, va_recv hK hPc (ci := 4) (q0 := 0) rfl rfl, fun U hU hW => ⟨rfl, by rw [hU], by rw [hU]; exact hPc, va_K.moved hW.alike hK, hDc.weaken (fun _ _ _ _ => trivial), ZX.call hZ hS hFc hW hU⟩⟩ rfl rfl hl.1 rfl (lv_room (Nat.le_of_ble_eq_true rfl)) dL_share_4 ⟨Nat.le_of_ble_eq_true rfl, Nat.le_of_ble_eq_true rfl⟩) hS (fun q _ h => hFc q h) hFc (fun q _ h => hFc q h) (fun E9 ce q9 u9 t9 H1 locs ht hvm hp hB hz1 hk1 hS hcell hcv hcl => ?_) (fun r4 u9 t9 H1 locs ht hvm hw hB hz1 hk1 hS => ?_)
  · obtain ⟨rfl, hP1, hK1, hD1⟩ := hB
    rw [ht] at hP1
    obtain ⟨hP, hD⟩ := va_join (wr := [(o, .inl (cJ, 1, .inr (.inl fo)))]) (w1 := (wA cI cZ a v g)) hP hD [1, 2, 3, 4, 5, 6, 7, 8, 9, 10, 11, 12, 13, 14, 15, 16, 17, 18, 19, 20] [0] rfl rfl (by decide) (by decide) hk1 hFc hP1 hD1
    rcases hp with ⟨rfl, h1⟩ | ⟨rfl, h1, h2⟩ | ⟨rfl, h1, h2, h3⟩
    · refine vx_catch (name := "java/lang/IllegalArgumentException") hown ([]) ⟨0, 9, 12, 13⟩ (tableOf [(0, 9, 15, 41)]) hTab (fun z hz => absurd hz List.not_mem_nil) (by decide) (by decide) (hts _ (List.mem_cons_of_mem _ cl_L_IllegalArgumentException)) (va_Nw.use rfl hZ.w.w3) hcell hcv hcl ?_
      refine lv_astore_n (lv' := [(3, .ref q9), (0, .ref (a 0)), (1, .int w), (2, .ref o)]) hx hb dL_share_12 rfl hl (by decide) rfl (fun ls hl => ?_)
      refine lv_iconst (v := 1) hx hb dL_share_13 (by decide) ?_
      exact W.iret (v := 1) hx hb hr (fun t8 ht hW => ⟨⟨1, ((v, g), fo), rfl, Or.inr ⟨Or.inl ⟨rfl, h1⟩, rfl⟩, by rw [ht]; exact hP, va_K.moved hW.alike hK, hD⟩, hS.F ht⟩) hS.2.2 dL_share_14
    · refine vx_catch (name := "java/lang/ArithmeticException") hown (tableOf [(0, 9, 12, 13)]) ⟨0, 9, 15, 41⟩ ([]) hTab (fun z hz => by simp only [tableOf, List.map, List.mem_cons, List.not_mem_nil, or_false] at hz; rcases hz with rfl; exact Or.inr ⟨by decide, "java/lang/IllegalArgumentException", hts _ (List.mem_cons_of_mem _ cl_L_IllegalArgumentException), hC.2.2.2.1⟩) (by decide) (by decide) (hts _ (List.mem_cons_of_mem _ cl_L_ArithmeticException)) (va_Nw.use rfl hZ.w.w6) hcell hcv hcl ?_
      refine lv_astore_n (lv' := [(3, .ref q9), (0, .ref (a 0)), (1, .int w), (2, .ref o)]) hx hb dL_share_15 rfl hl (by decide) rfl (fun ls hl => ?_)
      refine lv_iconst (v := 2) hx hb dL_share_16 (by decide) ?_
      exact W.iret (v := 2) hx hb hr (fun t8 ht hW => ⟨⟨2, ((v, g), fo), rfl, Or.inr ⟨Or.inr (Or.inl ⟨rfl, h1, h2⟩), rfl⟩, by rw [ht]; exact hP, va_K.moved hW.alike hK, hD⟩, hS.F ht⟩) hS.2.2 dL_share_17
    · exact absurd h3 id
  · obtain ⟨rfl, okk, rfl⟩ := hw
    obtain ⟨hP1, hK1, hD1⟩ := hB
    rw [ht] at hP1
    obtain ⟨hP, hD⟩ := va_join (wr := [(o, .inl (cJ, 1, .inr (.inl fo)))]) (w1 := (wA cI cZ a (v) (g))) hP hD [1, 2, 3, 4, 5, 6, 7, 8, 9, 10, 11, 12, 13, 14, 15, 16, 17, 18, 19, 20] [0] rfl rfl (by decide) (by decide) hk1 hFc hP1 hD1
    generalize H1 = H at hP hS ⊢
    have hP : va_P (dC, dI) clA (wL cI cZ cJ o fo a (v) (g)) H := hP
    have hD : va_D A (wL cI cZ cJ o fo a (v) (g)) := hD
    refine lv_i2l (v := (lowT (if w = 0 then totI g n nd 2 (v 0) (v 1) (v 2) (v 3) else totI g n nd 0 (v 0) (v 1) (v 2) (v 3) - totI g n nd 3 (v 0) (v 1) (v 2) (v 3)) (totI g n nd 2 (v 0) (v 1) (v 2) (v 3)) (totI g n nd 0 (v 0) (v 1) (v 2) (v 3) - totI g n nd 3 (v 0) (v 1) (v 2) (v 3))).toInt64) hx hb dL_share_7 rfl ?_
    refine va_last hx hb hK hP hD hS 0 2 rfl rfl (vp_in_nI (n := 0) (N := 1) (by decide) (by decide)) dL_share_8 (fun H locs hP hD hS => ?_)
    have hP : va_P (dC, dI) clA (wL cI cZ cJ o (vp_updL fo 0 (lowT (if w = 0 then totI g n nd 2 (v 0) (v 1) (v 2) (v 3) else totI g n nd 0 (v 0) (v 1) (v 2) (v 3) - totI g n nd 3 (v 0) (v 1) (v 2) (v 3)) (totI g n nd 2 (v 0) (v 1) (v 2) (v 3)) (totI g n nd 0 (v 0) (v 1) (v 2) (v 3) - totI g n nd 3 (v 0) (v 1) (v 2) (v 3))).toInt64) a (v) (g)) H := hP
    have hD : va_D A (wL cI cZ cJ o (vp_updL fo 0 (lowT (if w = 0 then totI g n nd 2 (v 0) (v 1) (v 2) (v 3) else totI g n nd 0 (v 0) (v 1) (v 2) (v 3) - totI g n nd 3 (v 0) (v 1) (v 2) (v 3)) (totI g n nd 2 (v 0) (v 1) (v 2) (v 3)) (totI g n nd 0 (v 0) (v 1) (v 2) (v 3) - totI g n nd 3 (v 0) (v 1) (v 2) (v 3))).toInt64) a (v) (g)) := hD
    refine lv_goto (tgt := 18) hx hb dL_share_9 (by decide) ?_
    refine lv_iconst (v := 0) hx hb dL_share_18 (by decide) ?_
    exact W.iret (v := 0) hx hb hr (fun t8 ht hW => ⟨⟨0, ((v, g), vp_updL fo 0 (lowT (if w = 0 then totI g n nd 2 (v 0) (v 1) (v 2) (v 3) else totI g n nd 0 (v 0) (v 1) (v 2) (v 3) - totI g n nd 3 (v 0) (v 1) (v 2) (v 3)) (totI g n nd 2 (v 0) (v 1) (v 2) (v 3)) (totI g n nd 0 (v 0) (v 1) (v 2) (v 3) - totI g n nd 3 (v 0) (v 1) (v 2) (v 3))).toInt64), rfl, Or.inl ⟨rfl, okk, rfl⟩, by rw [ht]; exact hP, va_K.moved hW.alike hK, hD⟩, hS.F ht⟩) hS.2.2 dL_share_19
set_option maxHeartbeats 4000000 in
set_option maxRecDepth 100000 in
theorem w_placed (l : Launch) (hl9 : l.stackTraces = false) (dC : Nat → ClassId) (dI : Nat → Nat → Nat) (cI cZ cJ : ClassId) (a : Nat → Nat) (tx : Nat → Nat) (v : Nat → Int32) (g : Nat → Nat → Int32) (o : Nat) (fo : Nat → Int64) (sz : Nat) (n : Nat) (hn : v 5 = nI n) (hn2 : n ≤ 200) (pp : Int32) : Met l yL_placed wsL_placed ({ frames := 10, cells := 1, slots := 6, locals := 163 }) (va_Pc [.ref (a 0), .int pp, .ref o] (fun U => U.heap.size = sz ∧ va_P (dC, dI) clA (wL cI cZ cJ o fo a v g) U.heap ∧ va_K (dC, dI) clA (tyA cI cZ cJ) U ∧ va_D (fun _ => True) (wL cI cZ cJ o fo a v g) ∧ ZX tx (va_A (wL cI cZ cJ o fo a v g) sz) U U.heap ∧ ZC U)) (va_Qi (fun (r : Int32) (u : StA × (Nat → Int64)) => (r = 0 ∧ (inR pp 1 100) ∧ u = ((v, (spS g (v 0) (v 1) (v 2) (v 3) n).2), vp_updL fo 0 (plI (spS g (v 0) (v 1) (v 2) (v 3) n).2 pp (spS g (v 0) (v 1) (v 2) (v 3) n).1).toInt64)) ∨ (trc r (¬ inR pp 1 100) (False) (False) ∧ u = ((v, g), fo))) (fun u t9 => va_P (dC, dI) clA (wL cI cZ cJ o u.2 a u.1.1 u.1.2) t9.heap ∧ va_K (dC, dI) clA (tyA cI cZ cJ) t9 ∧ va_D (va_A (wL cI cZ cJ o fo a v g) sz) (wL cI cZ cJ o u.2 a u.1.1 u.1.2)) (va_A (wL cI cZ cJ o fo a v g) sz)) 1 6 (va_A (wL cI cZ cJ o fo a v g) sz) := by
  refine va_MetW (cc := cL_placed) (maxL := 4) (ret := (some .int)) (by decide) rfl ?_
  intro p e s m args below meth c s₁ B hml hv
  obtain ⟨rfl, hsz, hP, hK, hD0, hZ, hC⟩ := hv
  have hx := B.exec
  have hb := B.bytes
  have hr := B.returns
  have hts := atoms_spec (ws := wsL_placed) B.pre
  have hown : s.vm.findClass RL = some m.cls := findClass_of_methodNamed B.named
  have hlocks := B.notSynchronized
  have hTab := vx_table (x := yL_placed) B (hts _ List.mem_cons_self)
  subst hsz
  have hD := hD0.self (sz := s.heap.size)
  generalize hAe : va_A (wL cI cZ cJ o fo a v g) s.heap.size = A at hD hZ ⊢
  have hA : ∀ q : Nat, s.heap.size ≤ q → A q := fun q h => by rw [← hAe]; exact Or.inr h
  have hS : va_S A s.heap s.heap [] := va_S.rf
  have hP : va_P (dC, dI) clA (wL cI cZ cJ o fo a v g) s.heap := hP
  have hl := lv_entry ([.ref (a 0), .int pp, .ref o]) (n := 4) (Nat.le_of_ble_eq_true rfl)
  rw [lg_entry_eq]
  generalize (lg_sl ([.ref (a 0), .int pp, .ref o]) ++ List.replicate (4 - (lg_sl ([.ref (a 0), .int pp, .ref o])).length) Slot.unset).toArray = ls at hl ⊢
  have hl : lv_has ls 4 [(0, .ref (a 0)), (1, .int pp), (2, .ref o)] := hl
  refine lv_aload_n hx hb dL_placed_0 rfl (lv_at hl 2 rfl) ?_
  refine lv_iconst (v := 0) hx hb dL_placed_1 (by decide) ?_
  refine lv_aload_n hx hb dL_placed_2 rfl (lv_at hl 0 rfl) ?_
  refine lv_iload_n hx hb dL_placed_3 rfl (lv_at hl 1 rfl) ?_
  have hPc := hP.sub (ws' := (wA cI cZ a v g)) [1, 2, 3, 4, 5, 6, 7, 8, 9, 10, 11, 12, 13, 14, 15, 16, 17, 18, 19, 20] rfl
  have hDc := hD.sub (ws' := (wA cI cZ a v g)) [1, 2, 3, 4, 5, 6, 7, 8, 9, 10, 11, 12, 13, 14, 15, 16, 17, 18, 19, 20] (by decide) rfl
  have hFc := va_free (wc := (wA cI cZ a v g)) hD hS hA [1, 2, 3, 4, 5, 6, 7, 8, 9, 10, 11, 12, 13, 14, 15, 16, 17, 18, 19, 20] rfl
  refine vx_calli (vx_runV (As := [.int pp]) (rest := [.int 0, .ref o]) ⟨hx, hb, hml, hown, hts⟩ (c_placed l hl9 dC dI cI cZ cJ a tx v g s.heap.size n hn hn2 pp) (cwV 1 hts (gd_V ml_L_X4_placed im_X4_placed se_X4_placed in_X4 kX4_placed) rfl rfl rfl (by decide +kernel) ⟨Nat.le_of_ble_eq_true rfl, Nat.le_of_ble_eq_true rfl⟩) ⟨fun _ U g mk q => by obtain ⟨q0, q1, qP, qK, qD, qZ⟩ := q; exact ⟨q0, q1, qP, va_K.moved (u := U) (U := U.calling g mk _) (Vm.Alike.refl U.vm) qK, qD, ZX.calling qZ⟩, va_recv hK hPc (ci := 4) (q0 := 0) rfl rfl, fun U hU hW => ⟨rfl, by rw [hU], by rw [hU]; exact hPc, va_K.moved hW.alike hK, hDc.weaken (fun _ _ _ _ => trivial), ZX.call hZ hS hFc hW hU⟩⟩ rfl rfl hl.1 rfl (lv_room (Nat.le_of_ble_eq_true rfl)) dL_placed_4 ⟨Nat.le_of_ble_eq_true rfl, Nat.le_of_ble_eq_true rfl⟩) hS (fun q _ h => hFc q h) hFc (fun q _ h => hFc q h) (fun E9 ce q9 u9 t9 H1 locs ht hvm hp hB hz1 hk1 hS hcell hcv hcl => ?_) (fun r4 u9 t9 H1 locs ht hvm hw hB hz1 hk1 hS => ?_)
  · obtain ⟨rfl, hP1, hK1, hD1⟩ := hB
    rw [ht] at hP1
    obtain ⟨hP, hD⟩ := va_join (wr := [(o, .inl (cJ, 1, .inr (.inl fo)))]) (w1 := (wA cI cZ a v g)) hP hD [1, 2, 3, 4, 5, 6, 7, 8, 9, 10, 11, 12, 13, 14, 15, 16, 17, 18, 19, 20] [0] rfl rfl (by decide) (by decide) hk1 hFc hP1 hD1
    rcases hp with ⟨rfl, h1⟩ | ⟨rfl, h1, h2⟩ | ⟨rfl, h1, h2, h3⟩
    · refine vx_catch (name := "java/lang/IndexOutOfBoundsException") hown ([]) ⟨0, 9, 12, 15⟩ ([]) hTab (fun z hz => absurd hz List.not_mem_nil) (by decide) (by decide) (hts _ (List.mem_cons_of_mem _ cl_L_IndexOutOfBoundsException)) (va_Nw.use rfl hZ.w.w4) hcell hcv hcl ?_
      refine lv_astore_n (lv' := [(3, .ref q9), (0, .ref (a 0)), (1, .int pp), (2, .ref o)]) hx hb dL_placed_12 rfl hl (by decide) rfl (fun ls hl => ?_)
      refine lv_iconst (v := 1) hx hb dL_placed_13 (by decide) ?_
      exact W.iret (v := 1) hx hb hr (fun t8 ht hW => ⟨⟨1, ((v, g), fo), rfl, Or.inr ⟨Or.inl ⟨rfl, h1⟩, rfl⟩, by rw [ht]; exact hP, va_K.moved hW.alike hK, hD⟩, hS.F ht⟩) hS.2.2 dL_placed_14
    · exact absurd h2 id
    · exact absurd h3 id
  · obtain ⟨rfl, okk, rfl⟩ := hw
    obtain ⟨hP1, hK1, hD1⟩ := hB
    rw [ht] at hP1
    obtain ⟨hP, hD⟩ := va_join (wr := [(o, .inl (cJ, 1, .inr (.inl fo)))]) (w1 := (wA cI cZ a (v) ((spS g (v 0) (v 1) (v 2) (v 3) n).2))) hP hD [1, 2, 3, 4, 5, 6, 7, 8, 9, 10, 11, 12, 13, 14, 15, 16, 17, 18, 19, 20] [0] rfl rfl (by decide) (by decide) hk1 hFc hP1 hD1
    generalize H1 = H at hP hS ⊢
    have hP : va_P (dC, dI) clA (wL cI cZ cJ o fo a (v) ((spS g (v 0) (v 1) (v 2) (v 3) n).2)) H := hP
    have hD : va_D A (wL cI cZ cJ o fo a (v) ((spS g (v 0) (v 1) (v 2) (v 3) n).2)) := hD
    refine lv_i2l (v := (plI (spS g (v 0) (v 1) (v 2) (v 3) n).2 pp (spS g (v 0) (v 1) (v 2) (v 3) n).1).toInt64) hx hb dL_placed_7 rfl ?_
    refine va_last hx hb hK hP hD hS 0 2 rfl rfl (vp_in_nI (n := 0) (N := 1) (by decide) (by decide)) dL_placed_8 (fun H locs hP hD hS => ?_)
    have hP : va_P (dC, dI) clA (wL cI cZ cJ o (vp_updL fo 0 (plI (spS g (v 0) (v 1) (v 2) (v 3) n).2 pp (spS g (v 0) (v 1) (v 2) (v 3) n).1).toInt64) a (v) ((spS g (v 0) (v 1) (v 2) (v 3) n).2)) H := hP
    have hD : va_D A (wL cI cZ cJ o (vp_updL fo 0 (plI (spS g (v 0) (v 1) (v 2) (v 3) n).2 pp (spS g (v 0) (v 1) (v 2) (v 3) n).1).toInt64) a (v) ((spS g (v 0) (v 1) (v 2) (v 3) n).2)) := hD
    refine lv_goto (tgt := 15) hx hb dL_placed_9 (by decide) ?_
    refine lv_iconst (v := 0) hx hb dL_placed_15 (by decide) ?_
    exact W.iret (v := 0) hx hb hr (fun t8 ht hW => ⟨⟨0, ((v, (spS g (v 0) (v 1) (v 2) (v 3) n).2), vp_updL fo 0 (plI (spS g (v 0) (v 1) (v 2) (v 3) n).2 pp (spS g (v 0) (v 1) (v 2) (v 3) n).1).toInt64), rfl, Or.inl ⟨rfl, okk, rfl⟩, by rw [ht]; exact hP, va_K.moved hW.alike hK, hD⟩, hS.F ht⟩) hS.2.2 dL_placed_16
set_option maxHeartbeats 4000000 in
set_option maxRecDepth 100000 in
theorem w_compare (l : Launch) (hl9 : l.stackTraces = false) (dC : Nat → ClassId) (dI : Nat → Nat → Nat) (cI cZ cJ : ClassId) (a : Nat → Nat) (tx : Nat → Nat) (v : Nat → Int32) (g : Nat → Nat → Int32) (o : Nat) (fo : Nat → Int64) (sz : Nat) (n : Nat) (hn : v 5 = nI n) (hn2 : n ≤ 200) (nd : Nat) (hnd : v 4 = nI nd) (hnd2 : nd ≤ 6) (f t : Int32) : Met l yL_compare wsL_compare ({ frames := 11, cells := 4, slots := 24, locals := 187 }) (va_Pc [.ref (a 0), .int f, .int t, .ref o] (fun U => U.heap.size = sz ∧ va_P (dC, dI) clA (wL cI cZ cJ o fo a v g) U.heap ∧ va_K (dC, dI) clA (tyA cI cZ cJ) U ∧ va_D (fun _ => True) (wL cI cZ cJ o fo a v g) ∧ ZX tx (va_A (wL cI cZ cJ o fo a v g) sz) U U.heap ∧ ZC U)) (va_Qi (fun (r : Int32) (u : StA × (Nat → Int64)) => (r = 0 ∧ ((inR f 0 9999 ∧ inR t f 9999) ∧ 0 < totI g n nd 0 (v 0) (v 1) (v 2) (v 3) - totI g n nd 3 (v 0) (v 1) (v 2) (v 3) ∧ 0 < totI g n nd 0 f t (v 2) (v 3) - totI g n nd 3 f t (v 2) (v 3)) ∧ u = ((v, g), vp_updL fo 0 (icmp (totI g n nd 2 (v 0) (v 1) (v 2) (v 3) * (totI g n nd 0 f t (v 2) (v 3) - totI g n nd 3 f t (v 2) (v 3))) (totI g n nd 2 f t (v 2) (v 3) * (totI g n nd 0 (v 0) (v 1) (v 2) (v 3) - totI g n nd 3 (v 0) (v 1) (v 2) (v 3)))).toInt64)) ∨ (trc r (¬ (inR f 0 9999 ∧ inR t f 9999)) (¬ 0 < totI g n nd 0 (v 0) (v 1) (v 2) (v 3) - totI g n nd 3 (v 0) (v 1) (v 2) (v 3) ∨ ¬ 0 < totI g n nd 0 f t (v 2) (v 3) - totI g n nd 3 f t (v 2) (v 3)) (False) ∧ u = ((v, g), fo))) (fun u t9 => va_P (dC, dI) clA (wL cI cZ cJ o u.2 a u.1.1 u.1.2) t9.heap ∧ va_K (dC, dI) clA (tyA cI cZ cJ) t9 ∧ va_D (va_A (wL cI cZ cJ o fo a v g) sz) (wL cI cZ cJ o u.2 a u.1.1 u.1.2)) (va_A (wL cI cZ cJ o fo a v g) sz)) 4 24 (va_A (wL cI cZ cJ o fo a v g) sz) := by
  refine va_MetW (cc := cL_compare) (maxL := 5) (ret := (some .int)) (by decide) rfl ?_
  intro p e s m args below meth c s₁ B hml hv
  obtain ⟨rfl, hsz, hP, hK, hD0, hZ, hC⟩ := hv
  have hx := B.exec
  have hb := B.bytes
  have hr := B.returns
  have hts := atoms_spec (ws := wsL_compare) B.pre
  have hown : s.vm.findClass RL = some m.cls := findClass_of_methodNamed B.named
  have hlocks := B.notSynchronized
  have hTab := vx_table (x := yL_compare) B (hts _ List.mem_cons_self)
  subst hsz
  have hD := hD0.self (sz := s.heap.size)
  generalize hAe : va_A (wL cI cZ cJ o fo a v g) s.heap.size = A at hD hZ ⊢
  have hA : ∀ q : Nat, s.heap.size ≤ q → A q := fun q h => by rw [← hAe]; exact Or.inr h
  have hS : va_S A s.heap s.heap [] := va_S.rf
  have hP : va_P (dC, dI) clA (wL cI cZ cJ o fo a v g) s.heap := hP
  have hl := lv_entry ([.ref (a 0), .int f, .int t, .ref o]) (n := 5) (Nat.le_of_ble_eq_true rfl)
  rw [lg_entry_eq]
  generalize (lg_sl ([.ref (a 0), .int f, .int t, .ref o]) ++ List.replicate (5 - (lg_sl ([.ref (a 0), .int f, .int t, .ref o])).length) Slot.unset).toArray = ls at hl ⊢
  have hl : lv_has ls 5 [(0, .ref (a 0)), (1, .int f), (2, .int t), (3, .ref o)] := hl
  refine lv_aload_n hx hb dL_compare_0 rfl (lv_at hl 3 rfl) ?_
  refine lv_iconst (v := 0) hx hb dL_compare_1 (by decide) ?_
  refine lv_aload_n hx hb dL_compare_2 rfl (lv_at hl 0 rfl) ?_
  refine lv_iload_n hx hb dL_compare_3 rfl (lv_at hl 1 rfl) ?_
  refine lv_iload_n hx hb dL_compare_4 rfl (lv_at hl 2 rfl) ?_
  have hPc := hP.sub (ws' := (wA cI cZ a v g)) [1, 2, 3, 4, 5, 6, 7, 8, 9, 10, 11, 12, 13, 14, 15, 16, 17, 18, 19, 20] rfl
  have hDc := hD.sub (ws' := (wA cI cZ a v g)) [1, 2, 3, 4, 5, 6, 7, 8, 9, 10, 11, 12, 13, 14, 15, 16, 17, 18, 19, 20] (by decide) rfl
  have hFc := va_free (wc := (wA cI cZ a v g)) hD hS hA [1, 2, 3, 4, 5, 6, 7, 8, 9, 10, 11, 12, 13, 14, 15, 16, 17, 18, 19, 20] rfl
  refine vx_calli (vx_runV (As := [.int f, .int t]) (rest := [.int 0, .ref o]) ⟨hx, hb, hml, hown, hts⟩ (c_compare l hl9 dC dI cI cZ cJ a tx v g s.heap.size n hn hn2 nd hnd hnd2 f t) (cwV 2 hts (gd_V ml_L_X4_compare im_X4_compare se_X4_compare in_X4 kX4_compare) rfl rfl rfl (by decide +kernel) ⟨Nat.le_of_ble_eq_true rfl, Nat.le_of_ble_eq_true rfl⟩) ⟨fun _ U g mk q => by obtain ⟨q0, q1, qP, qK, qD, qZ⟩ := q; exact ⟨q0, q1, qP, va_K.moved (u := U) (U := U.calling g mk _) (Vm.Alike.refl U.vm) qK, qD, ZX.calling qZ⟩, va_recv hK hPc (ci := 4) (q0 := 0) rfl rfl, fun U hU hW => ⟨rfl, by rw [hU], by rw [hU]; exact hPc, va_K.moved hW.alike hK, hDc.weaken (fun _ _ _ _ => trivial), ZX.call hZ hS hFc hW hU⟩⟩ rfl rfl hl.1 rfl (lv_room (Nat.le_of_ble_eq_true rfl)) dL_compare_5 ⟨Nat.le_of_ble_eq_true rfl, Nat.le_of_ble_eq_true rfl⟩) hS (fun q _ h => hFc q h) hFc (fun q _ h => hFc q h) (fun E9 ce q9 u9 t9 H1 locs ht hvm hp hB hz1 hk1 hS hcell hcv hcl => ?_) (fun r5 u9 t9 H1 locs ht hvm hw hB hz1 hk1 hS => ?_)
  · obtain ⟨rfl, hP1, hK1, hD1⟩ := hB
    rw [ht] at hP1
    obtain ⟨hP, hD⟩ := va_join (wr := [(o, .inl (cJ, 1, .inr (.inl fo)))]) (w1 := (wA cI cZ a v g)) hP hD [1, 2, 3, 4, 5, 6, 7, 8, 9, 10, 11, 12, 13, 14, 15, 16, 17, 18, 19, 20] [0] rfl rfl (by decide) (by decide) hk1 hFc hP1 hD1
    rcases hp with ⟨rfl, h1⟩ | ⟨rfl, h1, h2⟩ | ⟨rfl, h1, h2, h3⟩
    · refine vx_catch (name := "java/lang/IndexOutOfBoundsException") hown ([]) ⟨0, 10, 13, 15⟩ (tableOf [(0, 10, 17, 41)]) hTab (fun z hz => absurd hz List.not_mem_nil) (by decide) (by decide) (hts _ (List.mem_cons_of_mem _ cl_L_IndexOutOfBoundsException)) (va_Nw.use rfl hZ.w.w4) hcell hcv hcl ?_
      refine lv_astore (lv' := [(4, .ref q9), (0, .ref (a 0)), (1, .int f), (2, .int t), (3, .ref o)]) hx hb dL_compare_13 hl (by decide) rfl (fun ls hl => ?_)
      refine lv_iconst (v := 1) hx hb dL_compare_15 (by decide) ?_
      exact W.iret (v := 1) hx hb hr (fun t8 ht hW => ⟨⟨1, ((v, g), fo), rfl, Or.inr ⟨Or.inl ⟨rfl, h1⟩, rfl⟩, by rw [ht]; exact hP, va_K.moved hW.alike hK, hD⟩, hS.F ht⟩) hS.2.2 dL_compare_16
    · refine vx_catch (name := "java/lang/ArithmeticException") hown (tableOf [(0, 10, 13, 15)]) ⟨0, 10, 17, 41⟩ ([]) hTab (fun z hz => by simp only [tableOf, List.map, List.mem_cons, List.not_mem_nil, or_false] at hz; rcases hz with rfl; exact Or.inr ⟨by decide, "java/lang/IndexOutOfBoundsException", hts _ (List.mem_cons_of_mem _ cl_L_IndexOutOfBoundsException), hC.2.2.2.2⟩) (by decide) (by decide) (hts _ (List.mem_cons_of_mem _ cl_L_ArithmeticException)) (va_Nw.use rfl hZ.w.w6) hcell hcv hcl ?_
      refine lv_astore (lv' := [(4, .ref q9), (0, .ref (a 0)), (1, .int f), (2, .int t), (3, .ref o)]) hx hb dL_compare_17 hl (by decide) rfl (fun ls hl => ?_)
      refine lv_iconst (v := 2) hx hb dL_compare_19 (by decide) ?_
      exact W.iret (v := 2) hx hb hr (fun t8 ht hW => ⟨⟨2, ((v, g), fo), rfl, Or.inr ⟨Or.inr (Or.inl ⟨rfl, h1, h2⟩), rfl⟩, by rw [ht]; exact hP, va_K.moved hW.alike hK, hD⟩, hS.F ht⟩) hS.2.2 dL_compare_20
    · exact absurd h3 id
  · obtain ⟨rfl, okk, rfl⟩ := hw
    obtain ⟨hP1, hK1, hD1⟩ := hB
    rw [ht] at hP1
    obtain ⟨hP, hD⟩ := va_join (wr := [(o, .inl (cJ, 1, .inr (.inl fo)))]) (w1 := (wA cI cZ a (v) (g))) hP hD [1, 2, 3, 4, 5, 6, 7, 8, 9, 10, 11, 12, 13, 14, 15, 16, 17, 18, 19, 20] [0] rfl rfl (by decide) (by decide) hk1 hFc hP1 hD1
    generalize H1 = H at hP hS ⊢
    have hP : va_P (dC, dI) clA (wL cI cZ cJ o fo a (v) (g)) H := hP
    have hD : va_D A (wL cI cZ cJ o fo a (v) (g)) := hD
    refine lv_i2l (v := (icmp (totI g n nd 2 (v 0) (v 1) (v 2) (v 3) * (totI g n nd 0 f t (v 2) (v 3) - totI g n nd 3 f t (v 2) (v 3))) (totI g n nd 2 f t (v 2) (v 3) * (totI g n nd 0 (v 0) (v 1) (v 2) (v 3) - totI g n nd 3 (v 0) (v 1) (v 2) (v 3)))).toInt64) hx hb dL_compare_8 rfl ?_
    refine va_last hx hb hK hP hD hS 0 2 rfl rfl (vp_in_nI (n := 0) (N := 1) (by decide) (by decide)) dL_compare_9 (fun H locs hP hD hS => ?_)
    have hP : va_P (dC, dI) clA (wL cI cZ cJ o (vp_updL fo 0 (icmp (totI g n nd 2 (v 0) (v 1) (v 2) (v 3) * (totI g n nd 0 f t (v 2) (v 3) - totI g n nd 3 f t (v 2) (v 3))) (totI g n nd 2 f t (v 2) (v 3) * (totI g n nd 0 (v 0) (v 1) (v 2) (v 3) - totI g n nd 3 (v 0) (v 1) (v 2) (v 3)))).toInt64) a (v) (g)) H := hP
    have hD : va_D A (wL cI cZ cJ o (vp_updL fo 0 (icmp (totI g n nd 2 (v 0) (v 1) (v 2) (v 3) * (totI g n nd 0 f t (v 2) (v 3) - totI g n nd 3 f t (v 2) (v 3))) (totI g n nd 2 f t (v 2) (v 3) * (totI g n nd 0 (v 0) (v 1) (v 2) (v 3) - totI g n nd 3 (v 0) (v 1) (v 2) (v 3)))).toInt64) a (v) (g)) := hD
    refine lv_goto (tgt := 21) hx hb dL_compare_10 (by decide) ?_
    refine lv_iconst (v := 0) hx hb dL_compare_21 (by decide) ?_
    exact W.iret (v := 0) hx hb hr (fun t8 ht hW => ⟨⟨0, ((v, g), vp_updL fo 0 (icmp (totI g n nd 2 (v 0) (v 1) (v 2) (v 3) * (totI g n nd 0 f t (v 2) (v 3) - totI g n nd 3 f t (v 2) (v 3))) (totI g n nd 2 f t (v 2) (v 3) * (totI g n nd 0 (v 0) (v 1) (v 2) (v 3) - totI g n nd 3 (v 0) (v 1) (v 2) (v 3)))).toInt64), rfl, Or.inl ⟨rfl, okk, rfl⟩, by rw [ht]; exact hP, va_K.moved hW.alike hK, hD⟩, hS.F ht⟩) hS.2.2 dL_compare_22
set_option maxHeartbeats 4000000 in
set_option maxRecDepth 100000 in
theorem w_trend (l : Launch) (hl9 : l.stackTraces = false) (dC : Nat → ClassId) (dI : Nat → Nat → Nat) (cI cZ cJ : ClassId) (a : Nat → Nat) (tx : Nat → Nat) (v : Nat → Int32) (g : Nat → Nat → Int32) (o : Nat) (fo : Nat → Int64) (sz : Nat) (n : Nat) (hn : v 5 = nI n) (hn2 : n ≤ 200) (fr dy pr w : Int32) : Met l yL_trend wsL_trend ({ frames := 11, cells := 4, slots := 24, locals := 303 }) (va_Pc [.ref (a 0), .int fr, .int dy, .int pr, .int w, .ref o] (fun U => U.heap.size = sz ∧ va_P (dC, dI) clA (wL cI cZ cJ o fo a v g) U.heap ∧ va_K (dC, dI) clA (tyA cI cZ cJ) U ∧ va_D (fun _ => True) (wL cI cZ cJ o fo a v g) ∧ ZX tx (va_A (wL cI cZ cJ o fo a v g) sz) U U.heap ∧ ZC U)) (va_Qi (fun (r : Int32) (u : StA × (Nat → Int64)) => (r = 0 ∧ (inU w 3 ∧ inR pr 2 6 ∧ inR dy 1 1000 ∧ inR fr 0 (10000 - dy * pr)) ∧ u = ((upd v 6 pr, trG v g fr dy n pr.toNatClampNeg), vp_updL fo 0 (trA (trG v g fr dy n pr.toNatClampNeg) pr.toNatClampNeg w).toInt64)) ∨ (trc r (¬ inU w 3) (¬ inR pr 2 6 ∨ ¬ inR dy 1 1000 ∨ ¬ inR fr 0 (10000 - dy * pr)) (False) ∧ u = ((v, g), fo))) (fun u t9 => va_P (dC, dI) clA (wL cI cZ cJ o u.2 a u.1.1 u.1.2) t9.heap ∧ va_K (dC, dI) clA (tyA cI cZ cJ) t9 ∧ va_D (va_A (wL cI cZ cJ o fo a v g) sz) (wL cI cZ cJ o u.2 a u.1.1 u.1.2)) (va_A (wL cI cZ cJ o fo a v g) sz)) 4 24 (va_A (wL cI cZ cJ o fo a v g) sz) := by
  refine va_MetW (cc := cL_trend) (maxL := 7) (ret := (some .int)) (by decide) rfl ?_
  intro p e s m args below meth c s₁ B hml hv
  obtain ⟨rfl, hsz, hP, hK, hD0, hZ, hC⟩ := hv
  have hx := B.exec
  have hb := B.bytes
  have hr := B.returns
  have hts := atoms_spec (ws := wsL_trend) B.pre
  have hown : s.vm.findClass RL = some m.cls := findClass_of_methodNamed B.named
  have hlocks := B.notSynchronized
  have hTab := vx_table (x := yL_trend) B (hts _ List.mem_cons_self)
  subst hsz
  have hD := hD0.self (sz := s.heap.size)
  generalize hAe : va_A (wL cI cZ cJ o fo a v g) s.heap.size = A at hD hZ ⊢
  have hA : ∀ q : Nat, s.heap.size ≤ q → A q := fun q h => by rw [← hAe]; exact Or.inr h
  have hS : va_S A s.heap s.heap [] := va_S.rf
  have hP : va_P (dC, dI) clA (wL cI cZ cJ o fo a v g) s.heap := hP
  have hl := lv_entry ([.ref (a 0), .int fr, .int dy, .int pr, .int w, .ref o]) (n := 7) (Nat.le_of_ble_eq_true rfl)
  rw [lg_entry_eq]
  generalize (lg_sl ([.ref (a 0), .int fr, .int dy, .int pr, .int w, .ref o]) ++ List.replicate (7 - (lg_sl ([.ref (a 0), .int fr, .int dy, .int pr, .int w, .ref o])).length) Slot.unset).toArray = ls at hl ⊢
  have hl : lv_has ls 7 [(0, .ref (a 0)), (1, .int fr), (2, .int dy), (3, .int pr), (4, .int w), (5, .ref o)] := hl
  refine lv_aload hx hb dL_trend_0 (lv_at hl 5 rfl) ?_
  refine lv_iconst (v := 0) hx hb dL_trend_2 (by decide) ?_
  refine lv_aload_n hx hb dL_trend_3 rfl (lv_at hl 0 rfl) ?_
  refine lv_iload_n hx hb dL_trend_4 rfl (lv_at hl 1 rfl) ?_
  refine lv_iload_n hx hb dL_trend_5 rfl (lv_at hl 2 rfl) ?_
  refine lv_iload_n hx hb dL_trend_6 rfl (lv_at hl 3 rfl) ?_
  refine lv_iload hx hb dL_trend_7 (lv_at hl 4 rfl) ?_
  have hPc := hP.sub (ws' := (wA cI cZ a v g)) [1, 2, 3, 4, 5, 6, 7, 8, 9, 10, 11, 12, 13, 14, 15, 16, 17, 18, 19, 20] rfl
  have hDc := hD.sub (ws' := (wA cI cZ a v g)) [1, 2, 3, 4, 5, 6, 7, 8, 9, 10, 11, 12, 13, 14, 15, 16, 17, 18, 19, 20] (by decide) rfl
  have hFc := va_free (wc := (wA cI cZ a v g)) hD hS hA [1, 2, 3, 4, 5, 6, 7, 8, 9, 10, 11, 12, 13, 14, 15, 16, 17, 18, 19, 20] rfl
  refine vx_calli (vx_runV (As := [.int fr, .int dy, .int pr, .int w]) (rest := [.int 0, .ref o]) ⟨hx, hb, hml, hown, hts⟩ (c_trend l hl9 dC dI cI cZ cJ a tx v g s.heap.size n hn hn2 fr dy pr w) (cwV 4 hts (gd_V ml_L_X4_trend im_X4_trend se_X4_trend in_X4 kX4_trend) rfl rfl rfl (by decide +kernel) ⟨Nat.le_of_ble_eq_true rfl, Nat.le_of_ble_eq_true rfl⟩) ⟨fun _ U g mk q => by obtain ⟨q0, q1, qP, qK, qD, qZ⟩ := q; exact ⟨q0, q1, qP, va_K.moved (u := U) (U := U.calling g mk _) (Vm.Alike.refl U.vm) qK, qD, ZX.calling qZ⟩, va_recv hK hPc (ci := 4) (q0 := 0) rfl rfl, fun U hU hW => ⟨rfl, by rw [hU], by rw [hU]; exact hPc, va_K.moved hW.alike hK, hDc.weaken (fun _ _ _ _ => trivial), ZX.call hZ hS hFc hW hU⟩⟩ rfl rfl hl.1 rfl (lv_room (Nat.le_of_ble_eq_true rfl)) dL_trend_9 ⟨Nat.le_of_ble_eq_true rfl, Nat.le_of_ble_eq_true rfl⟩) hS (fun q _ h => hFc q h) hFc (fun q _ h => hFc q h) (fun E9 ce q9 u9 t9 H1 locs ht hvm hp hB hz1 hk1 hS hcell hcv hcl => ?_) (fun r9 u9 t9 H1 locs ht hvm hw hB hz1 hk1 hS => ?_)
  · obtain ⟨rfl, hP1, hK1, hD1⟩ := hB
    rw [ht] at hP1
    obtain ⟨hP, hD⟩ := va_join (wr := [(o, .inl (cJ, 1, .inr (.inl fo)))]) (w1 := (wA cI cZ a v g)) hP hD [1, 2, 3, 4, 5, 6, 7, 8, 9, 10, 11, 12, 13, 14, 15, 16, 17, 18, 19, 20] [0] rfl rfl (by decide) (by decide) hk1 hFc hP1 hD1
    rcases hp with ⟨rfl, h1⟩ | ⟨rfl, h1, h2⟩ | ⟨rfl, h1, h2, h3⟩
    · refine vx_catch (name := "java/lang/IllegalArgumentException") hown ([]) ⟨0, 14, 17, 13⟩ (tableOf [(0, 14, 21, 15)]) hTab (fun z hz => absurd hz List.not_mem_nil) (by decide) (by decide) (hts _ (List.mem_cons_of_mem _ cl_L_IllegalArgumentException)) (va_Nw.use rfl hZ.w.w3) hcell hcv hcl ?_
      refine lv_astore (lv' := [(6, .ref q9), (0, .ref (a 0)), (1, .int fr), (2, .int dy), (3, .int pr), (4, .int w), (5, .ref o)]) hx hb dL_trend_17 hl (by decide) rfl (fun ls hl => ?_)
      refine lv_iconst (v := 1) hx hb dL_trend_19 (by decide) ?_
      exact W.iret (v := 1) hx hb hr (fun t8 ht hW => ⟨⟨1, ((v, g), fo), rfl, Or.inr ⟨Or.inl ⟨rfl, h1⟩, rfl⟩, by rw [ht]; exact hP, va_K.moved hW.alike hK, hD⟩, hS.F ht⟩) hS.2.2 dL_trend_20
    · refine vx_catch (name := "java/lang/IndexOutOfBoundsException") hown (tableOf [(0, 14, 17, 13)]) ⟨0, 14, 21, 15⟩ ([]) hTab (fun z hz => by simp only [tableOf, List.map, List.mem_cons, List.not_mem_nil, or_false] at hz; rcases hz with rfl; exact Or.inr ⟨by decide, "java/lang/IllegalArgumentException", hts _ (List.mem_cons_of_mem _ cl_L_IllegalArgumentException), hC.1⟩) (by decide) (by decide) (hts _ (List.mem_cons_of_mem _ cl_L_IndexOutOfBoundsException)) (va_Nw.use rfl hZ.w.w4) hcell hcv hcl ?_
      refine lv_astore (lv' := [(6, .ref q9), (0, .ref (a 0)), (1, .int fr), (2, .int dy), (3, .int pr), (4, .int w), (5, .ref o)]) hx hb dL_trend_21 hl (by decide) rfl (fun ls hl => ?_)
      refine lv_iconst (v := 2) hx hb dL_trend_23 (by decide) ?_
      exact W.iret (v := 2) hx hb hr (fun t8 ht hW => ⟨⟨2, ((v, g), fo), rfl, Or.inr ⟨Or.inr (Or.inl ⟨rfl, h1, h2⟩), rfl⟩, by rw [ht]; exact hP, va_K.moved hW.alike hK, hD⟩, hS.F ht⟩) hS.2.2 dL_trend_24
    · exact absurd h3 id
  · obtain ⟨rfl, okk, rfl⟩ := hw
    obtain ⟨hP1, hK1, hD1⟩ := hB
    rw [ht] at hP1
    obtain ⟨hP, hD⟩ := va_join (wr := [(o, .inl (cJ, 1, .inr (.inl fo)))]) (w1 := (wA cI cZ a (upd v 6 pr) (trG v g fr dy n pr.toNatClampNeg))) hP hD [1, 2, 3, 4, 5, 6, 7, 8, 9, 10, 11, 12, 13, 14, 15, 16, 17, 18, 19, 20] [0] rfl rfl (by decide) (by decide) hk1 hFc hP1 hD1
    generalize H1 = H at hP hS ⊢
    have hP : va_P (dC, dI) clA (wL cI cZ cJ o fo a (upd v 6 pr) (trG v g fr dy n pr.toNatClampNeg)) H := hP
    have hD : va_D A (wL cI cZ cJ o fo a (upd v 6 pr) (trG v g fr dy n pr.toNatClampNeg)) := hD
    refine lv_i2l (v := (trA (trG v g fr dy n pr.toNatClampNeg) pr.toNatClampNeg w).toInt64) hx hb dL_trend_12 rfl ?_
    refine va_last hx hb hK hP hD hS 0 2 rfl rfl (vp_in_nI (n := 0) (N := 1) (by decide) (by decide)) dL_trend_13 (fun H locs hP hD hS => ?_)
    have hP : va_P (dC, dI) clA (wL cI cZ cJ o (vp_updL fo 0 (trA (trG v g fr dy n pr.toNatClampNeg) pr.toNatClampNeg w).toInt64) a (upd v 6 pr) (trG v g fr dy n pr.toNatClampNeg)) H := hP
    have hD : va_D A (wL cI cZ cJ o (vp_updL fo 0 (trA (trG v g fr dy n pr.toNatClampNeg) pr.toNatClampNeg w).toInt64) a (upd v 6 pr) (trG v g fr dy n pr.toNatClampNeg)) := hD
    refine lv_goto (tgt := 25) hx hb dL_trend_14 (by decide) ?_
    refine lv_iconst (v := 0) hx hb dL_trend_25 (by decide) ?_
    exact W.iret (v := 0) hx hb hr (fun t8 ht hW => ⟨⟨0, ((upd v 6 pr, trG v g fr dy n pr.toNatClampNeg), vp_updL fo 0 (trA (trG v g fr dy n pr.toNatClampNeg) pr.toNatClampNeg w).toInt64), rfl, Or.inl ⟨rfl, okk, rfl⟩, by rw [ht]; exact hP, va_K.moved hW.alike hK, hD⟩, hS.F ht⟩) hS.2.2 dL_trend_26
set_option maxHeartbeats 4000000 in
set_option maxRecDepth 100000 in
theorem w_people (l : Launch) (hl9 : l.stackTraces = false) (dC : Nat → ClassId) (dI : Nat → Nat → Nat) (cI cZ cJ : ClassId) (a : Nat → Nat) (tx : Nat → Nat) (v : Nat → Int32) (g : Nat → Nat → Int32) (sz : Nat) (ar x : Int32) : Met l yL_people wsL_people ({ frames := 10, cells := 2, slots := 12, locals := 164 }) (va_Pc [.ref (a 0), .int ar, .int x] (fun U => U.heap.size = sz ∧ va_P (dC, dI) clA (wA cI cZ a v g) U.heap ∧ va_K (dC, dI) clA (tyA cI cZ cJ) U ∧ va_D (fun _ => True) (wA cI cZ a v g) ∧ ZX tx (va_A (wA cI cZ a v g) sz) U U.heap ∧ ZC U)) (va_Qi (fun (r : Int32) (u : StA) => (r = 0 ∧ (inU ar 10 ∧ inR x 0 1000000) ∧ u = (v, upg g 0 ar.toNatClampNeg x)) ∨ (trc r (¬ inU ar 10) (¬ inR x 0 1000000) (False) ∧ u = (v, g))) (fun u t9 => va_P (dC, dI) clA (wA cI cZ a u.1 u.2) t9.heap ∧ va_K (dC, dI) clA (tyA cI cZ cJ) t9 ∧ va_D (va_A (wA cI cZ a v g) sz) (wA cI cZ a u.1 u.2)) (va_A (wA cI cZ a v g) sz)) 2 12 (va_A (wA cI cZ a v g) sz) := by
  refine va_MetW (cc := cL_people) (maxL := 4) (ret := (some .int)) (by decide) rfl ?_
  intro p e s m args below meth c s₁ B hml hv
  obtain ⟨rfl, hsz, hP, hK, hD0, hZ, hC⟩ := hv
  have hx := B.exec
  have hb := B.bytes
  have hr := B.returns
  have hts := atoms_spec (ws := wsL_people) B.pre
  have hown : s.vm.findClass RL = some m.cls := findClass_of_methodNamed B.named
  have hlocks := B.notSynchronized
  have hTab := vx_table (x := yL_people) B (hts _ List.mem_cons_self)
  subst hsz
  have hD := hD0.self (sz := s.heap.size)
  generalize hAe : va_A (wA cI cZ a v g) s.heap.size = A at hD hZ ⊢
  have hA : ∀ q : Nat, s.heap.size ≤ q → A q := fun q h => by rw [← hAe]; exact Or.inr h
  have hS : va_S A s.heap s.heap [] := va_S.rf
  have hP : va_P (dC, dI) clA (wA cI cZ a v g) s.heap := hP
  have hl := lv_entry ([.ref (a 0), .int ar, .int x]) (n := 4) (Nat.le_of_ble_eq_true rfl)
  rw [lg_entry_eq]
  generalize (lg_sl ([.ref (a 0), .int ar, .int x]) ++ List.replicate (4 - (lg_sl ([.ref (a 0), .int ar, .int x])).length) Slot.unset).toArray = ls at hl ⊢
  have hl : lv_has ls 4 [(0, .ref (a 0)), (1, .int ar), (2, .int x)] := hl
  refine lv_aload_n hx hb dL_people_0 rfl (lv_at hl 0 rfl) ?_
  refine lv_iload_n hx hb dL_people_1 rfl (lv_at hl 1 rfl) ?_
  refine lv_iload_n hx hb dL_people_2 rfl (lv_at hl 2 rfl) ?_
  have hPc := hP.sub (ws' := (wA cI cZ a v g)) [0, 1, 2, 3, 4, 5, 6, 7, 8, 9, 10, 11, 12, 13, 14, 15, 16, 17, 18, 19] rfl
  have hDc := hD.sub (ws' := (wA cI cZ a v g)) [0, 1, 2, 3, 4, 5, 6, 7, 8, 9, 10, 11, 12, 13, 14, 15, 16, 17, 18, 19] (by decide) rfl
  have hFc := va_free (wc := (wA cI cZ a v g)) hD hS hA [0, 1, 2, 3, 4, 5, 6, 7, 8, 9, 10, 11, 12, 13, 14, 15, 16, 17, 18, 19] rfl
  refine vx_callv (vx_runV (As := [.int ar, .int x]) (rest := []) ⟨hx, hb, hml, hown, hts⟩ (c_people l hl9 dC dI cI cZ cJ a tx v g s.heap.size ar x) (cwV 2 hts (gd_V ml_L_X4_people im_X4_people se_X4_people in_X4 kX4_people) rfl rfl rfl (by decide +kernel) ⟨Nat.le_of_ble_eq_true rfl, Nat.le_of_ble_eq_true rfl⟩) ⟨fun _ U g mk q => by obtain ⟨q0, q1, qP, qK, qD, qZ⟩ := q; exact ⟨q0, q1, qP, va_K.moved (u := U) (U := U.calling g mk _) (Vm.Alike.refl U.vm) qK, qD, ZX.calling qZ⟩, va_recv hK hPc (ci := 4) (q0 := 0) rfl rfl, fun U hU hW => ⟨rfl, by rw [hU], by rw [hU]; exact hPc, va_K.moved hW.alike hK, hDc.weaken (fun _ _ _ _ => trivial), ZX.call hZ hS hFc hW hU⟩⟩ rfl rfl hl.1 rfl (lv_room (Nat.le_of_ble_eq_true rfl)) dL_people_3 ⟨Nat.le_of_ble_eq_true rfl, Nat.le_of_ble_eq_true rfl⟩) hS (fun q _ h => hFc q h) hFc (fun q _ h => hFc q h) (fun E9 ce q9 u9 t9 H1 locs ht hvm hp hB hz1 hk1 hS hcell hcv hcl => ?_) (fun u9 t9 H1 locs ht hvm hw hB hz1 hk1 hS => ?_)
  · obtain ⟨rfl, hP1, hK1, hD1⟩ := hB
    rw [ht] at hP1
    obtain ⟨hP, hD⟩ := va_join (wr := []) (w1 := (wA cI cZ a v g)) hP hD [0, 1, 2, 3, 4, 5, 6, 7, 8, 9, 10, 11, 12, 13, 14, 15, 16, 17, 18, 19] [] rfl rfl (by decide) (by decide) hk1 hFc hP1 hD1
    rcases hp with ⟨rfl, h1⟩ | ⟨rfl, h1, h2⟩ | ⟨rfl, h1, h2, h3⟩
    · refine vx_catch (name := "java/lang/IllegalArgumentException") hown ([]) ⟨0, 6, 9, 13⟩ (tableOf [(0, 6, 12, 15)]) hTab (fun z hz => absurd hz List.not_mem_nil) (by decide) (by decide) (hts _ (List.mem_cons_of_mem _ cl_L_IllegalArgumentException)) (va_Nw.use rfl hZ.w.w3) hcell hcv hcl ?_
      refine lv_astore_n (lv' := [(3, .ref q9), (0, .ref (a 0)), (1, .int ar), (2, .int x)]) hx hb dL_people_9 rfl hl (by decide) rfl (fun ls hl => ?_)
      refine lv_iconst (v := 1) hx hb dL_people_10 (by decide) ?_
      exact W.iret (v := 1) hx hb hr (fun t8 ht hW => ⟨⟨1, (v, g), rfl, Or.inr ⟨Or.inl ⟨rfl, h1⟩, rfl⟩, by rw [ht]; exact hP, va_K.moved hW.alike hK, hD⟩, hS.F ht⟩) hS.2.2 dL_people_11
    · refine vx_catch (name := "java/lang/IndexOutOfBoundsException") hown (tableOf [(0, 6, 9, 13)]) ⟨0, 6, 12, 15⟩ ([]) hTab (fun z hz => by simp only [tableOf, List.map, List.mem_cons, List.not_mem_nil, or_false] at hz; rcases hz with rfl; exact Or.inr ⟨by decide, "java/lang/IllegalArgumentException", hts _ (List.mem_cons_of_mem _ cl_L_IllegalArgumentException), hC.1⟩) (by decide) (by decide) (hts _ (List.mem_cons_of_mem _ cl_L_IndexOutOfBoundsException)) (va_Nw.use rfl hZ.w.w4) hcell hcv hcl ?_
      refine lv_astore_n (lv' := [(3, .ref q9), (0, .ref (a 0)), (1, .int ar), (2, .int x)]) hx hb dL_people_12 rfl hl (by decide) rfl (fun ls hl => ?_)
      refine lv_iconst (v := 2) hx hb dL_people_13 (by decide) ?_
      exact W.iret (v := 2) hx hb hr (fun t8 ht hW => ⟨⟨2, (v, g), rfl, Or.inr ⟨Or.inr (Or.inl ⟨rfl, h1, h2⟩), rfl⟩, by rw [ht]; exact hP, va_K.moved hW.alike hK, hD⟩, hS.F ht⟩) hS.2.2 dL_people_14
    · exact absurd h3 id
  · obtain ⟨okk, rfl⟩ := hw
    obtain ⟨hP1, hK1, hD1⟩ := hB
    rw [ht] at hP1
    obtain ⟨hP, hD⟩ := va_join (wr := []) (w1 := (wA cI cZ a (v) (upg g 0 ar.toNatClampNeg x))) hP hD [0, 1, 2, 3, 4, 5, 6, 7, 8, 9, 10, 11, 12, 13, 14, 15, 16, 17, 18, 19] [] rfl rfl (by decide) (by decide) hk1 hFc hP1 hD1
    generalize H1 = H at hP hS ⊢
    refine lv_goto (tgt := 15) hx hb dL_people_6 (by decide) ?_
    refine lv_iconst (v := 0) hx hb dL_people_15 (by decide) ?_
    exact W.iret (v := 0) hx hb hr (fun t8 ht hW => ⟨⟨0, (v, upg g 0 ar.toNatClampNeg x), rfl, Or.inl ⟨rfl, okk, rfl⟩, by rw [ht]; exact hP, va_K.moved hW.alike hK, hD⟩, hS.F ht⟩) hS.2.2 dL_people_16
set_option maxHeartbeats 4000000 in
set_option maxRecDepth 100000 in
theorem w_perThousand (l : Launch) (hl9 : l.stackTraces = false) (dC : Nat → ClassId) (dI : Nat → Nat → Nat) (cI cZ cJ : ClassId) (a : Nat → Nat) (tx : Nat → Nat) (v : Nat → Int32) (g : Nat → Nat → Int32) (o : Nat) (fo : Nat → Int64) (sz : Nat) (n : Nat) (hn : v 5 = nI n) (hn2 : n ≤ 200) (ar : Int32) : Met l yL_perThousand wsL_perThousand ({ frames := 10, cells := 2, slots := 12, locals := 163 }) (va_Pc [.ref (a 0), .int ar, .ref o] (fun U => U.heap.size = sz ∧ va_P (dC, dI) clA (wL cI cZ cJ o fo a v g) U.heap ∧ va_K (dC, dI) clA (tyA cI cZ cJ) U ∧ va_D (fun _ => True) (wL cI cZ cJ o fo a v g) ∧ ZX tx (va_A (wL cI cZ cJ o fo a v g) sz) U U.heap ∧ ZC U)) (va_Qi (fun (r : Int32) (u : StA × (Nat → Int64)) => (r = 0 ∧ (inU ar 10 ∧ 0 < g 0 ar.toNatClampNeg) ∧ u = ((v, g), vp_updL fo 0 (1000 * cnt (fun i => askB g i (v 0) (v 1) (v 2) ar) n / g 0 ar.toNatClampNeg).toInt64)) ∨ (trc r (¬ inU ar 10) (¬ 0 < g 0 ar.toNatClampNeg) (False) ∧ u = ((v, g), fo))) (fun u t9 => va_P (dC, dI) clA (wL cI cZ cJ o u.2 a u.1.1 u.1.2) t9.heap ∧ va_K (dC, dI) clA (tyA cI cZ cJ) t9 ∧ va_D (va_A (wL cI cZ cJ o fo a v g) sz) (wL cI cZ cJ o u.2 a u.1.1 u.1.2)) (va_A (wL cI cZ cJ o fo a v g) sz)) 2 12 (va_A (wL cI cZ cJ o fo a v g) sz) := by
  refine va_MetW (cc := cL_perThousand) (maxL := 4) (ret := (some .int)) (by decide) rfl ?_
  intro p e s m args below meth c s₁ B hml hv
  obtain ⟨rfl, hsz, hP, hK, hD0, hZ, hC⟩ := hv
  have hx := B.exec
  have hb := B.bytes
  have hr := B.returns
  have hts := atoms_spec (ws := wsL_perThousand) B.pre
  have hown : s.vm.findClass RL = some m.cls := findClass_of_methodNamed B.named
  have hlocks := B.notSynchronized
  have hTab := vx_table (x := yL_perThousand) B (hts _ List.mem_cons_self)
  subst hsz
  have hD := hD0.self (sz := s.heap.size)
  generalize hAe : va_A (wL cI cZ cJ o fo a v g) s.heap.size = A at hD hZ ⊢
  have hA : ∀ q : Nat, s.heap.size ≤ q → A q := fun q h => by rw [← hAe]; exact Or.inr h
  have hS : va_S A s.heap s.heap [] := va_S.rf
  have hP : va_P (dC, dI) clA (wL cI cZ cJ o fo a v g) s.heap := hP
  have hl := lv_entry ([.ref (a 0), .int ar, .ref o]) (n := 4) (Nat.le_of_ble_eq_true rfl)
  rw [lg_entry_eq]
  generalize (lg_sl ([.ref (a 0), .int ar, .ref o]) ++ List.replicate (4 - (lg_sl ([.ref (a 0), .int ar, .ref o])).length) Slot.unset).toArray = ls at hl ⊢
  have hl : lv_has ls 4 [(0, .ref (a 0)), (1, .int ar), (2, .ref o)] := hl
  refine lv_aload_n hx hb dL_perThousand_0 rfl (lv_at hl 2 rfl) ?_
  refine lv_iconst (v := 0) hx hb dL_perThousand_1 (by decide) ?_
  refine lv_aload_n hx hb dL_perThousand_2 rfl (lv_at hl 0 rfl) ?_
  refine lv_iload_n hx hb dL_perThousand_3 rfl (lv_at hl 1 rfl) ?_
  have hPc := hP.sub (ws' := (wA cI cZ a v g)) [1, 2, 3, 4, 5, 6, 7, 8, 9, 10, 11, 12, 13, 14, 15, 16, 17, 18, 19, 20] rfl
  have hDc := hD.sub (ws' := (wA cI cZ a v g)) [1, 2, 3, 4, 5, 6, 7, 8, 9, 10, 11, 12, 13, 14, 15, 16, 17, 18, 19, 20] (by decide) rfl
  have hFc := va_free (wc := (wA cI cZ a v g)) hD hS hA [1, 2, 3, 4, 5, 6, 7, 8, 9, 10, 11, 12, 13, 14, 15, 16, 17, 18, 19, 20] rfl
  refine vx_calli (vx_runV (As := [.int ar]) (rest := [.int 0, .ref o]) ⟨hx, hb, hml, hown, hts⟩ (c_perT l hl9 dC dI cI cZ cJ a tx v g s.heap.size n hn hn2 ar) (cwV 1 hts (gd_V ml_L_X4_perThousand im_X4_perThousand se_X4_perThousand in_X4 kX4_perThousand) rfl rfl rfl (by decide +kernel) ⟨Nat.le_of_ble_eq_true rfl, Nat.le_of_ble_eq_true rfl⟩) ⟨fun _ U g mk q => by obtain ⟨q0, q1, qP, qK, qD, qZ⟩ := q; exact ⟨q0, q1, qP, va_K.moved (u := U) (U := U.calling g mk _) (Vm.Alike.refl U.vm) qK, qD, ZX.calling qZ⟩, va_recv hK hPc (ci := 4) (q0 := 0) rfl rfl, fun U hU hW => ⟨rfl, by rw [hU], by rw [hU]; exact hPc, va_K.moved hW.alike hK, hDc.weaken (fun _ _ _ _ => trivial), ZX.call hZ hS hFc hW hU⟩⟩ rfl rfl hl.1 rfl (lv_room (Nat.le_of_ble_eq_true rfl)) dL_perThousand_4 ⟨Nat.le_of_ble_eq_true rfl, Nat.le_of_ble_eq_true rfl⟩) hS (fun q _ h => hFc q h) hFc (fun q _ h => hFc q h) (fun E9 ce q9 u9 t9 H1 locs ht hvm hp hB hz1 hk1 hS hcell hcv hcl => ?_) (fun r4 u9 t9 H1 locs ht hvm hw hB hz1 hk1 hS => ?_)
  · obtain ⟨rfl, hP1, hK1, hD1⟩ := hB
    rw [ht] at hP1
    obtain ⟨hP, hD⟩ := va_join (wr := [(o, .inl (cJ, 1, .inr (.inl fo)))]) (w1 := (wA cI cZ a v g)) hP hD [1, 2, 3, 4, 5, 6, 7, 8, 9, 10, 11, 12, 13, 14, 15, 16, 17, 18, 19, 20] [0] rfl rfl (by decide) (by decide) hk1 hFc hP1 hD1
    rcases hp with ⟨rfl, h1⟩ | ⟨rfl, h1, h2⟩ | ⟨rfl, h1, h2, h3⟩
    · refine vx_catch (name := "java/lang/IllegalArgumentException") hown ([]) ⟨0, 9, 12, 13⟩ (tableOf [(0, 9, 15, 41)]) hTab (fun z hz => absurd hz List.not_mem_nil) (by decide) (by decide) (hts _ (List.mem_cons_of_mem _ cl_L_IllegalArgumentException)) (va_Nw.use rfl hZ.w.w3) hcell hcv hcl ?_
      refine lv_astore_n (lv' := [(3, .ref q9), (0, .ref (a 0)), (1, .int ar), (2, .ref o)]) hx hb dL_perThousand_12 rfl hl (by decide) rfl (fun ls hl => ?_)
      refine lv_iconst (v := 1) hx hb dL_perThousand_13 (by decide) ?_
      exact W.iret (v := 1) hx hb hr (fun t8 ht hW => ⟨⟨1, ((v, g), fo), rfl, Or.inr ⟨Or.inl ⟨rfl, h1⟩, rfl⟩, by rw [ht]; exact hP, va_K.moved hW.alike hK, hD⟩, hS.F ht⟩) hS.2.2 dL_perThousand_14
    · refine vx_catch (name := "java/lang/ArithmeticException") hown (tableOf [(0, 9, 12, 13)]) ⟨0, 9, 15, 41⟩ ([]) hTab (fun z hz => by simp only [tableOf, List.map, List.mem_cons, List.not_mem_nil, or_false] at hz; rcases hz with rfl; exact Or.inr ⟨by decide, "java/lang/IllegalArgumentException", hts _ (List.mem_cons_of_mem _ cl_L_IllegalArgumentException), hC.2.2.2.1⟩) (by decide) (by decide) (hts _ (List.mem_cons_of_mem _ cl_L_ArithmeticException)) (va_Nw.use rfl hZ.w.w6) hcell hcv hcl ?_
      refine lv_astore_n (lv' := [(3, .ref q9), (0, .ref (a 0)), (1, .int ar), (2, .ref o)]) hx hb dL_perThousand_15 rfl hl (by decide) rfl (fun ls hl => ?_)
      refine lv_iconst (v := 2) hx hb dL_perThousand_16 (by decide) ?_
      exact W.iret (v := 2) hx hb hr (fun t8 ht hW => ⟨⟨2, ((v, g), fo), rfl, Or.inr ⟨Or.inr (Or.inl ⟨rfl, h1, h2⟩), rfl⟩, by rw [ht]; exact hP, va_K.moved hW.alike hK, hD⟩, hS.F ht⟩) hS.2.2 dL_perThousand_17
    · exact absurd h3 id
  · obtain ⟨rfl, okk, rfl⟩ := hw
    obtain ⟨hP1, hK1, hD1⟩ := hB
    rw [ht] at hP1
    obtain ⟨hP, hD⟩ := va_join (wr := [(o, .inl (cJ, 1, .inr (.inl fo)))]) (w1 := (wA cI cZ a (v) (g))) hP hD [1, 2, 3, 4, 5, 6, 7, 8, 9, 10, 11, 12, 13, 14, 15, 16, 17, 18, 19, 20] [0] rfl rfl (by decide) (by decide) hk1 hFc hP1 hD1
    generalize H1 = H at hP hS ⊢
    have hP : va_P (dC, dI) clA (wL cI cZ cJ o fo a (v) (g)) H := hP
    have hD : va_D A (wL cI cZ cJ o fo a (v) (g)) := hD
    refine lv_i2l (v := (1000 * cnt (fun i => askB g i (v 0) (v 1) (v 2) ar) n / g 0 ar.toNatClampNeg).toInt64) hx hb dL_perThousand_7 rfl ?_
    refine va_last hx hb hK hP hD hS 0 2 rfl rfl (vp_in_nI (n := 0) (N := 1) (by decide) (by decide)) dL_perThousand_8 (fun H locs hP hD hS => ?_)
    have hP : va_P (dC, dI) clA (wL cI cZ cJ o (vp_updL fo 0 (1000 * cnt (fun i => askB g i (v 0) (v 1) (v 2) ar) n / g 0 ar.toNatClampNeg).toInt64) a (v) (g)) H := hP
    have hD : va_D A (wL cI cZ cJ o (vp_updL fo 0 (1000 * cnt (fun i => askB g i (v 0) (v 1) (v 2) ar) n / g 0 ar.toNatClampNeg).toInt64) a (v) (g)) := hD
    refine lv_goto (tgt := 18) hx hb dL_perThousand_9 (by decide) ?_
    refine lv_iconst (v := 0) hx hb dL_perThousand_18 (by decide) ?_
    exact W.iret (v := 0) hx hb hr (fun t8 ht hW => ⟨⟨0, ((v, g), vp_updL fo 0 (1000 * cnt (fun i => askB g i (v 0) (v 1) (v 2) ar) n / g 0 ar.toNatClampNeg).toInt64), rfl, Or.inl ⟨rfl, okk, rfl⟩, by rw [ht]; exact hP, va_K.moved hW.alike hK, hD⟩, hS.F ht⟩) hS.2.2 dL_perThousand_19
set_option maxHeartbeats 4000000 in
set_option maxRecDepth 100000 in
theorem w_rank (l : Launch) (hl9 : l.stackTraces = false) (dC : Nat → ClassId) (dI : Nat → Nat → Nat) (cI cZ cJ : ClassId) (a : Nat → Nat) (tx : Nat → Nat) (v : Nat → Int32) (g : Nat → Nat → Int32) (o : Nat) (fo : Nat → Int64) (sz : Nat) (n : Nat) (hn : v 5 = nI n) (hn2 : n ≤ 200) (ar : Int32) : Met l yL_rank wsL_rank ({ frames := 10, cells := 1, slots := 6, locals := 165 }) (va_Pc [.ref (a 0), .int ar, .ref o] (fun U => U.heap.size = sz ∧ va_P (dC, dI) clA (wL cI cZ cJ o fo a v g) U.heap ∧ va_K (dC, dI) clA (tyA cI cZ cJ) U ∧ va_D (fun _ => True) (wL cI cZ cJ o fo a v g) ∧ ZX tx (va_A (wL cI cZ cJ o fo a v g) sz) U U.heap ∧ ZC U)) (va_Qi (fun (r : Int32) (u : StA × (Nat → Int64)) => (r = 0 ∧ (inU ar 10) ∧ u = ((v, g), vp_updL fo 0 (1 + rkI g v n ar n10).toInt64)) ∨ (trc r (¬ inU ar 10) (False) (False) ∧ u = ((v, g), fo))) (fun u t9 => va_P (dC, dI) clA (wL cI cZ cJ o u.2 a u.1.1 u.1.2) t9.heap ∧ va_K (dC, dI) clA (tyA cI cZ cJ) t9 ∧ va_D (va_A (wL cI cZ cJ o fo a v g) sz) (wL cI cZ cJ o u.2 a u.1.1 u.1.2)) (va_A (wL cI cZ cJ o fo a v g) sz)) 1 6 (va_A (wL cI cZ cJ o fo a v g) sz) := by
  refine va_MetW (cc := cL_rank) (maxL := 4) (ret := (some .int)) (by decide) rfl ?_
  intro p e s m args below meth c s₁ B hml hv
  obtain ⟨rfl, hsz, hP, hK, hD0, hZ, hC⟩ := hv
  have hx := B.exec
  have hb := B.bytes
  have hr := B.returns
  have hts := atoms_spec (ws := wsL_rank) B.pre
  have hown : s.vm.findClass RL = some m.cls := findClass_of_methodNamed B.named
  have hlocks := B.notSynchronized
  have hTab := vx_table (x := yL_rank) B (hts _ List.mem_cons_self)
  subst hsz
  have hD := hD0.self (sz := s.heap.size)
  generalize hAe : va_A (wL cI cZ cJ o fo a v g) s.heap.size = A at hD hZ ⊢
  have hA : ∀ q : Nat, s.heap.size ≤ q → A q := fun q h => by rw [← hAe]; exact Or.inr h
  have hS : va_S A s.heap s.heap [] := va_S.rf
  have hP : va_P (dC, dI) clA (wL cI cZ cJ o fo a v g) s.heap := hP
  have hl := lv_entry ([.ref (a 0), .int ar, .ref o]) (n := 4) (Nat.le_of_ble_eq_true rfl)
  rw [lg_entry_eq]
  generalize (lg_sl ([.ref (a 0), .int ar, .ref o]) ++ List.replicate (4 - (lg_sl ([.ref (a 0), .int ar, .ref o])).length) Slot.unset).toArray = ls at hl ⊢
  have hl : lv_has ls 4 [(0, .ref (a 0)), (1, .int ar), (2, .ref o)] := hl
  refine lv_aload_n hx hb dL_rank_0 rfl (lv_at hl 2 rfl) ?_
  refine lv_iconst (v := 0) hx hb dL_rank_1 (by decide) ?_
  refine lv_aload_n hx hb dL_rank_2 rfl (lv_at hl 0 rfl) ?_
  refine lv_iload_n hx hb dL_rank_3 rfl (lv_at hl 1 rfl) ?_
  have hPc := hP.sub (ws' := (wA cI cZ a v g)) [1, 2, 3, 4, 5, 6, 7, 8, 9, 10, 11, 12, 13, 14, 15, 16, 17, 18, 19, 20] rfl
  have hDc := hD.sub (ws' := (wA cI cZ a v g)) [1, 2, 3, 4, 5, 6, 7, 8, 9, 10, 11, 12, 13, 14, 15, 16, 17, 18, 19, 20] (by decide) rfl
  have hFc := va_free (wc := (wA cI cZ a v g)) hD hS hA [1, 2, 3, 4, 5, 6, 7, 8, 9, 10, 11, 12, 13, 14, 15, 16, 17, 18, 19, 20] rfl
  refine vx_calli (vx_runV (As := [.int ar]) (rest := [.int 0, .ref o]) ⟨hx, hb, hml, hown, hts⟩ (c_rank l hl9 dC dI cI cZ cJ a tx v g s.heap.size n hn hn2 ar) (cwV 1 hts (gd_V ml_L_X4_rank im_X4_rank se_X4_rank in_X4 kX4_rank) rfl rfl rfl (by decide +kernel) ⟨Nat.le_of_ble_eq_true rfl, Nat.le_of_ble_eq_true rfl⟩) ⟨fun _ U g mk q => by obtain ⟨q0, q1, qP, qK, qD, qZ⟩ := q; exact ⟨q0, q1, qP, va_K.moved (u := U) (U := U.calling g mk _) (Vm.Alike.refl U.vm) qK, qD, ZX.calling qZ⟩, va_recv hK hPc (ci := 4) (q0 := 0) rfl rfl, fun U hU hW => ⟨rfl, by rw [hU], by rw [hU]; exact hPc, va_K.moved hW.alike hK, hDc.weaken (fun _ _ _ _ => trivial), ZX.call hZ hS hFc hW hU⟩⟩ rfl rfl hl.1 rfl (lv_room (Nat.le_of_ble_eq_true rfl)) dL_rank_4 ⟨Nat.le_of_ble_eq_true rfl, Nat.le_of_ble_eq_true rfl⟩) hS (fun q _ h => hFc q h) hFc (fun q _ h => hFc q h) (fun E9 ce q9 u9 t9 H1 locs ht hvm hp hB hz1 hk1 hS hcell hcv hcl => ?_) (fun r4 u9 t9 H1 locs ht hvm hw hB hz1 hk1 hS => ?_)
  · obtain ⟨rfl, hP1, hK1, hD1⟩ := hB
    rw [ht] at hP1
    obtain ⟨hP, hD⟩ := va_join (wr := [(o, .inl (cJ, 1, .inr (.inl fo)))]) (w1 := (wA cI cZ a v g)) hP hD [1, 2, 3, 4, 5, 6, 7, 8, 9, 10, 11, 12, 13, 14, 15, 16, 17, 18, 19, 20] [0] rfl rfl (by decide) (by decide) hk1 hFc hP1 hD1
    rcases hp with ⟨rfl, h1⟩ | ⟨rfl, h1, h2⟩ | ⟨rfl, h1, h2, h3⟩
    · refine vx_catch (name := "java/lang/IllegalArgumentException") hown ([]) ⟨0, 9, 12, 13⟩ ([]) hTab (fun z hz => absurd hz List.not_mem_nil) (by decide) (by decide) (hts _ (List.mem_cons_of_mem _ cl_L_IllegalArgumentException)) (va_Nw.use rfl hZ.w.w3) hcell hcv hcl ?_
      refine lv_astore_n (lv' := [(3, .ref q9), (0, .ref (a 0)), (1, .int ar), (2, .ref o)]) hx hb dL_rank_12 rfl hl (by decide) rfl (fun ls hl => ?_)
      refine lv_iconst (v := 1) hx hb dL_rank_13 (by decide) ?_
      exact W.iret (v := 1) hx hb hr (fun t8 ht hW => ⟨⟨1, ((v, g), fo), rfl, Or.inr ⟨Or.inl ⟨rfl, h1⟩, rfl⟩, by rw [ht]; exact hP, va_K.moved hW.alike hK, hD⟩, hS.F ht⟩) hS.2.2 dL_rank_14
    · exact absurd h2 id
    · exact absurd h3 id
  · obtain ⟨rfl, okk, rfl⟩ := hw
    obtain ⟨hP1, hK1, hD1⟩ := hB
    rw [ht] at hP1
    obtain ⟨hP, hD⟩ := va_join (wr := [(o, .inl (cJ, 1, .inr (.inl fo)))]) (w1 := (wA cI cZ a (v) (g))) hP hD [1, 2, 3, 4, 5, 6, 7, 8, 9, 10, 11, 12, 13, 14, 15, 16, 17, 18, 19, 20] [0] rfl rfl (by decide) (by decide) hk1 hFc hP1 hD1
    generalize H1 = H at hP hS ⊢
    have hP : va_P (dC, dI) clA (wL cI cZ cJ o fo a (v) (g)) H := hP
    have hD : va_D A (wL cI cZ cJ o fo a (v) (g)) := hD
    refine lv_i2l (v := (1 + rkI g v n ar n10).toInt64) hx hb dL_rank_7 rfl ?_
    refine va_last hx hb hK hP hD hS 0 2 rfl rfl (vp_in_nI (n := 0) (N := 1) (by decide) (by decide)) dL_rank_8 (fun H locs hP hD hS => ?_)
    have hP : va_P (dC, dI) clA (wL cI cZ cJ o (vp_updL fo 0 (1 + rkI g v n ar n10).toInt64) a (v) (g)) H := hP
    have hD : va_D A (wL cI cZ cJ o (vp_updL fo 0 (1 + rkI g v n ar n10).toInt64) a (v) (g)) := hD
    refine lv_goto (tgt := 15) hx hb dL_rank_9 (by decide) ?_
    refine lv_iconst (v := 0) hx hb dL_rank_15 (by decide) ?_
    exact W.iret (v := 0) hx hb hr (fun t8 ht hW => ⟨⟨0, ((v, g), vp_updL fo 0 (1 + rkI g v n ar n10).toInt64), rfl, Or.inl ⟨rfl, okk, rfl⟩, by rw [ht]; exact hP, va_K.moved hW.alike hK, hD⟩, hS.F ht⟩) hS.2.2 dL_rank_16
set_option maxHeartbeats 4000000 in
set_option maxRecDepth 100000 in
theorem w_least (l : Launch) (hl9 : l.stackTraces = false) (dC : Nat → ClassId) (dI : Nat → Nat → Nat) (cI cZ cJ : ClassId) (a : Nat → Nat) (tx : Nat → Nat) (v : Nat → Int32) (g : Nat → Nat → Int32) (sz : Nat) (x : Int32) : Met l yL_least wsL_least ({ frames := 10, cells := 1, slots := 6, locals := 163 }) (va_Pc [.ref (a 0), .int x] (fun U => U.heap.size = sz ∧ va_P (dC, dI) clA (wA cI cZ a v g) U.heap ∧ va_K (dC, dI) clA (tyA cI cZ cJ) U ∧ va_D (fun _ => True) (wA cI cZ a v g) ∧ ZX tx (va_A (wA cI cZ a v g) sz) U U.heap ∧ ZC U)) (va_Qi (fun (r : Int32) (u : StA) => (r = 0 ∧ (inR x 1 100) ∧ u = (upd v 7 x, g)) ∨ (trc r (¬ inR x 1 100) (False) (False) ∧ u = (v, g))) (fun u t9 => va_P (dC, dI) clA (wA cI cZ a u.1 u.2) t9.heap ∧ va_K (dC, dI) clA (tyA cI cZ cJ) t9 ∧ va_D (va_A (wA cI cZ a v g) sz) (wA cI cZ a u.1 u.2)) (va_A (wA cI cZ a v g) sz)) 1 6 (va_A (wA cI cZ a v g) sz) := by
  refine va_MetW (cc := cL_least) (maxL := 3) (ret := (some .int)) (by decide) rfl ?_
  intro p e s m args below meth c s₁ B hml hv
  obtain ⟨rfl, hsz, hP, hK, hD0, hZ, hC⟩ := hv
  have hx := B.exec
  have hb := B.bytes
  have hr := B.returns
  have hts := atoms_spec (ws := wsL_least) B.pre
  have hown : s.vm.findClass RL = some m.cls := findClass_of_methodNamed B.named
  have hlocks := B.notSynchronized
  have hTab := vx_table (x := yL_least) B (hts _ List.mem_cons_self)
  subst hsz
  have hD := hD0.self (sz := s.heap.size)
  generalize hAe : va_A (wA cI cZ a v g) s.heap.size = A at hD hZ ⊢
  have hA : ∀ q : Nat, s.heap.size ≤ q → A q := fun q h => by rw [← hAe]; exact Or.inr h
  have hS : va_S A s.heap s.heap [] := va_S.rf
  have hP : va_P (dC, dI) clA (wA cI cZ a v g) s.heap := hP
  have hl := lv_entry ([.ref (a 0), .int x]) (n := 3) (Nat.le_of_ble_eq_true rfl)
  rw [lg_entry_eq]
  generalize (lg_sl ([.ref (a 0), .int x]) ++ List.replicate (3 - (lg_sl ([.ref (a 0), .int x])).length) Slot.unset).toArray = ls at hl ⊢
  have hl : lv_has ls 3 [(0, .ref (a 0)), (1, .int x)] := hl
  refine lv_aload_n hx hb dL_least_0 rfl (lv_at hl 0 rfl) ?_
  refine lv_iload_n hx hb dL_least_1 rfl (lv_at hl 1 rfl) ?_
  have hPc := hP.sub (ws' := (wA cI cZ a v g)) [0, 1, 2, 3, 4, 5, 6, 7, 8, 9, 10, 11, 12, 13, 14, 15, 16, 17, 18, 19] rfl
  have hDc := hD.sub (ws' := (wA cI cZ a v g)) [0, 1, 2, 3, 4, 5, 6, 7, 8, 9, 10, 11, 12, 13, 14, 15, 16, 17, 18, 19] (by decide) rfl
  have hFc := va_free (wc := (wA cI cZ a v g)) hD hS hA [0, 1, 2, 3, 4, 5, 6, 7, 8, 9, 10, 11, 12, 13, 14, 15, 16, 17, 18, 19] rfl
  refine vx_callv (vx_runV (As := [.int x]) (rest := []) ⟨hx, hb, hml, hown, hts⟩ (c_least l hl9 dC dI cI cZ cJ a tx v g s.heap.size x) (cwV 1 hts (gd_V ml_L_X4_least im_X4_least se_X4_least in_X4 kX4_least) rfl rfl rfl (by decide +kernel) ⟨Nat.le_of_ble_eq_true rfl, Nat.le_of_ble_eq_true rfl⟩) ⟨fun _ U g mk q => by obtain ⟨q0, q1, qP, qK, qD, qZ⟩ := q; exact ⟨q0, q1, qP, va_K.moved (u := U) (U := U.calling g mk _) (Vm.Alike.refl U.vm) qK, qD, ZX.calling qZ⟩, va_recv hK hPc (ci := 4) (q0 := 0) rfl rfl, fun U hU hW => ⟨rfl, by rw [hU], by rw [hU]; exact hPc, va_K.moved hW.alike hK, hDc.weaken (fun _ _ _ _ => trivial), ZX.call hZ hS hFc hW hU⟩⟩ rfl rfl hl.1 rfl (lv_room (Nat.le_of_ble_eq_true rfl)) dL_least_2 ⟨Nat.le_of_ble_eq_true rfl, Nat.le_of_ble_eq_true rfl⟩) hS (fun q _ h => hFc q h) hFc (fun q _ h => hFc q h) (fun E9 ce q9 u9 t9 H1 locs ht hvm hp hB hz1 hk1 hS hcell hcv hcl => ?_) (fun u9 t9 H1 locs ht hvm hw hB hz1 hk1 hS => ?_)
  · obtain ⟨rfl, hP1, hK1, hD1⟩ := hB
    rw [ht] at hP1
    obtain ⟨hP, hD⟩ := va_join (wr := []) (w1 := (wA cI cZ a v g)) hP hD [0, 1, 2, 3, 4, 5, 6, 7, 8, 9, 10, 11, 12, 13, 14, 15, 16, 17, 18, 19] [] rfl rfl (by decide) (by decide) hk1 hFc hP1 hD1
    rcases hp with ⟨rfl, h1⟩ | ⟨rfl, h1, h2⟩ | ⟨rfl, h1, h2, h3⟩
    · refine vx_catch (name := "java/lang/IndexOutOfBoundsException") hown ([]) ⟨0, 5, 8, 15⟩ ([]) hTab (fun z hz => absurd hz List.not_mem_nil) (by decide) (by decide) (hts _ (List.mem_cons_of_mem _ cl_L_IndexOutOfBoundsException)) (va_Nw.use rfl hZ.w.w4) hcell hcv hcl ?_
      refine lv_astore_n (lv' := [(2, .ref q9), (0, .ref (a 0)), (1, .int x)]) hx hb dL_least_8 rfl hl (by decide) rfl (fun ls hl => ?_)
      refine lv_iconst (v := 1) hx hb dL_least_9 (by decide) ?_
      exact W.iret (v := 1) hx hb hr (fun t8 ht hW => ⟨⟨1, (v, g), rfl, Or.inr ⟨Or.inl ⟨rfl, h1⟩, rfl⟩, by rw [ht]; exact hP, va_K.moved hW.alike hK, hD⟩, hS.F ht⟩) hS.2.2 dL_least_10
    · exact absurd h2 id
    · exact absurd h3 id
  · obtain ⟨okk, rfl⟩ := hw
    obtain ⟨hP1, hK1, hD1⟩ := hB
    rw [ht] at hP1
    obtain ⟨hP, hD⟩ := va_join (wr := []) (w1 := (wA cI cZ a (upd v 7 x) (g))) hP hD [0, 1, 2, 3, 4, 5, 6, 7, 8, 9, 10, 11, 12, 13, 14, 15, 16, 17, 18, 19] [] rfl rfl (by decide) (by decide) hk1 hFc hP1 hD1
    generalize H1 = H at hP hS ⊢
    refine lv_goto (tgt := 11) hx hb dL_least_5 (by decide) ?_
    refine lv_iconst (v := 0) hx hb dL_least_11 (by decide) ?_
    exact W.iret (v := 0) hx hb hr (fun t8 ht hW => ⟨⟨0, (upd v 7 x, g), rfl, Or.inl ⟨rfl, okk, rfl⟩, by rw [ht]; exact hP, va_K.moved hW.alike hK, hD⟩, hS.F ht⟩) hS.2.2 dL_least_12
set_option maxHeartbeats 4000000 in
set_option maxRecDepth 100000 in
theorem w_shown (l : Launch) (hl9 : l.stackTraces = false) (dC : Nat → ClassId) (dI : Nat → Nat → Nat) (cI cZ cJ : ClassId) (a : Nat → Nat) (tx : Nat → Nat) (v : Nat → Int32) (g : Nat → Nat → Int32) (o : Nat) (fo : Nat → Int64) (sz : Nat) (n : Nat) (hn : v 5 = nI n) (hn2 : n ≤ 200) (ar : Int32) : Met l yL_shown wsL_shown ({ frames := 10, cells := 1, slots := 6, locals := 162 }) (va_Pc [.ref (a 0), .int ar, .ref o] (fun U => U.heap.size = sz ∧ va_P (dC, dI) clA (wL cI cZ cJ o fo a v g) U.heap ∧ va_K (dC, dI) clA (tyA cI cZ cJ) U ∧ va_D (fun _ => True) (wL cI cZ cJ o fo a v g) ∧ ZX tx (va_A (wL cI cZ cJ o fo a v g) sz) U U.heap ∧ ZC U)) (va_Qi (fun (r : Int32) (u : StA × (Nat → Int64)) => (r = 0 ∧ (inU ar 10) ∧ u = (((joinS v g (v 0) (v 1) n).1, (joinS v g (v 0) (v 1) n).2), vp_updL fo 0 ((if (joinS v g (v 0) (v 1) n).2 14 ar.toNatClampNeg = 0 then (joinS v g (v 0) (v 1) n).2 13 ar.toNatClampNeg else -1)).toInt64)) ∨ (trc r (¬ inU ar 10) (False) (False) ∧ u = ((v, g), fo))) (fun u t9 => va_P (dC, dI) clA (wL cI cZ cJ o u.2 a u.1.1 u.1.2) t9.heap ∧ va_K (dC, dI) clA (tyA cI cZ cJ) t9 ∧ va_D (va_A (wL cI cZ cJ o fo a v g) sz) (wL cI cZ cJ o u.2 a u.1.1 u.1.2)) (va_A (wL cI cZ cJ o fo a v g) sz)) 1 6 (va_A (wL cI cZ cJ o fo a v g) sz) := by
  refine va_MetW (cc := cL_shown) (maxL := 4) (ret := (some .int)) (by decide) rfl ?_
  intro p e s m args below meth c s₁ B hml hv
  obtain ⟨rfl, hsz, hP, hK, hD0, hZ, hC⟩ := hv
  have hx := B.exec
  have hb := B.bytes
  have hr := B.returns
  have hts := atoms_spec (ws := wsL_shown) B.pre
  have hown : s.vm.findClass RL = some m.cls := findClass_of_methodNamed B.named
  have hlocks := B.notSynchronized
  have hTab := vx_table (x := yL_shown) B (hts _ List.mem_cons_self)
  subst hsz
  have hD := hD0.self (sz := s.heap.size)
  generalize hAe : va_A (wL cI cZ cJ o fo a v g) s.heap.size = A at hD hZ ⊢
  have hA : ∀ q : Nat, s.heap.size ≤ q → A q := fun q h => by rw [← hAe]; exact Or.inr h
  have hS : va_S A s.heap s.heap [] := va_S.rf
  have hP : va_P (dC, dI) clA (wL cI cZ cJ o fo a v g) s.heap := hP
  have hl := lv_entry ([.ref (a 0), .int ar, .ref o]) (n := 4) (Nat.le_of_ble_eq_true rfl)
  rw [lg_entry_eq]
  generalize (lg_sl ([.ref (a 0), .int ar, .ref o]) ++ List.replicate (4 - (lg_sl ([.ref (a 0), .int ar, .ref o])).length) Slot.unset).toArray = ls at hl ⊢
  have hl : lv_has ls 4 [(0, .ref (a 0)), (1, .int ar), (2, .ref o)] := hl
  refine lv_aload_n hx hb dL_shown_0 rfl (lv_at hl 2 rfl) ?_
  refine lv_iconst (v := 0) hx hb dL_shown_1 (by decide) ?_
  refine lv_aload_n hx hb dL_shown_2 rfl (lv_at hl 0 rfl) ?_
  refine lv_iload_n hx hb dL_shown_3 rfl (lv_at hl 1 rfl) ?_
  have hPc := hP.sub (ws' := (wA cI cZ a v g)) [1, 2, 3, 4, 5, 6, 7, 8, 9, 10, 11, 12, 13, 14, 15, 16, 17, 18, 19, 20] rfl
  have hDc := hD.sub (ws' := (wA cI cZ a v g)) [1, 2, 3, 4, 5, 6, 7, 8, 9, 10, 11, 12, 13, 14, 15, 16, 17, 18, 19, 20] (by decide) rfl
  have hFc := va_free (wc := (wA cI cZ a v g)) hD hS hA [1, 2, 3, 4, 5, 6, 7, 8, 9, 10, 11, 12, 13, 14, 15, 16, 17, 18, 19, 20] rfl
  refine vx_calli (vx_runV (As := [.int ar]) (rest := [.int 0, .ref o]) ⟨hx, hb, hml, hown, hts⟩ (c_shown l hl9 dC dI cI cZ cJ a tx v g s.heap.size n hn hn2 ar) (cwV 1 hts (gd_V ml_L_X4_shown im_X4_shown se_X4_shown in_X4 kX4_shown) rfl rfl rfl (by decide +kernel) ⟨Nat.le_of_ble_eq_true rfl, Nat.le_of_ble_eq_true rfl⟩) ⟨fun _ U g mk q => by obtain ⟨q0, q1, qP, qK, qD, qZ⟩ := q; exact ⟨q0, q1, qP, va_K.moved (u := U) (U := U.calling g mk _) (Vm.Alike.refl U.vm) qK, qD, ZX.calling qZ⟩, va_recv hK hPc (ci := 4) (q0 := 0) rfl rfl, fun U hU hW => ⟨rfl, by rw [hU], by rw [hU]; exact hPc, va_K.moved hW.alike hK, hDc.weaken (fun _ _ _ _ => trivial), ZX.call hZ hS hFc hW hU⟩⟩ rfl rfl hl.1 rfl (lv_room (Nat.le_of_ble_eq_true rfl)) dL_shown_4 ⟨Nat.le_of_ble_eq_true rfl, Nat.le_of_ble_eq_true rfl⟩) hS (fun q _ h => hFc q h) hFc (fun q _ h => hFc q h) (fun E9 ce q9 u9 t9 H1 locs ht hvm hp hB hz1 hk1 hS hcell hcv hcl => ?_) (fun r4 u9 t9 H1 locs ht hvm hw hB hz1 hk1 hS => ?_)
  · obtain ⟨rfl, hP1, hK1, hD1⟩ := hB
    rw [ht] at hP1
    obtain ⟨hP, hD⟩ := va_join (wr := [(o, .inl (cJ, 1, .inr (.inl fo)))]) (w1 := (wA cI cZ a v g)) hP hD [1, 2, 3, 4, 5, 6, 7, 8, 9, 10, 11, 12, 13, 14, 15, 16, 17, 18, 19, 20] [0] rfl rfl (by decide) (by decide) hk1 hFc hP1 hD1
    rcases hp with ⟨rfl, h1⟩ | ⟨rfl, h1, h2⟩ | ⟨rfl, h1, h2, h3⟩
    · refine vx_catch (name := "java/lang/IllegalArgumentException") hown ([]) ⟨0, 9, 12, 13⟩ ([]) hTab (fun z hz => absurd hz List.not_mem_nil) (by decide) (by decide) (hts _ (List.mem_cons_of_mem _ cl_L_IllegalArgumentException)) (va_Nw.use rfl hZ.w.w3) hcell hcv hcl ?_
      refine lv_astore_n (lv' := [(3, .ref q9), (0, .ref (a 0)), (1, .int ar), (2, .ref o)]) hx hb dL_shown_12 rfl hl (by decide) rfl (fun ls hl => ?_)
      refine lv_iconst (v := 1) hx hb dL_shown_13 (by decide) ?_
      exact W.iret (v := 1) hx hb hr (fun t8 ht hW => ⟨⟨1, ((v, g), fo), rfl, Or.inr ⟨Or.inl ⟨rfl, h1⟩, rfl⟩, by rw [ht]; exact hP, va_K.moved hW.alike hK, hD⟩, hS.F ht⟩) hS.2.2 dL_shown_14
    · exact absurd h2 id
    · exact absurd h3 id
  · obtain ⟨rfl, okk, rfl⟩ := hw
    obtain ⟨hP1, hK1, hD1⟩ := hB
    rw [ht] at hP1
    obtain ⟨hP, hD⟩ := va_join (wr := [(o, .inl (cJ, 1, .inr (.inl fo)))]) (w1 := (wA cI cZ a ((joinS v g (v 0) (v 1) n).1) ((joinS v g (v 0) (v 1) n).2))) hP hD [1, 2, 3, 4, 5, 6, 7, 8, 9, 10, 11, 12, 13, 14, 15, 16, 17, 18, 19, 20] [0] rfl rfl (by decide) (by decide) hk1 hFc hP1 hD1
    generalize H1 = H at hP hS ⊢
    have hP : va_P (dC, dI) clA (wL cI cZ cJ o fo a ((joinS v g (v 0) (v 1) n).1) ((joinS v g (v 0) (v 1) n).2)) H := hP
    have hD : va_D A (wL cI cZ cJ o fo a ((joinS v g (v 0) (v 1) n).1) ((joinS v g (v 0) (v 1) n).2)) := hD
    refine lv_i2l (v := ((if (joinS v g (v 0) (v 1) n).2 14 ar.toNatClampNeg = 0 then (joinS v g (v 0) (v 1) n).2 13 ar.toNatClampNeg else -1)).toInt64) hx hb dL_shown_7 rfl ?_
    refine va_last hx hb hK hP hD hS 0 2 rfl rfl (vp_in_nI (n := 0) (N := 1) (by decide) (by decide)) dL_shown_8 (fun H locs hP hD hS => ?_)
    have hP : va_P (dC, dI) clA (wL cI cZ cJ o (vp_updL fo 0 ((if (joinS v g (v 0) (v 1) n).2 14 ar.toNatClampNeg = 0 then (joinS v g (v 0) (v 1) n).2 13 ar.toNatClampNeg else -1)).toInt64) a ((joinS v g (v 0) (v 1) n).1) ((joinS v g (v 0) (v 1) n).2)) H := hP
    have hD : va_D A (wL cI cZ cJ o (vp_updL fo 0 ((if (joinS v g (v 0) (v 1) n).2 14 ar.toNatClampNeg = 0 then (joinS v g (v 0) (v 1) n).2 13 ar.toNatClampNeg else -1)).toInt64) a ((joinS v g (v 0) (v 1) n).1) ((joinS v g (v 0) (v 1) n).2)) := hD
    refine lv_goto (tgt := 15) hx hb dL_shown_9 (by decide) ?_
    refine lv_iconst (v := 0) hx hb dL_shown_15 (by decide) ?_
    exact W.iret (v := 0) hx hb hr (fun t8 ht hW => ⟨⟨0, (((joinS v g (v 0) (v 1) n).1, (joinS v g (v 0) (v 1) n).2), vp_updL fo 0 ((if (joinS v g (v 0) (v 1) n).2 14 ar.toNatClampNeg = 0 then (joinS v g (v 0) (v 1) n).2 13 ar.toNatClampNeg else -1)).toInt64), rfl, Or.inl ⟨rfl, okk, rfl⟩, by rw [ht]; exact hP, va_K.moved hW.alike hK, hD⟩, hS.F ht⟩) hS.2.2 dL_shown_16
set_option maxHeartbeats 4000000 in
set_option maxRecDepth 100000 in
theorem w_work (l : Launch) (hl9 : l.stackTraces = false) (dC : Nat → ClassId) (dI : Nat → Nat → Nat) (cI cZ cJ : ClassId) (a : Nat → Nat) (tx : Nat → Nat) (v : Nat → Int32) (g : Nat → Nat → Int32) (o : Nat) (fo : Nat → Int64) (sz : Nat) (n : Nat) (hn : v 5 = nI n) (hn2 : n ≤ 200) (st w : Int32) : Met l yL_work wsL_work ({ frames := 10, cells := 2, slots := 12, locals := 163 }) (va_Pc [.ref (a 0), .int st, .int w, .ref o] (fun U => U.heap.size = sz ∧ va_P (dC, dI) clA (wL cI cZ cJ o fo a v g) U.heap ∧ va_K (dC, dI) clA (tyA cI cZ cJ) U ∧ va_D (fun _ => True) (wL cI cZ cJ o fo a v g) ∧ ZX tx (va_A (wL cI cZ cJ o fo a v g) sz) U U.heap ∧ ZC U)) (va_Qi (fun (r : Int32) (u : StA × (Nat → Int64)) => (r = 0 ∧ (inU st 6 ∧ inU w 2) ∧ u = ((v, g), vp_updL fo 0 ((if w = 0 then cnt (fun i => workB g i st (v 0) (v 1)) n else isum (fun i => if workB g i st (v 0) (v 1) = true then secs (g 9 i) + secs (g 10 i) else 0) n)).toInt64)) ∨ (trc r (¬ inU st 6 ∨ ¬ inU w 2) (False) (False) ∧ u = ((v, g), fo))) (fun u t9 => va_P (dC, dI) clA (wL cI cZ cJ o u.2 a u.1.1 u.1.2) t9.heap ∧ va_K (dC, dI) clA (tyA cI cZ cJ) t9 ∧ va_D (va_A (wL cI cZ cJ o fo a v g) sz) (wL cI cZ cJ o u.2 a u.1.1 u.1.2)) (va_A (wL cI cZ cJ o fo a v g) sz)) 2 12 (va_A (wL cI cZ cJ o fo a v g) sz) := by
  refine va_MetW (cc := cL_work) (maxL := 5) (ret := (some .int)) (by decide) rfl ?_
  intro p e s m args below meth c s₁ B hml hv
  obtain ⟨rfl, hsz, hP, hK, hD0, hZ, hC⟩ := hv
  have hx := B.exec
  have hb := B.bytes
  have hr := B.returns
  have hts := atoms_spec (ws := wsL_work) B.pre
  have hown : s.vm.findClass RL = some m.cls := findClass_of_methodNamed B.named
  have hlocks := B.notSynchronized
  have hTab := vx_table (x := yL_work) B (hts _ List.mem_cons_self)
  subst hsz
  have hD := hD0.self (sz := s.heap.size)
  generalize hAe : va_A (wL cI cZ cJ o fo a v g) s.heap.size = A at hD hZ ⊢
  have hA : ∀ q : Nat, s.heap.size ≤ q → A q := fun q h => by rw [← hAe]; exact Or.inr h
  have hS : va_S A s.heap s.heap [] := va_S.rf
  have hP : va_P (dC, dI) clA (wL cI cZ cJ o fo a v g) s.heap := hP
  have hl := lv_entry ([.ref (a 0), .int st, .int w, .ref o]) (n := 5) (Nat.le_of_ble_eq_true rfl)
  rw [lg_entry_eq]
  generalize (lg_sl ([.ref (a 0), .int st, .int w, .ref o]) ++ List.replicate (5 - (lg_sl ([.ref (a 0), .int st, .int w, .ref o])).length) Slot.unset).toArray = ls at hl ⊢
  have hl : lv_has ls 5 [(0, .ref (a 0)), (1, .int st), (2, .int w), (3, .ref o)] := hl
  refine lv_aload_n hx hb dL_work_0 rfl (lv_at hl 3 rfl) ?_
  refine lv_iconst (v := 0) hx hb dL_work_1 (by decide) ?_
  refine lv_aload_n hx hb dL_work_2 rfl (lv_at hl 0 rfl) ?_
  refine lv_iload_n hx hb dL_work_3 rfl (lv_at hl 1 rfl) ?_
  refine lv_iload_n hx hb dL_work_4 rfl (lv_at hl 2 rfl) ?_
  have hPc := hP.sub (ws' := (wA cI cZ a v g)) [1, 2, 3, 4, 5, 6, 7, 8, 9, 10, 11, 12, 13, 14, 15, 16, 17, 18, 19, 20] rfl
  have hDc := hD.sub (ws' := (wA cI cZ a v g)) [1, 2, 3, 4, 5, 6, 7, 8, 9, 10, 11, 12, 13, 14, 15, 16, 17, 18, 19, 20] (by decide) rfl
  have hFc := va_free (wc := (wA cI cZ a v g)) hD hS hA [1, 2, 3, 4, 5, 6, 7, 8, 9, 10, 11, 12, 13, 14, 15, 16, 17, 18, 19, 20] rfl
  refine vx_calli (vx_runV (As := [.int st, .int w]) (rest := [.int 0, .ref o]) ⟨hx, hb, hml, hown, hts⟩ (c_work l hl9 dC dI cI cZ cJ a tx v g s.heap.size n hn hn2 st w) (cwV 2 hts (gd_V ml_L_X4_work im_X4_work se_X4_work in_X4 kX4_work) rfl rfl rfl (by decide +kernel) ⟨Nat.le_of_ble_eq_true rfl, Nat.le_of_ble_eq_true rfl⟩) ⟨fun _ U g mk q => by obtain ⟨q0, q1, qP, qK, qD, qZ⟩ := q; exact ⟨q0, q1, qP, va_K.moved (u := U) (U := U.calling g mk _) (Vm.Alike.refl U.vm) qK, qD, ZX.calling qZ⟩, va_recv hK hPc (ci := 4) (q0 := 0) rfl rfl, fun U hU hW => ⟨rfl, by rw [hU], by rw [hU]; exact hPc, va_K.moved hW.alike hK, hDc.weaken (fun _ _ _ _ => trivial), ZX.call hZ hS hFc hW hU⟩⟩ rfl rfl hl.1 rfl (lv_room (Nat.le_of_ble_eq_true rfl)) dL_work_5 ⟨Nat.le_of_ble_eq_true rfl, Nat.le_of_ble_eq_true rfl⟩) hS (fun q _ h => hFc q h) hFc (fun q _ h => hFc q h) (fun E9 ce q9 u9 t9 H1 locs ht hvm hp hB hz1 hk1 hS hcell hcv hcl => ?_) (fun r5 u9 t9 H1 locs ht hvm hw hB hz1 hk1 hS => ?_)
  · obtain ⟨rfl, hP1, hK1, hD1⟩ := hB
    rw [ht] at hP1
    obtain ⟨hP, hD⟩ := va_join (wr := [(o, .inl (cJ, 1, .inr (.inl fo)))]) (w1 := (wA cI cZ a v g)) hP hD [1, 2, 3, 4, 5, 6, 7, 8, 9, 10, 11, 12, 13, 14, 15, 16, 17, 18, 19, 20] [0] rfl rfl (by decide) (by decide) hk1 hFc hP1 hD1
    rcases hp with ⟨rfl, h1⟩ | ⟨rfl, h1, h2⟩ | ⟨rfl, h1, h2, h3⟩
    · refine vx_catch (name := "java/lang/IllegalArgumentException") hown ([]) ⟨0, 10, 13, 13⟩ ([]) hTab (fun z hz => absurd hz List.not_mem_nil) (by decide) (by decide) (hts _ (List.mem_cons_of_mem _ cl_L_IllegalArgumentException)) (va_Nw.use rfl hZ.w.w3) hcell hcv hcl ?_
      refine lv_astore (lv' := [(4, .ref q9), (0, .ref (a 0)), (1, .int st), (2, .int w), (3, .ref o)]) hx hb dL_work_13 hl (by decide) rfl (fun ls hl => ?_)
      refine lv_iconst (v := 1) hx hb dL_work_15 (by decide) ?_
      exact W.iret (v := 1) hx hb hr (fun t8 ht hW => ⟨⟨1, ((v, g), fo), rfl, Or.inr ⟨Or.inl ⟨rfl, h1⟩, rfl⟩, by rw [ht]; exact hP, va_K.moved hW.alike hK, hD⟩, hS.F ht⟩) hS.2.2 dL_work_16
    · exact absurd h2 id
    · exact absurd h3 id
  · obtain ⟨rfl, okk, rfl⟩ := hw
    obtain ⟨hP1, hK1, hD1⟩ := hB
    rw [ht] at hP1
    obtain ⟨hP, hD⟩ := va_join (wr := [(o, .inl (cJ, 1, .inr (.inl fo)))]) (w1 := (wA cI cZ a (v) (g))) hP hD [1, 2, 3, 4, 5, 6, 7, 8, 9, 10, 11, 12, 13, 14, 15, 16, 17, 18, 19, 20] [0] rfl rfl (by decide) (by decide) hk1 hFc hP1 hD1
    generalize H1 = H at hP hS ⊢
    have hP : va_P (dC, dI) clA (wL cI cZ cJ o fo a (v) (g)) H := hP
    have hD : va_D A (wL cI cZ cJ o fo a (v) (g)) := hD
    refine lv_i2l (v := ((if w = 0 then cnt (fun i => workB g i st (v 0) (v 1)) n else isum (fun i => if workB g i st (v 0) (v 1) = true then secs (g 9 i) + secs (g 10 i) else 0) n)).toInt64) hx hb dL_work_8 rfl ?_
    refine va_last hx hb hK hP hD hS 0 2 rfl rfl (vp_in_nI (n := 0) (N := 1) (by decide) (by decide)) dL_work_9 (fun H locs hP hD hS => ?_)
    have hP : va_P (dC, dI) clA (wL cI cZ cJ o (vp_updL fo 0 ((if w = 0 then cnt (fun i => workB g i st (v 0) (v 1)) n else isum (fun i => if workB g i st (v 0) (v 1) = true then secs (g 9 i) + secs (g 10 i) else 0) n)).toInt64) a (v) (g)) H := hP
    have hD : va_D A (wL cI cZ cJ o (vp_updL fo 0 ((if w = 0 then cnt (fun i => workB g i st (v 0) (v 1)) n else isum (fun i => if workB g i st (v 0) (v 1) = true then secs (g 9 i) + secs (g 10 i) else 0) n)).toInt64) a (v) (g)) := hD
    refine lv_goto (tgt := 17) hx hb dL_work_10 (by decide) ?_
    refine lv_iconst (v := 0) hx hb dL_work_17 (by decide) ?_
    exact W.iret (v := 0) hx hb hr (fun t8 ht hW => ⟨⟨0, ((v, g), vp_updL fo 0 ((if w = 0 then cnt (fun i => workB g i st (v 0) (v 1)) n else isum (fun i => if workB g i st (v 0) (v 1) = true then secs (g 9 i) + secs (g 10 i) else 0) n)).toInt64), rfl, Or.inl ⟨rfl, okk, rfl⟩, by rw [ht]; exact hP, va_K.moved hW.alike hK, hD⟩, hS.F ht⟩) hS.2.2 dL_work_18
