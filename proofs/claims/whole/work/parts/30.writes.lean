
section OWNE
variable {p : Program} {l : Launch} {e : Env} {R : Room} {s : State} {m : MethodId} {args : Array Value} {below : List Frame} {meth : Method} {c : Code} {H : Heap} {locs : List Loc} {cells slots : Nat} {Q : State → Prop}
variable {cc : ByteArray} {pc : Nat} {ls : Array Slot} {rest : List Value} {D : va_G} {cl : List vw_C} {ws : va_W} {tys : List (ClassId × FieldType)} {a : Nat} {A : Nat → Prop} {H0 : Heap}
theorem wi_aldE (hexec : p.tables.exec = Jvm.exec) (hb : c.code = cc) (hK : va_K D cl tys s) (hP : va_P D cl ws H) (q0 t0 : Nat) {cA : ClassId} {n : Nat} {f : Nat → Int32} (ha : ws[q0]? = some (a, .inl (cA, n, .inl f))) (ht : tys[t0]? = some (cA, .int)) {i : Int32} {k : Nat} (hi : i = nI k) (hk : k < n) (hn : n < 2 ^ 31) (hdg : decode cc pc = .ok (.iaload, 1))
    (kk : W p l e R s m args below meth c H locs cells slots Q (F0 m (pc + 1) ls (.int (f k) :: rest))) : W p l e R s m args below meth c H locs cells slots Q (F0 m pc ls (.int i :: .ref a :: rest)) := by
  subst hi
  exact wi_ald hexec hb hK hP q0 t0 ha ht hk hn hdg kk
theorem wi_astE (hexec : p.tables.exec = Jvm.exec) (hb : c.code = cc) (hK : va_K D cl tys s) (hP : va_P D cl ws H) (hD : va_D A ws) (hS : va_S A H0 H locs) (q0 t0 : Nat) {cA : ClassId} {n : Nat} {f : Nat → Int32} (ha : ws[q0]? = some (a, .inl (cA, n, .inl f))) (ht : tys[t0]? = some (cA, .int)) {i : Int32} {k : Nat} {x : Int32} (hi : i = nI k) (hk : k < n) (hn : n < 2 ^ 31) (hdg : decode cc pc = .ok (.iastore, 1))
    (kk : ∀ (H1 : Heap) (locs1 : List Loc), va_P D cl (ws.set q0 (a, .inl (cA, n, .inl (upd f k x)))) H1 → va_D A (ws.set q0 (a, .inl (cA, n, .inl (upd f k x)))) → va_S A H0 H1 locs1 → W p l e R s m args below meth c H1 locs1 cells slots Q (F0 m (pc + 1) ls rest)) : W p l e R s m args below meth c H locs cells slots Q (F0 m pc ls (.int x :: .int i :: .ref a :: rest)) := by
  subst hi
  exact wi_ast hexec hb hK hP hD hS q0 t0 ha ht hk hn hdg kk
theorem wz_astE (hexec : p.tables.exec = Jvm.exec) (hb : c.code = cc) (hK : va_K D cl tys s) (hP : va_P D cl ws H) (hD : va_D A ws) (hS : va_S A H0 H locs) (q0 t0 : Nat) {cA : ClassId} {n : Nat} {f : Nat → Int32} (ha : ws[q0]? = some (a, .inl (cA, n, .inl f))) (ht : tys[t0]? = some (cA, .boolean)) {i : Int32} {k : Nat} {x : Int32} (hi : i = nI k) (hx1 : vp_nar .boolean x = x) (hk : k < n) (hn : n < 2 ^ 31) (hdg : decode cc pc = .ok (.bastore, 1))
    (kk : ∀ (H1 : Heap) (locs1 : List Loc), va_P D cl (ws.set q0 (a, .inl (cA, n, .inl (upd f k x)))) H1 → va_D A (ws.set q0 (a, .inl (cA, n, .inl (upd f k x)))) → va_S A H0 H1 locs1 → W p l e R s m args below meth c H1 locs1 cells slots Q (F0 m (pc + 1) ls rest)) : W p l e R s m args below meth c H locs cells slots Q (F0 m pc ls (.int x :: .int i :: .ref a :: rest)) := by
  subst hi
  exact wz_ast hexec hb hK hP hD hS q0 t0 ha ht hx1 hk hn hdg kk
end OWNE

set_option maxHeartbeats 4000000 in
set_option maxRecDepth 100000 in
theorem c_dadd (l : Launch) (dC : Nat → ClassId) (dI : Nat → Nat → Nat) (cI cZ cJ : ClassId) (a : Nat → Nat) (v : Nat → Int32) (g : Nat → Nat → Int32) (sz : Nat) (nd : Nat) (hnd : v 4 = nI nd) (hnd2 : nd < 6) (d mk : Int32) : Met l yX0_add wsX0_add ({ frames := 1, cells := 0, slots := 0, locals := 20 }) (va_Pc [.ref (a 2), .int d, .int mk] (fun U => U.heap.size = sz ∧ va_P (dC, dI) clA (wA cI cZ a v g) U.heap ∧ va_K (dC, dI) clA (tyA cI cZ cJ) U ∧ va_D (fun _ => True) (wA cI cZ a v g))) (va_Qi (fun (r : Int32) (u : StA) => r = v 4 + 1 ∧ u = (upd v 4 (v 4 + 1), upg (upg g 1 nd d) 2 nd mk)) (atA dC dI cI cZ cJ a (va_A (wA cI cZ a v g) sz)) (va_A (wA cI cZ a v g) sz))  0 0 (va_A (wA cI cZ a v g) sz) := by
  refine Met.ofW (cc := cX0_add) (maxL := 3) (ret := (some .int)) (by decide) rfl ?_
  intro p e s m args below meth c s₁ B hml hv
  obtain ⟨rfl, hsz, hP, hK, hD0⟩ := hv
  have hx := B.exec
  have hb := B.bytes
  have hr := B.returns
  have hts := atoms_spec (ws := wsX0_add) B.pre
  have hown : s.vm.findClass RX0 = some m.cls := findClass_of_methodNamed B.named
  have hlocks := B.notSynchronized
  subst hsz
  have hD := hD0.self (sz := s.heap.size)
  generalize hAe : va_A (wA cI cZ a v g) s.heap.size = A at hD ⊢
  have hA : ∀ q : Nat, s.heap.size ≤ q → A q := fun q h => by rw [← hAe]; exact Or.inr h
  have hS : va_S A s.heap s.heap [] := va_S.rf
  have hP : va_P (dC, dI) clA (wA cI cZ a v g) s.heap := hP
  have hl := lv_entry ([.ref (a 2), .int d, .int mk]) (n := 3) (Nat.le_of_ble_eq_true rfl)
  rw [lg_entry_eq]
  generalize (lg_sl ([.ref (a 2), .int d, .int mk]) ++ List.replicate (3 - (lg_sl ([.ref (a 2), .int d, .int mk])).length) Slot.unset).toArray = ls at hl ⊢
  have hl : lv_has ls 3 [(0, .ref (a 2)), (1, .int d), (2, .int mk)] := hl
  refine lv_aload_n hx hb dX0_add_0 rfl (lv_at hl 0 rfl) ?_
  refine vp_callSi (W.runV (As := []) (rest := []) ⟨hx, hb, hml, hown, hts⟩ (c_dfull l dC dI cI cZ cJ a v g ) (cwV 0 hts (gd_V ml_X0_X0_isFull im_X0_isFull se_X0_isFull in_X0 kX0_isFull) rfl rfl rfl (by decide +kernel) ⟨Nat.le_of_ble_eq_true rfl, Nat.le_of_ble_eq_true rfl⟩) ⟨fun _ U g mk q => by obtain ⟨q0, qP, qK⟩ := q; exact ⟨q0, qP, va_K.moved (u := U) (U := U.calling g mk _) (Vm.Alike.refl U.vm) qK⟩, va_recv hK hP (ci := 0) (q0 := 2) rfl rfl, fun U hU hW => ⟨rfl, by rw [hU]; exact hP, va_K.moved hW.alike hK⟩⟩ rfl rfl hl.1 rfl (lv_room (Nat.le_of_ble_eq_true rfl)) dX0_add_1 ⟨Nat.le_of_ble_eq_true rfl, Nat.le_of_ble_eq_true rfl⟩) (fun r1 hr1 => ?_)
  subst hr1
  refine lv_if_ne (tgt := 37) hx hb dX0_add_4 (by decide) (fun c4 => ?_) (fun c4 => ?_)
  · exact absurd c4 (fun h => h (bI_0.mpr (decide_eq_false (by rw [hnd]; exact nI_ge (b := 6) (by omega) (by decide)))))
  · refine lv_aload_n hx hb dX0_add_7 rfl (lv_at hl 0 rfl) ?_
    refine va_get (D := (dC, dI)) (ci := 0) (v := .ref (a 3)) (C := RX0) (T := TX0) (N := 3) hx hb hts (fun w h => List.mem_cons_of_mem _ (iw_X0 w h)) hown hK hP 2 rfl rfl 0 (by decide) (hts _ (List.mem_cons_of_mem _ fl_X0_days)) (fun _ h9 => h9) rfl dX0_add_8 ?_
    refine lv_aload_n hx hb dX0_add_11 rfl (lv_at hl 0 rfl) ?_
    refine va_get (D := (dC, dI)) (ci := 0) (v := .int (v 4)) (C := RX0) (T := TX0) (N := 3) hx hb hts (fun w h => List.mem_cons_of_mem _ (iw_X0 w h)) hown hK hP 2 rfl rfl 2 (by decide) (hts _ (List.mem_cons_of_mem _ fl_X0_size)) (fun _ h9 => h9) rfl dX0_add_12 ?_
    refine lv_iload_n hx hb dX0_add_15 rfl (lv_at hl 1 rfl) ?_
    refine wi_astE hx hb hK hP hD hS 3 0 rfl rfl (k := nd) hnd (by omega) (by decide) dX0_add_16 (fun H locs hP hD hS => ?_)
    have hP : va_P (dC, dI) clA (wA cI cZ a v (upg g 1 nd d)) H := hP
    have hD : va_D A (wA cI cZ a v (upg g 1 nd d)) := hD
    refine lv_aload_n hx hb dX0_add_17 rfl (lv_at hl 0 rfl) ?_
    refine va_get (D := (dC, dI)) (ci := 0) (v := .ref (a 4)) (C := RX0) (T := TX0) (N := 3) hx hb hts (fun w h => List.mem_cons_of_mem _ (iw_X0 w h)) hown hK hP 2 rfl rfl 1 (by decide) (hts _ (List.mem_cons_of_mem _ fl_X0_limits)) (fun _ h9 => h9) rfl dX0_add_18 ?_
    refine lv_aload_n hx hb dX0_add_21 rfl (lv_at hl 0 rfl) ?_
    refine va_get (D := (dC, dI)) (ci := 0) (v := .int (v 4)) (C := RX0) (T := TX0) (N := 3) hx hb hts (fun w h => List.mem_cons_of_mem _ (iw_X0 w h)) hown hK hP 2 rfl rfl 2 (by decide) (hts _ (List.mem_cons_of_mem _ fl_X0_size)) (fun _ h9 => h9) rfl dX0_add_22 ?_
    refine lv_iload_n hx hb dX0_add_25 rfl (lv_at hl 2 rfl) ?_
    refine wi_astE hx hb hK hP hD hS 4 0 rfl rfl (k := nd) hnd (by omega) (by decide) dX0_add_26 (fun H locs hP hD hS => ?_)
    have hP : va_P (dC, dI) clA (wA cI cZ a v (upg (upg g 1 nd d) 2 nd mk)) H := hP
    have hD : va_D A (wA cI cZ a v (upg (upg g 1 nd d) 2 nd mk)) := hD
    refine lv_aload_n hx hb dX0_add_27 rfl (lv_at hl 0 rfl) ?_
    refine lv_dup hx hb dX0_add_28 rfl ?_
    refine va_get (D := (dC, dI)) (ci := 0) (v := .int (v 4)) (C := RX0) (T := TX0) (N := 3) hx hb hts (fun w h => List.mem_cons_of_mem _ (iw_X0 w h)) hown hK hP 2 rfl rfl 2 (by decide) (hts _ (List.mem_cons_of_mem _ fl_X0_size)) (fun _ h9 => h9) rfl dX0_add_29 ?_
    refine lv_iconst (v := 1) hx hb dX0_add_32 (by decide) ?_
    refine lv_iadd hx hb dX0_add_33 ?_
    refine va_put (D := (dC, dI)) (ci := 0) (v := .int ((v 4) + 1)) (ty := .int) (C := RX0) (T := TX0) (N := 3) hx hb hts (fun w h => List.mem_cons_of_mem _ (iw_X0 w h)) tyX0 tyX0_ok nmX0 hown hK hP hD hS 2 rfl rfl 2 (by decide) (hts _ (List.mem_cons_of_mem _ fl_X0_size)) (fun _ h9 => h9) rfl (by decide +kernel) rfl rfl (Nat.le_of_ble_eq_true rfl) dX0_add_34 (fun H locs hP hD hS => ?_)
    have hP : va_P (dC, dI) clA (wA cI cZ a (upd v 4 ((v 4) + 1)) (upg (upg g 1 nd d) 2 nd mk)) H := hP
    have hD : va_D A (wA cI cZ a (upd v 4 ((v 4) + 1)) (upg (upg g 1 nd d) 2 nd mk)) := hD
    refine lv_aload_n hx hb dX0_add_37 rfl (lv_at hl 0 rfl) ?_
    refine va_get (D := (dC, dI)) (ci := 0) (v := .int ((v 4) + 1)) (C := RX0) (T := TX0) (N := 3) hx hb hts (fun w h => List.mem_cons_of_mem _ (iw_X0 w h)) hown hK hP 2 rfl rfl 2 (by decide) (hts _ (List.mem_cons_of_mem _ fl_X0_size)) (fun _ h9 => h9) rfl dX0_add_38 ?_
    exact (W.iret (v := (v 4) + 1) hx hb hr (fun t9 ht hW => ⟨⟨_, ((upd v 4 ((v 4) + 1)), (upg (upg g 1 nd d) 2 nd mk)), rfl, ⟨rfl, rfl⟩, ⟨by rw [ht]; exact hP, va_K.moved hW.alike hK, hD⟩⟩, hS.F ht⟩) hS.2.2 dX0_add_41)
set_option maxHeartbeats 4000000 in
set_option maxRecDepth 100000 in
theorem c_iadd (l : Launch) (dC : Nat → ClassId) (dI : Nat → Nat → Nat) (cI cZ cJ : ClassId) (a : Nat → Nat) (v : Nat → Int32) (g : Nat → Nat → Int32) (sz : Nat) (n : Nat) (hn : v 5 = nI n) (hn2 : n < 200) (d h k ar s0 mk : Int32) : Met l yX1_add wsX1_add ({ frames := 1, cells := 0, slots := 0, locals := 20 }) (va_Pc [.ref (a 5), .int d, .int h, .int k, .int ar, .int s0, .int mk] (fun U => U.heap.size = sz ∧ va_P (dC, dI) clA (wA cI cZ a v g) U.heap ∧ va_K (dC, dI) clA (tyA cI cZ cJ) U ∧ va_D (fun _ => True) (wA cI cZ a v g))) (va_Qi (fun (r : Int32) (u : StA) => r = v 5 ∧ u = (upd v 5 (v 5 + 1), upg (upg (upg (upg (upg (upg (upg (upg g 3 n d) 4 n h) 5 n k) 6 n ar) 7 n s0) 8 n mk) 9 n (-1)) 10 n (-1))) (atA dC dI cI cZ cJ a (va_A (wA cI cZ a v g) sz)) (va_A (wA cI cZ a v g) sz))  0 0 (va_A (wA cI cZ a v g) sz) := by
  refine Met.ofW (cc := cX1_add) (maxL := 8) (ret := (some .int)) (by decide) rfl ?_
  intro p e s m args below meth c s₁ B hml hv
  obtain ⟨rfl, hsz, hP, hK, hD0⟩ := hv
  have hx := B.exec
  have hb := B.bytes
  have hr := B.returns
  have hts := atoms_spec (ws := wsX1_add) B.pre
  have hown : s.vm.findClass RX1 = some m.cls := findClass_of_methodNamed B.named
  have hlocks := B.notSynchronized
  subst hsz
  have hD := hD0.self (sz := s.heap.size)
  generalize hAe : va_A (wA cI cZ a v g) s.heap.size = A at hD ⊢
  have hA : ∀ q : Nat, s.heap.size ≤ q → A q := fun q h => by rw [← hAe]; exact Or.inr h
  have hS : va_S A s.heap s.heap [] := va_S.rf
  have hP : va_P (dC, dI) clA (wA cI cZ a v g) s.heap := hP
  have hl := lv_entry ([.ref (a 5), .int d, .int h, .int k, .int ar, .int s0, .int mk]) (n := 8) (Nat.le_of_ble_eq_true rfl)
  rw [lg_entry_eq]
  generalize (lg_sl ([.ref (a 5), .int d, .int h, .int k, .int ar, .int s0, .int mk]) ++ List.replicate (8 - (lg_sl ([.ref (a 5), .int d, .int h, .int k, .int ar, .int s0, .int mk])).length) Slot.unset).toArray = ls at hl ⊢
  have hl : lv_has ls 8 [(0, .ref (a 5)), (1, .int d), (2, .int h), (3, .int k), (4, .int ar), (5, .int s0), (6, .int mk)] := hl
  refine lv_aload_n hx hb dX1_add_0 rfl (lv_at hl 0 rfl) ?_
  refine vp_callSi (W.runV (As := []) (rest := []) ⟨hx, hb, hml, hown, hts⟩ (c_ifull l dC dI cI cZ cJ a v g ) (cwV 0 hts (gd_V ml_X1_X1_isFull im_X1_isFull se_X1_isFull in_X1 kX1_isFull) rfl rfl rfl (by decide +kernel) ⟨Nat.le_of_ble_eq_true rfl, Nat.le_of_ble_eq_true rfl⟩) ⟨fun _ U g mk q => by obtain ⟨q0, qP, qK⟩ := q; exact ⟨q0, qP, va_K.moved (u := U) (U := U.calling g mk _) (Vm.Alike.refl U.vm) qK⟩, va_recv hK hP (ci := 1) (q0 := 5) rfl rfl, fun U hU hW => ⟨rfl, by rw [hU]; exact hP, va_K.moved hW.alike hK⟩⟩ rfl rfl hl.1 rfl (lv_room (Nat.le_of_ble_eq_true rfl)) dX1_add_1 ⟨Nat.le_of_ble_eq_true rfl, Nat.le_of_ble_eq_true rfl⟩) (fun r1 hr1 => ?_)
  subst hr1
  refine lv_if_eq (tgt := 12) hx hb dX1_add_4 (by decide) (fun c4 => ?_) (fun c4 => ?_)
  · refine lv_aload_n hx hb dX1_add_12 rfl (lv_at hl 0 rfl) ?_
    refine va_get (D := (dC, dI)) (ci := 1) (v := .int (v 5)) (C := RX1) (T := TX1) (N := 10) hx hb hts (fun w h => List.mem_cons_of_mem _ (iw_X1 w h)) hown hK hP 5 rfl rfl 9 (by decide) (hts _ (List.mem_cons_of_mem _ fl_X1_size)) (fun _ h9 => h9) rfl dX1_add_13 ?_
    refine lv_istore (lv' := [(7, .int (v 5)), (0, .ref (a 5)), (1, .int d), (2, .int h), (3, .int k), (4, .int ar), (5, .int s0), (6, .int mk)]) hx hb dX1_add_16 hl (by decide) rfl (fun ls hl => ?_)
    refine lv_aload_n hx hb dX1_add_18 rfl (lv_at hl 1 rfl) ?_
    refine va_get (D := (dC, dI)) (ci := 1) (v := .ref (a 6)) (C := RX1) (T := TX1) (N := 10) hx hb hts (fun w h => List.mem_cons_of_mem _ (iw_X1 w h)) hown hK hP 5 rfl rfl 0 (by decide) (hts _ (List.mem_cons_of_mem _ fl_X1_days)) (fun _ h9 => h9) rfl dX1_add_19 ?_
    refine lv_iload hx hb dX1_add_22 (lv_at hl 0 rfl) ?_
    refine lv_iload_n hx hb dX1_add_24 rfl (lv_at hl 2 rfl) ?_
    refine wi_astE hx hb hK hP hD hS 6 0 rfl rfl (k := n) hn (by omega) (by decide) dX1_add_25 (fun H locs hP hD hS => ?_)
    have hP : va_P (dC, dI) clA (wA cI cZ a v (upg g 3 n d)) H := hP
    have hD : va_D A (wA cI cZ a v (upg g 3 n d)) := hD
    refine lv_aload_n hx hb dX1_add_26 rfl (lv_at hl 1 rfl) ?_
    refine va_get (D := (dC, dI)) (ci := 1) (v := .ref (a 7)) (C := RX1) (T := TX1) (N := 10) hx hb hts (fun w h => List.mem_cons_of_mem _ (iw_X1 w h)) hown hK hP 5 rfl rfl 1 (by decide) (hts _ (List.mem_cons_of_mem _ fl_X1_hours)) (fun _ h9 => h9) rfl dX1_add_27 ?_
    refine lv_iload hx hb dX1_add_30 (lv_at hl 0 rfl) ?_
    refine lv_iload_n hx hb dX1_add_32 rfl (lv_at hl 3 rfl) ?_
    refine wi_astE hx hb hK hP hD hS 7 0 rfl rfl (k := n) hn (by omega) (by decide) dX1_add_33 (fun H locs hP hD hS => ?_)
    have hP : va_P (dC, dI) clA (wA cI cZ a v (upg (upg g 3 n d) 4 n h)) H := hP
    have hD : va_D A (wA cI cZ a v (upg (upg g 3 n d) 4 n h)) := hD
    refine lv_aload_n hx hb dX1_add_34 rfl (lv_at hl 1 rfl) ?_
    refine va_get (D := (dC, dI)) (ci := 1) (v := .ref (a 8)) (C := RX1) (T := TX1) (N := 10) hx hb hts (fun w h => List.mem_cons_of_mem _ (iw_X1 w h)) hown hK hP 5 rfl rfl 2 (by decide) (hts _ (List.mem_cons_of_mem _ fl_X1_kinds)) (fun _ h9 => h9) rfl dX1_add_35 ?_
    refine lv_iload hx hb dX1_add_38 (lv_at hl 0 rfl) ?_
    refine lv_iload_n hx hb dX1_add_40 rfl (lv_at hl 4 rfl) ?_
    refine wi_astE hx hb hK hP hD hS 8 0 rfl rfl (k := n) hn (by omega) (by decide) dX1_add_41 (fun H locs hP hD hS => ?_)
    have hP : va_P (dC, dI) clA (wA cI cZ a v (upg (upg (upg g 3 n d) 4 n h) 5 n k)) H := hP
    have hD : va_D A (wA cI cZ a v (upg (upg (upg g 3 n d) 4 n h) 5 n k)) := hD
    refine lv_aload_n hx hb dX1_add_42 rfl (lv_at hl 1 rfl) ?_
    refine va_get (D := (dC, dI)) (ci := 1) (v := .ref (a 9)) (C := RX1) (T := TX1) (N := 10) hx hb hts (fun w h => List.mem_cons_of_mem _ (iw_X1 w h)) hown hK hP 5 rfl rfl 3 (by decide) (hts _ (List.mem_cons_of_mem _ fl_X1_areas)) (fun _ h9 => h9) rfl dX1_add_43 ?_
    refine lv_iload hx hb dX1_add_46 (lv_at hl 0 rfl) ?_
    refine lv_iload hx hb dX1_add_48 (lv_at hl 5 rfl) ?_
    refine wi_astE hx hb hK hP hD hS 9 0 rfl rfl (k := n) hn (by omega) (by decide) dX1_add_50 (fun H locs hP hD hS => ?_)
    have hP : va_P (dC, dI) clA (wA cI cZ a v (upg (upg (upg (upg g 3 n d) 4 n h) 5 n k) 6 n ar)) H := hP
    have hD : va_D A (wA cI cZ a v (upg (upg (upg (upg g 3 n d) 4 n h) 5 n k) 6 n ar)) := hD
    refine lv_aload_n hx hb dX1_add_51 rfl (lv_at hl 1 rfl) ?_
    refine va_get (D := (dC, dI)) (ci := 1) (v := .ref (a 10)) (C := RX1) (T := TX1) (N := 10) hx hb hts (fun w h => List.mem_cons_of_mem _ (iw_X1 w h)) hown hK hP 5 rfl rfl 4 (by decide) (hts _ (List.mem_cons_of_mem _ fl_X1_stations)) (fun _ h9 => h9) rfl dX1_add_52 ?_
    refine lv_iload hx hb dX1_add_55 (lv_at hl 0 rfl) ?_
    refine lv_iload hx hb dX1_add_57 (lv_at hl 6 rfl) ?_
    refine wi_astE hx hb hK hP hD hS 10 0 rfl rfl (k := n) hn (by omega) (by decide) dX1_add_59 (fun H locs hP hD hS => ?_)
    have hP : va_P (dC, dI) clA (wA cI cZ a v (upg (upg (upg (upg (upg g 3 n d) 4 n h) 5 n k) 6 n ar) 7 n s0)) H := hP
    have hD : va_D A (wA cI cZ a v (upg (upg (upg (upg (upg g 3 n d) 4 n h) 5 n k) 6 n ar) 7 n s0)) := hD
    refine lv_aload_n hx hb dX1_add_60 rfl (lv_at hl 1 rfl) ?_
    refine va_get (D := (dC, dI)) (ci := 1) (v := .ref (a 11)) (C := RX1) (T := TX1) (N := 10) hx hb hts (fun w h => List.mem_cons_of_mem _ (iw_X1 w h)) hown hK hP 5 rfl rfl 5 (by decide) (hts _ (List.mem_cons_of_mem _ fl_X1_marks)) (fun _ h9 => h9) rfl dX1_add_61 ?_
    refine lv_iload hx hb dX1_add_64 (lv_at hl 0 rfl) ?_
    refine lv_iload hx hb dX1_add_66 (lv_at hl 7 rfl) ?_
    refine wi_astE hx hb hK hP hD hS 11 0 rfl rfl (k := n) hn (by omega) (by decide) dX1_add_68 (fun H locs hP hD hS => ?_)
    have hP : va_P (dC, dI) clA (wA cI cZ a v (upg (upg (upg (upg (upg (upg g 3 n d) 4 n h) 5 n k) 6 n ar) 7 n s0) 8 n mk)) H := hP
    have hD : va_D A (wA cI cZ a v (upg (upg (upg (upg (upg (upg g 3 n d) 4 n h) 5 n k) 6 n ar) 7 n s0) 8 n mk)) := hD
    refine lv_aload_n hx hb dX1_add_69 rfl (lv_at hl 1 rfl) ?_
    refine va_get (D := (dC, dI)) (ci := 1) (v := .ref (a 12)) (C := RX1) (T := TX1) (N := 10) hx hb hts (fun w h => List.mem_cons_of_mem _ (iw_X1 w h)) hown hK hP 5 rfl rfl 6 (by decide) (hts _ (List.mem_cons_of_mem _ fl_X1_turnOuts)) (fun _ h9 => h9) rfl dX1_add_70 ?_
    refine lv_iload hx hb dX1_add_73 (lv_at hl 0 rfl) ?_
    refine lv_iconst (v := (-1)) hx hb dX1_add_75 (by decide) ?_
    refine wi_astE hx hb hK hP hD hS 12 0 rfl rfl (k := n) hn (by omega) (by decide) dX1_add_76 (fun H locs hP hD hS => ?_)
    have hP : va_P (dC, dI) clA (wA cI cZ a v (upg (upg (upg (upg (upg (upg (upg g 3 n d) 4 n h) 5 n k) 6 n ar) 7 n s0) 8 n mk) 9 n (-1))) H := hP
    have hD : va_D A (wA cI cZ a v (upg (upg (upg (upg (upg (upg (upg g 3 n d) 4 n h) 5 n k) 6 n ar) 7 n s0) 8 n mk) 9 n (-1))) := hD
    refine lv_aload_n hx hb dX1_add_77 rfl (lv_at hl 1 rfl) ?_
    refine va_get (D := (dC, dI)) (ci := 1) (v := .ref (a 13)) (C := RX1) (T := TX1) (N := 10) hx hb hts (fun w h => List.mem_cons_of_mem _ (iw_X1 w h)) hown hK hP 5 rfl rfl 7 (by decide) (hts _ (List.mem_cons_of_mem _ fl_X1_travels)) (fun _ h9 => h9) rfl dX1_add_78 ?_
    refine lv_iload hx hb dX1_add_81 (lv_at hl 0 rfl) ?_
    refine lv_iconst (v := (-1)) hx hb dX1_add_83 (by decide) ?_
    refine wi_astE hx hb hK hP hD hS 13 0 rfl rfl (k := n) hn (by omega) (by decide) dX1_add_84 (fun H locs hP hD hS => ?_)
    have hP : va_P (dC, dI) clA (wA cI cZ a v (upg (upg (upg (upg (upg (upg (upg (upg g 3 n d) 4 n h) 5 n k) 6 n ar) 7 n s0) 8 n mk) 9 n (-1)) 10 n (-1))) H := hP
    have hD : va_D A (wA cI cZ a v (upg (upg (upg (upg (upg (upg (upg (upg g 3 n d) 4 n h) 5 n k) 6 n ar) 7 n s0) 8 n mk) 9 n (-1)) 10 n (-1))) := hD
    refine lv_aload_n hx hb dX1_add_85 rfl (lv_at hl 1 rfl) ?_
    refine lv_dup hx hb dX1_add_86 rfl ?_
    refine va_get (D := (dC, dI)) (ci := 1) (v := .int (v 5)) (C := RX1) (T := TX1) (N := 10) hx hb hts (fun w h => List.mem_cons_of_mem _ (iw_X1 w h)) hown hK hP 5 rfl rfl 9 (by decide) (hts _ (List.mem_cons_of_mem _ fl_X1_size)) (fun _ h9 => h9) rfl dX1_add_87 ?_
    refine lv_iconst (v := 1) hx hb dX1_add_90 (by decide) ?_
    refine lv_iadd hx hb dX1_add_91 ?_
    refine va_put (D := (dC, dI)) (ci := 1) (v := .int ((v 5) + 1)) (ty := .int) (C := RX1) (T := TX1) (N := 10) hx hb hts (fun w h => List.mem_cons_of_mem _ (iw_X1 w h)) tyX1 tyX1_ok nmX1 hown hK hP hD hS 5 rfl rfl 9 (by decide) (hts _ (List.mem_cons_of_mem _ fl_X1_size)) (fun _ h9 => h9) rfl (by decide +kernel) rfl rfl (Nat.le_of_ble_eq_true rfl) dX1_add_92 (fun H locs hP hD hS => ?_)
    have hP : va_P (dC, dI) clA (wA cI cZ a (upd v 5 ((v 5) + 1)) (upg (upg (upg (upg (upg (upg (upg (upg g 3 n d) 4 n h) 5 n k) 6 n ar) 7 n s0) 8 n mk) 9 n (-1)) 10 n (-1))) H := hP
    have hD : va_D A (wA cI cZ a (upd v 5 ((v 5) + 1)) (upg (upg (upg (upg (upg (upg (upg (upg g 3 n d) 4 n h) 5 n k) 6 n ar) 7 n s0) 8 n mk) 9 n (-1)) 10 n (-1))) := hD
    refine lv_iload hx hb dX1_add_95 (lv_at hl 0 rfl) ?_
    exact (W.iret (v := v 5) hx hb hr (fun t9 ht hW => ⟨⟨_, ((upd v 5 ((v 5) + 1)), (upg (upg (upg (upg (upg (upg (upg (upg g 3 n d) 4 n h) 5 n k) 6 n ar) 7 n s0) 8 n mk) 9 n (-1)) 10 n (-1))), rfl, ⟨rfl, rfl⟩, ⟨by rw [ht]; exact hP, va_K.moved hW.alike hK, hD⟩⟩, hS.F ht⟩) hS.2.2 dX1_add_97)
  · exact absurd (bI_0.mpr (decide_eq_false (by rw [hn]; exact nI_ge (b := 200) (by omega) (by decide)))) c4
set_option maxHeartbeats 4000000 in
set_option maxRecDepth 100000 in
theorem c_setSec (l : Launch) (dC : Nat → ClassId) (dI : Nat → Nat → Nat) (cI cZ cJ : ClassId) (a : Nat → Nat) (v : Nat → Int32) (g : Nat → Nat → Int32) (sz : Nat) (n : Nat) (hn : v 5 = nI n) (hn2 : n ≤ 200) (k : Nat) (hk : k < n) (x y : Int32) : Met l yX1_setSeconds wsX1_setSeconds ({ frames := 0, cells := 0, slots := 0, locals := 0 }) (va_Pc [.ref (a 5), .int (nI k), .int x, .int y] (fun U => U.heap.size = sz ∧ va_P (dC, dI) clA (wA cI cZ a v g) U.heap ∧ va_K (dC, dI) clA (tyA cI cZ cJ) U ∧ va_D (fun _ => True) (wA cI cZ a v g))) (va_Qv (fun (u : StA) => u = (v, upg (upg g 9 k x) 10 k y)) (atA dC dI cI cZ cJ a (va_A (wA cI cZ a v g) sz)) (va_A (wA cI cZ a v g) sz))  0 0 (va_A (wA cI cZ a v g) sz) := by
  refine Met.ofW (cc := cX1_setSeconds) (maxL := 4) (ret := none) (by decide) rfl ?_
  intro p e s m args below meth c s₁ B hml hv
  obtain ⟨rfl, hsz, hP, hK, hD0⟩ := hv
  have hx := B.exec
  have hb := B.bytes
  have hr := B.returns
  have hts := atoms_spec (ws := wsX1_setSeconds) B.pre
  have hown : s.vm.findClass RX1 = some m.cls := findClass_of_methodNamed B.named
  have hlocks := B.notSynchronized
  subst hsz
  have hD := hD0.self (sz := s.heap.size)
  generalize hAe : va_A (wA cI cZ a v g) s.heap.size = A at hD ⊢
  have hA : ∀ q : Nat, s.heap.size ≤ q → A q := fun q h => by rw [← hAe]; exact Or.inr h
  have hS : va_S A s.heap s.heap [] := va_S.rf
  have hP : va_P (dC, dI) clA (wA cI cZ a v g) s.heap := hP
  have hl := lv_entry ([.ref (a 5), .int (nI k), .int x, .int y]) (n := 4) (Nat.le_of_ble_eq_true rfl)
  rw [lg_entry_eq]
  generalize (lg_sl ([.ref (a 5), .int (nI k), .int x, .int y]) ++ List.replicate (4 - (lg_sl ([.ref (a 5), .int (nI k), .int x, .int y])).length) Slot.unset).toArray = ls at hl ⊢
  have hl : lv_has ls 4 [(0, .ref (a 5)), (1, .int (nI k)), (2, .int x), (3, .int y)] := hl
  refine lv_iload_n hx hb dX1_setSeconds_0 rfl (lv_at hl 1 rfl) ?_
  refine lv_if_lt (tgt := 26) hx hb dX1_setSeconds_1 (by decide) (fun c1 => ?_) (fun c1 => ?_)
  · exact absurd c1 (nI_pos (by omega))
  · refine lv_iload_n hx hb dX1_setSeconds_4 rfl (lv_at hl 1 rfl) ?_
    refine lv_aload_n hx hb dX1_setSeconds_5 rfl (lv_at hl 0 rfl) ?_
    refine va_get (D := (dC, dI)) (ci := 1) (v := .int (v 5)) (C := RX1) (T := TX1) (N := 10) hx hb hts (fun w h => List.mem_cons_of_mem _ (iw_X1 w h)) hown hK hP 5 rfl rfl 9 (by decide) (hts _ (List.mem_cons_of_mem _ fl_X1_size)) (fun _ h9 => h9) rfl dX1_setSeconds_6 ?_
    refine lv_icmp_ge (tgt := 26) hx hb dX1_setSeconds_9 (by decide) (fun c9 => ?_) (fun c9 => ?_)
    · exact absurd c9 (by rw [hn]; exact nI_ge hk (by omega))
    · refine lv_aload_n hx hb dX1_setSeconds_12 rfl (lv_at hl 0 rfl) ?_
      refine va_get (D := (dC, dI)) (ci := 1) (v := .ref (a 12)) (C := RX1) (T := TX1) (N := 10) hx hb hts (fun w h => List.mem_cons_of_mem _ (iw_X1 w h)) hown hK hP 5 rfl rfl 6 (by decide) (hts _ (List.mem_cons_of_mem _ fl_X1_turnOuts)) (fun _ h9 => h9) rfl dX1_setSeconds_13 ?_
      refine lv_iload_n hx hb dX1_setSeconds_16 rfl (lv_at hl 1 rfl) ?_
      refine lv_iload_n hx hb dX1_setSeconds_17 rfl (lv_at hl 2 rfl) ?_
      refine wi_ast hx hb hK hP hD hS 12 0 rfl rfl (k := k) (by omega) (by decide) dX1_setSeconds_18 (fun H locs hP hD hS => ?_)
      have hP : va_P (dC, dI) clA (wA cI cZ a v (upg g 9 k x)) H := hP
      have hD : va_D A (wA cI cZ a v (upg g 9 k x)) := hD
      refine lv_aload_n hx hb dX1_setSeconds_19 rfl (lv_at hl 0 rfl) ?_
      refine va_get (D := (dC, dI)) (ci := 1) (v := .ref (a 13)) (C := RX1) (T := TX1) (N := 10) hx hb hts (fun w h => List.mem_cons_of_mem _ (iw_X1 w h)) hown hK hP 5 rfl rfl 7 (by decide) (hts _ (List.mem_cons_of_mem _ fl_X1_travels)) (fun _ h9 => h9) rfl dX1_setSeconds_20 ?_
      refine lv_iload_n hx hb dX1_setSeconds_23 rfl (lv_at hl 1 rfl) ?_
      refine lv_iload_n hx hb dX1_setSeconds_24 rfl (lv_at hl 3 rfl) ?_
      refine wi_ast hx hb hK hP hD hS 13 0 rfl rfl (k := k) (by omega) (by decide) dX1_setSeconds_25 (fun H locs hP hD hS => ?_)
      have hP : va_P (dC, dI) clA (wA cI cZ a v (upg (upg g 9 k x) 10 k y)) H := hP
      have hD : va_D A (wA cI cZ a v (upg (upg g 9 k x) 10 k y)) := hD
      exact (W.vret hx hb hr (fun t9 ht hW => ⟨⟨(v, (upg (upg g 9 k x) 10 k y)), rfl, rfl, ⟨by rw [ht]; exact hP, va_K.moved hW.alike hK, hD⟩⟩, hS.F ht⟩) hS.2.2 dX1_setSeconds_26)
set_option maxHeartbeats 4000000 in
set_option maxRecDepth 100000 in
theorem c_setCount (l : Launch) (dC : Nat → ClassId) (dI : Nat → Nat → Nat) (cI cZ cJ : ClassId) (a : Nat → Nat) (v : Nat → Int32) (g : Nat → Nat → Int32) (sz : Nat) (np : Nat) (hnp : v 6 = nI np) (hnp2 : np ≤ 6) (k : Nat) (hk : k < np) (x : Int32) : Met l yX3_setCount wsX3_setCount ({ frames := 0, cells := 0, slots := 0, locals := 0 }) (va_Pc [.ref (a 15), .int (nI k), .int x] (fun U => U.heap.size = sz ∧ va_P (dC, dI) clA (wA cI cZ a v g) U.heap ∧ va_K (dC, dI) clA (tyA cI cZ cJ) U ∧ va_D (fun _ => True) (wA cI cZ a v g))) (va_Qv (fun (u : StA) => u = (v, upg g 12 k x)) (atA dC dI cI cZ cJ a (va_A (wA cI cZ a v g) sz)) (va_A (wA cI cZ a v g) sz))  0 0 (va_A (wA cI cZ a v g) sz) := by
  refine Met.ofW (cc := cX3_setCount) (maxL := 3) (ret := none) (by decide) rfl ?_
  intro p e s m args below meth c s₁ B hml hv
  obtain ⟨rfl, hsz, hP, hK, hD0⟩ := hv
  have hx := B.exec
  have hb := B.bytes
  have hr := B.returns
  have hts := atoms_spec (ws := wsX3_setCount) B.pre
  have hown : s.vm.findClass RX3 = some m.cls := findClass_of_methodNamed B.named
  have hlocks := B.notSynchronized
  subst hsz
  have hD := hD0.self (sz := s.heap.size)
  generalize hAe : va_A (wA cI cZ a v g) s.heap.size = A at hD ⊢
  have hA : ∀ q : Nat, s.heap.size ≤ q → A q := fun q h => by rw [← hAe]; exact Or.inr h
  have hS : va_S A s.heap s.heap [] := va_S.rf
  have hP : va_P (dC, dI) clA (wA cI cZ a v g) s.heap := hP
  have hl := lv_entry ([.ref (a 15), .int (nI k), .int x]) (n := 3) (Nat.le_of_ble_eq_true rfl)
  rw [lg_entry_eq]
  generalize (lg_sl ([.ref (a 15), .int (nI k), .int x]) ++ List.replicate (3 - (lg_sl ([.ref (a 15), .int (nI k), .int x])).length) Slot.unset).toArray = ls at hl ⊢
  have hl : lv_has ls 3 [(0, .ref (a 15)), (1, .int (nI k)), (2, .int x)] := hl
  refine lv_iload_n hx hb dX3_setCount_0 rfl (lv_at hl 1 rfl) ?_
  refine lv_if_lt (tgt := 19) hx hb dX3_setCount_1 (by decide) (fun c1 => ?_) (fun c1 => ?_)
  · exact absurd c1 (nI_pos (by omega))
  · refine lv_iload_n hx hb dX3_setCount_4 rfl (lv_at hl 1 rfl) ?_
    refine lv_aload_n hx hb dX3_setCount_5 rfl (lv_at hl 0 rfl) ?_
    refine va_get (D := (dC, dI)) (ci := 3) (v := .int (v 6)) (C := RX3) (T := TX3) (N := 2) hx hb hts (fun w h => List.mem_cons_of_mem _ (iw_X3 w h)) hown hK hP 15 rfl rfl 1 (by decide) (hts _ (List.mem_cons_of_mem _ fl_X3_periods)) (fun _ h9 => h9) rfl dX3_setCount_6 ?_
    refine lv_icmp_ge (tgt := 19) hx hb dX3_setCount_9 (by decide) (fun c9 => ?_) (fun c9 => ?_)
    · exact absurd c9 (by rw [hnp]; exact nI_ge hk (by omega))
    · refine lv_aload_n hx hb dX3_setCount_12 rfl (lv_at hl 0 rfl) ?_
      refine va_get (D := (dC, dI)) (ci := 3) (v := .ref (a 16)) (C := RX3) (T := TX3) (N := 2) hx hb hts (fun w h => List.mem_cons_of_mem _ (iw_X3 w h)) hown hK hP 15 rfl rfl 0 (by decide) (hts _ (List.mem_cons_of_mem _ fl_X3_counts)) (fun _ h9 => h9) rfl dX3_setCount_13 ?_
      refine lv_iload_n hx hb dX3_setCount_16 rfl (lv_at hl 1 rfl) ?_
      refine lv_iload_n hx hb dX3_setCount_17 rfl (lv_at hl 2 rfl) ?_
      refine wi_ast hx hb hK hP hD hS 16 0 rfl rfl (k := k) (by omega) (by decide) dX3_setCount_18 (fun H locs hP hD hS => ?_)
      have hP : va_P (dC, dI) clA (wA cI cZ a v (upg g 12 k x)) H := hP
      have hD : va_D A (wA cI cZ a v (upg g 12 k x)) := hD
      exact (W.vret hx hb hr (fun t9 ht hW => ⟨⟨(v, (upg g 12 k x)), rfl, rfl, ⟨by rw [ht]; exact hP, va_K.moved hW.alike hK, hD⟩⟩, hS.F ht⟩) hS.2.2 dX3_setCount_19)
set_option maxHeartbeats 4000000 in
set_option maxRecDepth 100000 in
theorem c_setLeast (l : Launch) (dC : Nat → ClassId) (dI : Nat → Nat → Nat) (cI cZ cJ : ClassId) (a : Nat → Nat) (v : Nat → Int32) (g : Nat → Nat → Int32) (sz : Nat) (x : Int32) : Met l yX2_setLeast wsX2_setLeast ({ frames := 0, cells := 0, slots := 0, locals := 0 }) (va_Pc [.ref (a 17), .int x] (fun U => U.heap.size = sz ∧ va_P (dC, dI) clA (wA cI cZ a v g) U.heap ∧ va_K (dC, dI) clA (tyA cI cZ cJ) U ∧ va_D (fun _ => True) (wA cI cZ a v g))) (va_Qv (fun (u : StA) => u = (upd v 7 x, g)) (atA dC dI cI cZ cJ a (va_A (wA cI cZ a v g) sz)) (va_A (wA cI cZ a v g) sz))  0 0 (va_A (wA cI cZ a v g) sz) := by
  refine Met.ofW (cc := cX2_setLeast) (maxL := 2) (ret := none) (by decide) rfl ?_
  intro p e s m args below meth c s₁ B hml hv
  obtain ⟨rfl, hsz, hP, hK, hD0⟩ := hv
  have hx := B.exec
  have hb := B.bytes
  have hr := B.returns
  have hts := atoms_spec (ws := wsX2_setLeast) B.pre
  have hown : s.vm.findClass RX2 = some m.cls := findClass_of_methodNamed B.named
  have hlocks := B.notSynchronized
  subst hsz
  have hD := hD0.self (sz := s.heap.size)
  generalize hAe : va_A (wA cI cZ a v g) s.heap.size = A at hD ⊢
  have hA : ∀ q : Nat, s.heap.size ≤ q → A q := fun q h => by rw [← hAe]; exact Or.inr h
  have hS : va_S A s.heap s.heap [] := va_S.rf
  have hP : va_P (dC, dI) clA (wA cI cZ a v g) s.heap := hP
  have hl := lv_entry ([.ref (a 17), .int x]) (n := 2) (Nat.le_of_ble_eq_true rfl)
  rw [lg_entry_eq]
  generalize (lg_sl ([.ref (a 17), .int x]) ++ List.replicate (2 - (lg_sl ([.ref (a 17), .int x])).length) Slot.unset).toArray = ls at hl ⊢
  have hl : lv_has ls 2 [(0, .ref (a 17)), (1, .int x)] := hl
  refine lv_aload_n hx hb dX2_setLeast_0 rfl (lv_at hl 0 rfl) ?_
  refine lv_iload_n hx hb dX2_setLeast_1 rfl (lv_at hl 1 rfl) ?_
  refine va_put (D := (dC, dI)) (ci := 2) (v := .int x) (ty := .int) (C := RX2) (T := TX2) (N := 4) hx hb hts (fun w h => List.mem_cons_of_mem _ (iw_X2 w h)) tyX2 tyX2_ok nmX2 hown hK hP hD hS 17 rfl rfl 2 (by decide) (hts _ (List.mem_cons_of_mem _ fl_X2_lowestShown)) (fun _ h9 => h9) rfl (by decide +kernel) rfl rfl (Nat.le_of_ble_eq_true rfl) dX2_setLeast_2 (fun H locs hP hD hS => ?_)
  have hP : va_P (dC, dI) clA (wA cI cZ a (upd v 7 x) g) H := hP
  have hD : va_D A (wA cI cZ a (upd v 7 x) g) := hD
  exact (W.vret hx hb hr (fun t9 ht hW => ⟨⟨((upd v 7 x), g), rfl, rfl, ⟨by rw [ht]; exact hP, va_K.moved hW.alike hK, hD⟩⟩, hS.F ht⟩) hS.2.2 dX2_setLeast_5)
set_option maxHeartbeats 4000000 in
set_option maxRecDepth 100000 in
theorem c_start (l : Launch) (dC : Nat → ClassId) (dI : Nat → Nat → Nat) (cI cZ cJ : ClassId) (a : Nat → Nat) (v : Nat → Int32) (g : Nat → Nat → Int32) (sz : Nat) (pr : Int32) (np : Nat) (hpr : pr = nI np) (hnp2 : np ≤ 6) : Met l yX3_start wsX3_start ({ frames := 1, cells := 0, slots := 0, locals := 40 }) (va_Pc [.ref (a 15), .int pr] (fun U => U.heap.size = sz ∧ va_P (dC, dI) clA (wA cI cZ a v g) U.heap ∧ va_K (dC, dI) clA (tyA cI cZ cJ) U ∧ va_D (fun _ => True) (wA cI cZ a v g))) (va_Qv (fun (u : StA) => u = (upd v 6 pr, g)) (atA dC dI cI cZ cJ a (va_A (wA cI cZ a v g) sz)) (va_A (wA cI cZ a v g) sz))  0 0 (va_A (wA cI cZ a v g) sz) := by
  refine Met.ofW (cc := cX3_start) (maxL := 2) (ret := none) (by decide) rfl ?_
  intro p e s m args below meth c s₁ B hml hv
  obtain ⟨rfl, hsz, hP, hK, hD0⟩ := hv
  have hx := B.exec
  have hb := B.bytes
  have hr := B.returns
  have hts := atoms_spec (ws := wsX3_start) B.pre
  have hown : s.vm.findClass RX3 = some m.cls := findClass_of_methodNamed B.named
  have hlocks := B.notSynchronized
  subst hsz
  have hD := hD0.self (sz := s.heap.size)
  generalize hAe : va_A (wA cI cZ a v g) s.heap.size = A at hD ⊢
  have hA : ∀ q : Nat, s.heap.size ≤ q → A q := fun q h => by rw [← hAe]; exact Or.inr h
  have hS : va_S A s.heap s.heap [] := va_S.rf
  have hP : va_P (dC, dI) clA (wA cI cZ a v g) s.heap := hP
  have hl := lv_entry ([.ref (a 15), .int pr]) (n := 2) (Nat.le_of_ble_eq_true rfl)
  rw [lg_entry_eq]
  generalize (lg_sl ([.ref (a 15), .int pr]) ++ List.replicate (2 - (lg_sl ([.ref (a 15), .int pr])).length) Slot.unset).toArray = ls at hl ⊢
  have hl : lv_has ls 2 [(0, .ref (a 15)), (1, .int pr)] := hl
  refine lv_aload_n hx hb dX3_start_0 rfl (lv_at hl 0 rfl) ?_
  refine lv_iload_n hx hb dX3_start_1 rfl (lv_at hl 1 rfl) ?_
  refine lv_bipush (v := 6) hx hb dX3_start_2 (by decide) ?_
  refine va_mmin hx hb (by rw [hml]; exact hl.1.symm) hown (hts _ (List.mem_cons_of_mem _ ml_X3_Math_min)) (hts _ (List.mem_cons_of_mem _ sm_Math_min)) (hts _ (List.mem_cons_of_mem _ in_Math)) (hts _ (List.mem_cons_of_mem _ kMath_min)) (Nat.le_of_ble_eq_true rfl) (Nat.le_of_ble_eq_true rfl) (Nat.le_of_ble_eq_true rfl) (Nat.le_of_ble_eq_true rfl) dX3_start_4 ?_
  rw [if_neg (show ¬ (6 : Int32) < pr by rw [hpr]; exact nI_nlt (a := 6) (b := np) hnp2 (by decide))]
  refine va_put (D := (dC, dI)) (ci := 3) (v := .int pr) (ty := .int) (C := RX3) (T := TX3) (N := 2) hx hb hts (fun w h => List.mem_cons_of_mem _ (iw_X3 w h)) tyX3 tyX3_ok nmX3 hown hK hP hD hS 15 rfl rfl 1 (by decide) (hts _ (List.mem_cons_of_mem _ fl_X3_periods)) (fun _ h9 => h9) rfl (by decide +kernel) rfl rfl (Nat.le_of_ble_eq_true rfl) dX3_start_7 (fun H locs hP hD hS => ?_)
  have hP : va_P (dC, dI) clA (wA cI cZ a (upd v 6 pr) g) H := hP
  have hD : va_D A (wA cI cZ a (upd v 6 pr) g) := hD
  exact (W.vret hx hb hr (fun t9 ht hW => ⟨⟨((upd v 6 pr), g), rfl, rfl, ⟨by rw [ht]; exact hP, va_K.moved hW.alike hK, hD⟩⟩, hS.F ht⟩) hS.2.2 dX3_start_10)
