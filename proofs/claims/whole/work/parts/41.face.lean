set_option maxHeartbeats 4000000 in
set_option maxRecDepth 100000 in
theorem c_row (l : Launch) (hl9 : l.stackTraces = false) (dC : Nat → ClassId) (dI : Nat → Nat → Nat) (cI cZ cJ : ClassId) (a : Nat → Nat) (tx : Nat → Nat) (v : Nat → Int32) (g : Nat → Nat → Int32) (sz : Nat) (n : Nat) (hn : v 5 = nI n) (hn2 : n ≤ 200) (d ho kd ar st mk : Int32) : vx_Met l yX4_row wsX4_row ({ frames := 9, cells := 7, slots := 42, locals := 142 }) (va_Pc [.ref (a 0), .int d, .int ho, .int kd, .int ar, .int st, .int mk] (fun U => U.heap.size = sz ∧ va_P (dC, dI) clA (wA cI cZ a v g) U.heap ∧ va_K (dC, dI) clA (tyA cI cZ cJ) U ∧ va_D (fun _ => True) (wA cI cZ a v g) ∧ ZX tx (va_A (wA cI cZ a v g) sz) U U.heap)) (va_Qi (fun (r : Int32) (u : StA) => r = v 5 ∧ (inU kd 5 ∧ inU ar 10 ∧ inU st 6 ∧ inR d 0 9999 ∧ inR ho 0 23 ∧ inR mk 0 3 ∧ n < 200) ∧ u = (upd v 5 (v 5 + 1), upg (upg (upg (upg (upg (upg (upg (upg g 3 n d) 4 n ho) 5 n kd) 6 n ar) 7 n st) 8 n mk) 9 n (-1)) 10 n (-1))) (atA dC dI cI cZ cJ a (va_A (wA cI cZ a v g) sz)) (va_A (wA cI cZ a v g) sz)) (vx_X (fun E : String => thr E "java/lang/IllegalArgumentException" (¬ inU kd 5 ∨ ¬ inU ar 10 ∨ ¬ inU st 6) "java/lang/IndexOutOfBoundsException" (¬ inR d 0 9999 ∨ ¬ inR ho 0 23 ∨ ¬ inR mk 0 3) "java/lang/UnsupportedOperationException" (n = 200)) (fun E1 E t => E1 = E ∧ atA dC dI cI cZ cJ a (va_A (wA cI cZ a v g) sz) (v, g) t) (va_A (wA cI cZ a v g) sz)) 7 42 (va_A (wA cI cZ a v g) sz) := by
  refine vx_ofW (cc := cX4_row) (maxL := 7) (ret := (some .int)) (by decide) rfl ?_
  intro p e s m args below meth c s₁ B hml hEx hv
  obtain ⟨rfl, hsz, hP, hK, hD0, hZ⟩ := hv
  have hx := B.exec
  have hb := B.bytes
  have hr := B.returns
  have hts := atoms_spec (ws := wsX4_row) B.pre
  have hown : s.vm.findClass RX4 = some m.cls := findClass_of_methodNamed B.named
  have hlocks := B.notSynchronized
  subst hsz
  have hD := hD0.self (sz := s.heap.size)
  generalize hAe : va_A (wA cI cZ a v g) s.heap.size = A at hD hZ ⊢
  have hA : ∀ q : Nat, s.heap.size ≤ q → A q := fun q h => by rw [← hAe]; exact Or.inr h
  have hS : va_S A s.heap s.heap [] := va_S.rf
  have hP : va_P (dC, dI) clA (wA cI cZ a v g) s.heap := hP
  have hl := lv_entry ([.ref (a 0), .int d, .int ho, .int kd, .int ar, .int st, .int mk]) (n := 7) (Nat.le_of_ble_eq_true rfl)
  rw [lg_entry_eq]
  generalize (lg_sl ([.ref (a 0), .int d, .int ho, .int kd, .int ar, .int st, .int mk]) ++ List.replicate (7 - (lg_sl ([.ref (a 0), .int d, .int ho, .int kd, .int ar, .int st, .int mk])).length) Slot.unset).toArray = ls at hl ⊢
  have hl : lv_has ls 7 [(0, .ref (a 0)), (1, .int d), (2, .int ho), (3, .int kd), (4, .int ar), (5, .int st), (6, .int mk)] := hl
  refine lv_iload_n hx hb dX4_row_0 rfl (lv_at hl 3 rfl) ?_
  refine lv_iconst (v := 5) hx hb dX4_row_1 (by decide) ?_
  have hFc := va_free (wc := (wA cI cZ a v g)) hD hS hA [0, 1, 2, 3, 4, 5, 6, 7, 8, 9, 10, 11, 12, 13, 14, 15, 16, 17, 18, 19] rfl
  refine vx_callv (vx_runS (As := [.int kd, .int 5]) (rest := []) ⟨hx, hb, hml, hown, hts⟩ (c_refU l hl9 dC dI cI cZ cJ a tx v g s.heap.size kd 5) (cwS 2 hts (gd_S ml_X4_X4_refuseUnknown sm_X4_refuseUnknown in_X4 kX4_refuseUnknown) rfl rfl rfl (by decide +kernel) ⟨Nat.le_of_ble_eq_true rfl, Nat.le_of_ble_eq_true rfl⟩) ⟨fun _ U g mk q => by obtain ⟨q0, q1, qP, qK, qD, qZ⟩ := q; exact ⟨q0, q1, qP, va_K.moved (u := U) (U := U.calling g mk _) (Vm.Alike.refl U.vm) qK, qD, ZX.calling qZ⟩, fun U hU hW => ⟨rfl, by rw [hU], by rw [hU]; exact hP, va_K.moved hW.alike hK, hD.weaken (fun _ _ _ _ => trivial), ZX.call hZ hS hFc hW hU⟩⟩ rfl rfl hl.1 rfl (lv_room (Nat.le_of_ble_eq_true rfl)) dX4_row_2 ⟨Nat.le_of_ble_eq_true rfl, Nat.le_of_ble_eq_true rfl⟩) hS (fun q _ h => hFc q h) hFc (fun q _ h => hFc q h) (fun E2 ce q9 u9 t9 H1 locs ht hvm hp hB hz1 hk1 hS hcell hcv hcl => ?_) (fun u9 t9 H1 locs ht hvm hw hB hz1 hk1 hS => ?_)
  · obtain ⟨rfl, hP1, hK1, hD1⟩ := hB
    rw [ht] at hP1
    have hD := hD1.weaken (fun k q _ h => hFc q.1 h)
    exact vx_out (fun x h => (hEx x h).elim) hlocks hcell hcv hcl (fun t8 ht2 hal => ⟨_, (by simp [thr, hp.1, hp.2, ]), ⟨rfl, by rw [ht2]; exact hP1, va_K.moved hal hK, hD⟩, hS.F ht2⟩) hS.2.2 (by decide) (by decide)
  · obtain ⟨ok2, rfl⟩ := hw
    obtain ⟨hP, hK1, hD1⟩ := hB
    rw [ht] at hP
    have hD := hD1.weaken (fun k q _ h => hFc q.1 h)
    clear hFc hk1 hD1 hK1
    generalize H1 = H at hP hS ⊢
    have hP : va_P (dC, dI) clA (wA cI cZ a v g) H := hP
    have hD : va_D A (wA cI cZ a v g) := hD
    refine lv_iload hx hb dX4_row_5 (lv_at hl 4 rfl) ?_
    refine lv_bipush (v := 10) hx hb dX4_row_7 (by decide) ?_
    have hFc := va_free (wc := (wA cI cZ a v g)) hD hS hA [0, 1, 2, 3, 4, 5, 6, 7, 8, 9, 10, 11, 12, 13, 14, 15, 16, 17, 18, 19] rfl
    refine vx_callv (vx_runS (As := [.int ar, .int 10]) (rest := []) ⟨hx, hb, hml, hown, hts⟩ (c_refU l hl9 dC dI cI cZ cJ a tx v g H.size ar 10) (cwS 2 hts (gd_S ml_X4_X4_refuseUnknown sm_X4_refuseUnknown in_X4 kX4_refuseUnknown) rfl rfl rfl (by decide +kernel) ⟨Nat.le_of_ble_eq_true rfl, Nat.le_of_ble_eq_true rfl⟩) ⟨fun _ U g mk q => by obtain ⟨q0, q1, qP, qK, qD, qZ⟩ := q; exact ⟨q0, q1, qP, va_K.moved (u := U) (U := U.calling g mk _) (Vm.Alike.refl U.vm) qK, qD, ZX.calling qZ⟩, fun U hU hW => ⟨rfl, by rw [hU], by rw [hU]; exact hP, va_K.moved hW.alike hK, hD.weaken (fun _ _ _ _ => trivial), ZX.call hZ hS hFc hW hU⟩⟩ rfl rfl hl.1 rfl (lv_room (Nat.le_of_ble_eq_true rfl)) dX4_row_9 ⟨Nat.le_of_ble_eq_true rfl, Nat.le_of_ble_eq_true rfl⟩) hS (fun q _ h => hFc q h) hFc (fun q _ h => hFc q h) (fun E9 ce q9 u9 t9 H1 locs ht hvm hp hB hz1 hk1 hS hcell hcv hcl => ?_) (fun u9 t9 H1 locs ht hvm hw hB hz1 hk1 hS => ?_)
    · obtain ⟨rfl, hP1, hK1, hD1⟩ := hB
      rw [ht] at hP1
      have hD := hD1.weaken (fun k q _ h => hFc q.1 h)
      exact vx_out (fun x h => (hEx x h).elim) hlocks hcell hcv hcl (fun t8 ht2 hal => ⟨_, (by simp [thr, hp.1, hp.2, ok2]), ⟨rfl, by rw [ht2]; exact hP1, va_K.moved hal hK, hD⟩, hS.F ht2⟩) hS.2.2 (by decide) (by decide)
    · obtain ⟨ok9, rfl⟩ := hw
      obtain ⟨hP, hK1, hD1⟩ := hB
      rw [ht] at hP
      have hD := hD1.weaken (fun k q _ h => hFc q.1 h)
      clear hFc hk1 hD1 hK1
      generalize H1 = H at hP hS ⊢
      have hP : va_P (dC, dI) clA (wA cI cZ a v g) H := hP
      have hD : va_D A (wA cI cZ a v g) := hD
      refine lv_iload hx hb dX4_row_12 (lv_at hl 5 rfl) ?_
      refine lv_bipush (v := 6) hx hb dX4_row_14 (by decide) ?_
      have hFc := va_free (wc := (wA cI cZ a v g)) hD hS hA [0, 1, 2, 3, 4, 5, 6, 7, 8, 9, 10, 11, 12, 13, 14, 15, 16, 17, 18, 19] rfl
      refine vx_callv (vx_runS (As := [.int st, .int 6]) (rest := []) ⟨hx, hb, hml, hown, hts⟩ (c_refU l hl9 dC dI cI cZ cJ a tx v g H.size st 6) (cwS 2 hts (gd_S ml_X4_X4_refuseUnknown sm_X4_refuseUnknown in_X4 kX4_refuseUnknown) rfl rfl rfl (by decide +kernel) ⟨Nat.le_of_ble_eq_true rfl, Nat.le_of_ble_eq_true rfl⟩) ⟨fun _ U g mk q => by obtain ⟨q0, q1, qP, qK, qD, qZ⟩ := q; exact ⟨q0, q1, qP, va_K.moved (u := U) (U := U.calling g mk _) (Vm.Alike.refl U.vm) qK, qD, ZX.calling qZ⟩, fun U hU hW => ⟨rfl, by rw [hU], by rw [hU]; exact hP, va_K.moved hW.alike hK, hD.weaken (fun _ _ _ _ => trivial), ZX.call hZ hS hFc hW hU⟩⟩ rfl rfl hl.1 rfl (lv_room (Nat.le_of_ble_eq_true rfl)) dX4_row_16 ⟨Nat.le_of_ble_eq_true rfl, Nat.le_of_ble_eq_true rfl⟩) hS (fun q _ h => hFc q h) hFc (fun q _ h => hFc q h) (fun E16 ce q9 u9 t9 H1 locs ht hvm hp hB hz1 hk1 hS hcell hcv hcl => ?_) (fun u9 t9 H1 locs ht hvm hw hB hz1 hk1 hS => ?_)
      · obtain ⟨rfl, hP1, hK1, hD1⟩ := hB
        rw [ht] at hP1
        have hD := hD1.weaken (fun k q _ h => hFc q.1 h)
        exact vx_out (fun x h => (hEx x h).elim) hlocks hcell hcv hcl (fun t8 ht2 hal => ⟨_, (by simp [thr, hp.1, hp.2, ok2, ok9]), ⟨rfl, by rw [ht2]; exact hP1, va_K.moved hal hK, hD⟩, hS.F ht2⟩) hS.2.2 (by decide) (by decide)
      · obtain ⟨ok16, rfl⟩ := hw
        obtain ⟨hP, hK1, hD1⟩ := hB
        rw [ht] at hP
        have hD := hD1.weaken (fun k q _ h => hFc q.1 h)
        clear hFc hk1 hD1 hK1
        generalize H1 = H at hP hS ⊢
        have hP : va_P (dC, dI) clA (wA cI cZ a v g) H := hP
        have hD : va_D A (wA cI cZ a v g) := hD
        refine lv_iload_n hx hb dX4_row_19 rfl (lv_at hl 1 rfl) ?_
        refine lv_iconst (v := 0) hx hb dX4_row_20 (by decide) ?_
        refine lv_sipush (v := 9999) hx hb dX4_row_21 (by decide) ?_
        have hFc := va_free (wc := (wA cI cZ a v g)) hD hS hA [0, 1, 2, 3, 4, 5, 6, 7, 8, 9, 10, 11, 12, 13, 14, 15, 16, 17, 18, 19] rfl
        refine vx_callv (vx_runS (As := [.int d, .int 0, .int 9999]) (rest := []) ⟨hx, hb, hml, hown, hts⟩ (c_refO l hl9 dC dI cI cZ cJ a tx v g H.size d 0 9999) (cwS 3 hts (gd_S ml_X4_X4_refuseOutside sm_X4_refuseOutside in_X4 kX4_refuseOutside) rfl rfl rfl (by decide +kernel) ⟨Nat.le_of_ble_eq_true rfl, Nat.le_of_ble_eq_true rfl⟩) ⟨fun _ U g mk q => by obtain ⟨q0, q1, qP, qK, qD, qZ⟩ := q; exact ⟨q0, q1, qP, va_K.moved (u := U) (U := U.calling g mk _) (Vm.Alike.refl U.vm) qK, qD, ZX.calling qZ⟩, fun U hU hW => ⟨rfl, by rw [hU], by rw [hU]; exact hP, va_K.moved hW.alike hK, hD.weaken (fun _ _ _ _ => trivial), ZX.call hZ hS hFc hW hU⟩⟩ rfl rfl hl.1 rfl (lv_room (Nat.le_of_ble_eq_true rfl)) dX4_row_24 ⟨Nat.le_of_ble_eq_true rfl, Nat.le_of_ble_eq_true rfl⟩) hS (fun q _ h => hFc q h) hFc (fun q _ h => hFc q h) (fun E24 ce q9 u9 t9 H1 locs ht hvm hp hB hz1 hk1 hS hcell hcv hcl => ?_) (fun u9 t9 H1 locs ht hvm hw hB hz1 hk1 hS => ?_)
        · obtain ⟨rfl, hP1, hK1, hD1⟩ := hB
          rw [ht] at hP1
          have hD := hD1.weaken (fun k q _ h => hFc q.1 h)
          exact vx_out (fun x h => (hEx x h).elim) hlocks hcell hcv hcl (fun t8 ht2 hal => ⟨_, (by simp [thr, hp.1, hp.2, ok2, ok9, ok16]), ⟨rfl, by rw [ht2]; exact hP1, va_K.moved hal hK, hD⟩, hS.F ht2⟩) hS.2.2 (by decide) (by decide)
        · obtain ⟨ok24, rfl⟩ := hw
          obtain ⟨hP, hK1, hD1⟩ := hB
          rw [ht] at hP
          have hD := hD1.weaken (fun k q _ h => hFc q.1 h)
          clear hFc hk1 hD1 hK1
          generalize H1 = H at hP hS ⊢
          have hP : va_P (dC, dI) clA (wA cI cZ a v g) H := hP
          have hD : va_D A (wA cI cZ a v g) := hD
          refine lv_iload_n hx hb dX4_row_27 rfl (lv_at hl 2 rfl) ?_
          refine lv_iconst (v := 0) hx hb dX4_row_28 (by decide) ?_
          refine lv_bipush (v := 23) hx hb dX4_row_29 (by decide) ?_
          have hFc := va_free (wc := (wA cI cZ a v g)) hD hS hA [0, 1, 2, 3, 4, 5, 6, 7, 8, 9, 10, 11, 12, 13, 14, 15, 16, 17, 18, 19] rfl
          refine vx_callv (vx_runS (As := [.int ho, .int 0, .int 23]) (rest := []) ⟨hx, hb, hml, hown, hts⟩ (c_refO l hl9 dC dI cI cZ cJ a tx v g H.size ho 0 23) (cwS 3 hts (gd_S ml_X4_X4_refuseOutside sm_X4_refuseOutside in_X4 kX4_refuseOutside) rfl rfl rfl (by decide +kernel) ⟨Nat.le_of_ble_eq_true rfl, Nat.le_of_ble_eq_true rfl⟩) ⟨fun _ U g mk q => by obtain ⟨q0, q1, qP, qK, qD, qZ⟩ := q; exact ⟨q0, q1, qP, va_K.moved (u := U) (U := U.calling g mk _) (Vm.Alike.refl U.vm) qK, qD, ZX.calling qZ⟩, fun U hU hW => ⟨rfl, by rw [hU], by rw [hU]; exact hP, va_K.moved hW.alike hK, hD.weaken (fun _ _ _ _ => trivial), ZX.call hZ hS hFc hW hU⟩⟩ rfl rfl hl.1 rfl (lv_room (Nat.le_of_ble_eq_true rfl)) dX4_row_31 ⟨Nat.le_of_ble_eq_true rfl, Nat.le_of_ble_eq_true rfl⟩) hS (fun q _ h => hFc q h) hFc (fun q _ h => hFc q h) (fun E31 ce q9 u9 t9 H1 locs ht hvm hp hB hz1 hk1 hS hcell hcv hcl => ?_) (fun u9 t9 H1 locs ht hvm hw hB hz1 hk1 hS => ?_)
          · obtain ⟨rfl, hP1, hK1, hD1⟩ := hB
            rw [ht] at hP1
            have hD := hD1.weaken (fun k q _ h => hFc q.1 h)
            exact vx_out (fun x h => (hEx x h).elim) hlocks hcell hcv hcl (fun t8 ht2 hal => ⟨_, (by simp [thr, hp.1, hp.2, ok2, ok9, ok16, ok24]), ⟨rfl, by rw [ht2]; exact hP1, va_K.moved hal hK, hD⟩, hS.F ht2⟩) hS.2.2 (by decide) (by decide)
          · obtain ⟨ok31, rfl⟩ := hw
            obtain ⟨hP, hK1, hD1⟩ := hB
            rw [ht] at hP
            have hD := hD1.weaken (fun k q _ h => hFc q.1 h)
            clear hFc hk1 hD1 hK1
            generalize H1 = H at hP hS ⊢
            have hP : va_P (dC, dI) clA (wA cI cZ a v g) H := hP
            have hD : va_D A (wA cI cZ a v g) := hD
            refine lv_iload hx hb dX4_row_34 (lv_at hl 6 rfl) ?_
            refine lv_iconst (v := 0) hx hb dX4_row_36 (by decide) ?_
            refine lv_iconst (v := 3) hx hb dX4_row_37 (by decide) ?_
            have hFc := va_free (wc := (wA cI cZ a v g)) hD hS hA [0, 1, 2, 3, 4, 5, 6, 7, 8, 9, 10, 11, 12, 13, 14, 15, 16, 17, 18, 19] rfl
            refine vx_callv (vx_runS (As := [.int mk, .int 0, .int 3]) (rest := []) ⟨hx, hb, hml, hown, hts⟩ (c_refO l hl9 dC dI cI cZ cJ a tx v g H.size mk 0 3) (cwS 3 hts (gd_S ml_X4_X4_refuseOutside sm_X4_refuseOutside in_X4 kX4_refuseOutside) rfl rfl rfl (by decide +kernel) ⟨Nat.le_of_ble_eq_true rfl, Nat.le_of_ble_eq_true rfl⟩) ⟨fun _ U g mk q => by obtain ⟨q0, q1, qP, qK, qD, qZ⟩ := q; exact ⟨q0, q1, qP, va_K.moved (u := U) (U := U.calling g mk _) (Vm.Alike.refl U.vm) qK, qD, ZX.calling qZ⟩, fun U hU hW => ⟨rfl, by rw [hU], by rw [hU]; exact hP, va_K.moved hW.alike hK, hD.weaken (fun _ _ _ _ => trivial), ZX.call hZ hS hFc hW hU⟩⟩ rfl rfl hl.1 rfl (lv_room (Nat.le_of_ble_eq_true rfl)) dX4_row_38 ⟨Nat.le_of_ble_eq_true rfl, Nat.le_of_ble_eq_true rfl⟩) hS (fun q _ h => hFc q h) hFc (fun q _ h => hFc q h) (fun E38 ce q9 u9 t9 H1 locs ht hvm hp hB hz1 hk1 hS hcell hcv hcl => ?_) (fun u9 t9 H1 locs ht hvm hw hB hz1 hk1 hS => ?_)
            · obtain ⟨rfl, hP1, hK1, hD1⟩ := hB
              rw [ht] at hP1
              have hD := hD1.weaken (fun k q _ h => hFc q.1 h)
              exact vx_out (fun x h => (hEx x h).elim) hlocks hcell hcv hcl (fun t8 ht2 hal => ⟨_, (by simp [thr, hp.1, hp.2, ok2, ok9, ok16, ok24, ok31]), ⟨rfl, by rw [ht2]; exact hP1, va_K.moved hal hK, hD⟩, hS.F ht2⟩) hS.2.2 (by decide) (by decide)
            · obtain ⟨ok38, rfl⟩ := hw
              obtain ⟨hP, hK1, hD1⟩ := hB
              rw [ht] at hP
              have hD := hD1.weaken (fun k q _ h => hFc q.1 h)
              clear hFc hk1 hD1 hK1
              generalize H1 = H at hP hS ⊢
              have hP : va_P (dC, dI) clA (wA cI cZ a v g) H := hP
              have hD : va_D A (wA cI cZ a v g) := hD
              refine lv_aload_n hx hb dX4_row_41 rfl (lv_at hl 0 rfl) ?_
              refine va_get (D := (dC, dI)) (ci := 4) (v := .ref (a 5)) (C := RX4) (T := TX4) (N := 9) hx hb hts (fun w h => List.mem_cons_of_mem _ (iw_X4 w h)) hown hK hP 0 rfl rfl 1 (by decide) (hts _ (List.mem_cons_of_mem _ fl_X4_incidents)) (fun _ h9 => h9) rfl dX4_row_42 ?_
              refine vp_callSi (W.runV (As := []) (rest := []) ⟨hx, hb, hml, hown, hts⟩ (c_ifull l dC dI cI cZ cJ a v g ) (cwV 0 hts (gd_V ml_X4_X1_isFull im_X1_isFull se_X1_isFull in_X1 kX1_isFull) rfl rfl rfl (by decide +kernel) ⟨Nat.le_of_ble_eq_true rfl, Nat.le_of_ble_eq_true rfl⟩) ⟨fun _ U g mk q => by obtain ⟨q0, qP, qK⟩ := q; exact ⟨q0, qP, va_K.moved (u := U) (U := U.calling g mk _) (Vm.Alike.refl U.vm) qK⟩, va_recv hK hP (ci := 1) (q0 := 5) rfl rfl, fun U hU hW => ⟨rfl, by rw [hU]; exact hP, va_K.moved hW.alike hK⟩⟩ rfl rfl hl.1 rfl (lv_room (Nat.le_of_ble_eq_true rfl)) dX4_row_45 ⟨Nat.le_of_ble_eq_true rfl, Nat.le_of_ble_eq_true rfl⟩) (fun r45 hr45 => ?_)
              subst hr45
              refine lv_if_eq (tgt := 61) hx hb dX4_row_48 (by decide) (fun c48 => ?_) (fun c48 => ?_)
              · have c48 := bI_0.mp c48
                have hn3 : n < 200 := Nat.lt_of_not_le (fun h => of_decide_eq_false c48 (by rw [hn]; exact nI_le (a := 200) h (by omega)))
                refine lv_aload_n hx hb dX4_row_61 rfl (lv_at hl 0 rfl) ?_
                refine va_get (D := (dC, dI)) (ci := 4) (v := .ref (a 5)) (C := RX4) (T := TX4) (N := 9) hx hb hts (fun w h => List.mem_cons_of_mem _ (iw_X4 w h)) hown hK hP 0 rfl rfl 1 (by decide) (hts _ (List.mem_cons_of_mem _ fl_X4_incidents)) (fun _ h9 => h9) rfl dX4_row_62 ?_
                refine lv_iload_n hx hb dX4_row_65 rfl (lv_at hl 1 rfl) ?_
                refine lv_iload_n hx hb dX4_row_66 rfl (lv_at hl 2 rfl) ?_
                refine lv_iload_n hx hb dX4_row_67 rfl (lv_at hl 3 rfl) ?_
                refine lv_iload hx hb dX4_row_68 (lv_at hl 4 rfl) ?_
                refine lv_iload hx hb dX4_row_70 (lv_at hl 5 rfl) ?_
                refine lv_iload hx hb dX4_row_72 (lv_at hl 6 rfl) ?_
                have hFc := va_free (wc := (wA cI cZ a v g)) hD hS hA [0, 1, 2, 3, 4, 5, 6, 7, 8, 9, 10, 11, 12, 13, 14, 15, 16, 17, 18, 19] rfl
                refine va_calli (va_runV (As := [.int d, .int ho, .int kd, .int ar, .int st, .int mk]) (rest := []) ⟨hx, hb, hml, hown, hts⟩ (c_iadd l dC dI cI cZ cJ a v g H.size n hn (by omega) d ho kd ar st mk) (cwV 6 hts (gd_V ml_X4_X1_add im_X1_add se_X1_add in_X1 kX1_add) rfl rfl rfl (by decide +kernel) ⟨Nat.le_of_ble_eq_true rfl, Nat.le_of_ble_eq_true rfl⟩) ⟨fun _ U g mk q => by obtain ⟨q0, q1, qP, qK, qD⟩ := q; exact ⟨q0, q1, qP, va_K.moved (u := U) (U := U.calling g mk _) (Vm.Alike.refl U.vm) qK, qD⟩, va_recv hK hP (ci := 1) (q0 := 5) rfl rfl, fun U hU hW => ⟨rfl, by rw [hU], by rw [hU]; exact hP, va_K.moved hW.alike hK, hD.weaken (fun _ _ _ _ => trivial)⟩⟩ rfl rfl hl.1 rfl (lv_room (Nat.le_of_ble_eq_true rfl)) dX4_row_74 ⟨Nat.le_of_ble_eq_true rfl, Nat.le_of_ble_eq_true rfl⟩) hS (fun q _ h => hFc q h) hFc (fun r74 u9 t9 H1 locs ht hvm hw hB hz1 hk1 hS => ?_)
                obtain ⟨rfl, rfl⟩ := hw
                obtain ⟨hP, hK1, hD1⟩ := hB
                rw [ht] at hP
                have hD := hD1.weaken (fun k q _ h => hFc q.1 h)
                clear hFc hk1 hD1 hK1
                generalize H1 = H at hP hS ⊢
                have hP : va_P (dC, dI) clA (wA cI cZ a (upd v 5 (v 5 + 1)) (upg (upg (upg (upg (upg (upg (upg (upg g 3 n d) 4 n ho) 5 n kd) 6 n ar) 7 n st) 8 n mk) 9 n (-1)) 10 n (-1))) H := hP
                have hD : va_D A (wA cI cZ a (upd v 5 (v 5 + 1)) (upg (upg (upg (upg (upg (upg (upg (upg g 3 n d) 4 n ho) 5 n kd) 6 n ar) 7 n st) 8 n mk) 9 n (-1)) 10 n (-1))) := hD
                refine W.widen (k := 7) (n := 42) (by decide) (by decide) ?_
                exact vx_ret (W.iret (v := v 5) hx hb hr (fun t9 ht hW => ⟨⟨_, ((upd v 5 (v 5 + 1)), (upg (upg (upg (upg (upg (upg (upg (upg g 3 n d) 4 n ho) 5 n kd) 6 n ar) 7 n st) 8 n mk) 9 n (-1)) 10 n (-1))), rfl, ⟨rfl, ⟨ok2, ok9, ok16, ok24, ok31, ok38, hn3⟩, rfl⟩, ⟨by rw [ht]; exact hP, va_K.moved hW.alike hK, hD⟩⟩, hS.F ht⟩) hS.2.2 dX4_row_77)
              · have c48 := bI_n0.mp c48
                have hn3 : n = 200 := Nat.le_antisymm hn2 ((nI_leI (a := 200) (b := n) (by decide) (by omega)).mp (by have h := of_decide_eq_true c48; rw [hn] at h; exact h))
                exact vx_throwS hx hb hl9 (own := RX4) (cls := "java/lang/UnsupportedOperationException") (text := "no room for one more row") (names := ["java/lang/RuntimeException", "java/lang/Exception"]) (ik := 66) (is := 68) (ic := 70) (A := A) hown (by decide +kernel) (by decide +kernel) (hts _ (List.mem_cons_of_mem _ cl_X4_UnsupportedOperationException)) (hts _ (List.mem_cons_of_mem _ in_UnsupportedOperationException)) (ZX.s68 hZ) (fun w h => hat_UnsupportedOperationException_70 hts hZ w h) gw_UnsupportedOperationException_66_70 hZ.1 hZ.2.1 hS (by rw [hml]; exact hl.1) dX4_row_51 dX4_row_54 dX4_row_55 dX4_row_57 dX4_row_60 (fun x h => (hEx x h).elim) (by decide) (by decide) (by decide) (by decide) hlocks (fun t9 hal h1 h2 => ⟨"java/lang/UnsupportedOperationException", (by simp [thr, hn3, ok2, ok9, ok16, ok24, ok31, ok38]), ⟨rfl, hP.kept (fun k q hk => h2 q.1 ((hP k q hk).lt)), va_K.moved hal hK, hD⟩, ⟨Nat.le_trans hS.1 h1, fun q h3 h4 => (h2 q (Nat.lt_of_lt_of_le h3 hS.1)).trans (hS.2.1 q h3 h4)⟩⟩) hS.2.2 (by decide) (by decide)
set_option maxHeartbeats 4000000 in
set_option maxRecDepth 100000 in
theorem c_values (l : Launch) (hl9 : l.stackTraces = false) (dC : Nat → ClassId) (dI : Nat → Nat → Nat) (cI cZ cJ : ClassId) (a : Nat → Nat) (tx : Nat → Nat) (v : Nat → Int32) (g : Nat → Nat → Int32) (sz : Nat) (n : Nat) (hn : v 5 = nI n) (hn2 : n ≤ 200) (rw x y : Int32) : vx_Met l yX4_values wsX4_values ({ frames := 9, cells := 3, slots := 18, locals := 142 }) (va_Pc [.ref (a 0), .int rw, .int x, .int y] (fun U => U.heap.size = sz ∧ va_P (dC, dI) clA (wA cI cZ a v g) U.heap ∧ va_K (dC, dI) clA (tyA cI cZ cJ) U ∧ va_D (fun _ => True) (wA cI cZ a v g) ∧ ZX tx (va_A (wA cI cZ a v g) sz) U U.heap)) (va_Qv (fun (u : StA) => (inU rw (v 5) ∧ inR x (-1) 9999 ∧ inR y (-1) 9999) ∧ u = (v, upg (upg g 9 rw.toNatClampNeg x) 10 rw.toNatClampNeg y)) (atA dC dI cI cZ cJ a (va_A (wA cI cZ a v g) sz)) (va_A (wA cI cZ a v g) sz)) (vx_X (fun E : String => thr E "java/lang/IllegalArgumentException" (¬ inU rw (v 5)) "java/lang/IndexOutOfBoundsException" (¬ inR x (-1) 9999 ∨ ¬ inR y (-1) 9999) "" (False)) (fun E1 E t => E1 = E ∧ atA dC dI cI cZ cJ a (va_A (wA cI cZ a v g) sz) (v, g) t) (va_A (wA cI cZ a v g) sz)) 3 18 (va_A (wA cI cZ a v g) sz) := by
  refine vx_ofW (cc := cX4_values) (maxL := 4) (ret := none) (by decide) rfl ?_
  intro p e s m args below meth c s₁ B hml hEx hv
  obtain ⟨rfl, hsz, hP, hK, hD0, hZ⟩ := hv
  have hx := B.exec
  have hb := B.bytes
  have hr := B.returns
  have hts := atoms_spec (ws := wsX4_values) B.pre
  have hown : s.vm.findClass RX4 = some m.cls := findClass_of_methodNamed B.named
  have hlocks := B.notSynchronized
  subst hsz
  have hD := hD0.self (sz := s.heap.size)
  generalize hAe : va_A (wA cI cZ a v g) s.heap.size = A at hD hZ ⊢
  have hA : ∀ q : Nat, s.heap.size ≤ q → A q := fun q h => by rw [← hAe]; exact Or.inr h
  have hS : va_S A s.heap s.heap [] := va_S.rf
  have hP : va_P (dC, dI) clA (wA cI cZ a v g) s.heap := hP
  have hl := lv_entry ([.ref (a 0), .int rw, .int x, .int y]) (n := 4) (Nat.le_of_ble_eq_true rfl)
  rw [lg_entry_eq]
  generalize (lg_sl ([.ref (a 0), .int rw, .int x, .int y]) ++ List.replicate (4 - (lg_sl ([.ref (a 0), .int rw, .int x, .int y])).length) Slot.unset).toArray = ls at hl ⊢
  have hl : lv_has ls 4 [(0, .ref (a 0)), (1, .int rw), (2, .int x), (3, .int y)] := hl
  refine lv_iload_n hx hb dX4_values_0 rfl (lv_at hl 1 rfl) ?_
  refine lv_aload_n hx hb dX4_values_1 rfl (lv_at hl 0 rfl) ?_
  refine va_get (D := (dC, dI)) (ci := 4) (v := .ref (a 5)) (C := RX4) (T := TX4) (N := 9) hx hb hts (fun w h => List.mem_cons_of_mem _ (iw_X4 w h)) hown hK hP 0 rfl rfl 1 (by decide) (hts _ (List.mem_cons_of_mem _ fl_X4_incidents)) (fun _ h9 => h9) rfl dX4_values_2 ?_
  refine vp_callSi (W.runV (As := []) (rest := [.int rw]) ⟨hx, hb, hml, hown, hts⟩ (c_isize l dC dI cI cZ cJ a v g ) (cwV 0 hts (gd_V ml_X4_X1_size im_X1_size se_X1_size in_X1 kX1_size) rfl rfl rfl (by decide +kernel) ⟨Nat.le_of_ble_eq_true rfl, Nat.le_of_ble_eq_true rfl⟩) ⟨fun _ U g mk q => by obtain ⟨q0, qP, qK⟩ := q; exact ⟨q0, qP, va_K.moved (u := U) (U := U.calling g mk _) (Vm.Alike.refl U.vm) qK⟩, va_recv hK hP (ci := 1) (q0 := 5) rfl rfl, fun U hU hW => ⟨rfl, by rw [hU]; exact hP, va_K.moved hW.alike hK⟩⟩ rfl rfl hl.1 rfl (lv_room (Nat.le_of_ble_eq_true rfl)) dX4_values_5 ⟨Nat.le_of_ble_eq_true rfl, Nat.le_of_ble_eq_true rfl⟩) (fun r5 hr5 => ?_)
  subst hr5
  have hFc := va_free (wc := (wA cI cZ a v g)) hD hS hA [0, 1, 2, 3, 4, 5, 6, 7, 8, 9, 10, 11, 12, 13, 14, 15, 16, 17, 18, 19] rfl
  refine vx_callv (vx_runS (As := [.int rw, .int (v 5)]) (rest := []) ⟨hx, hb, hml, hown, hts⟩ (c_refU l hl9 dC dI cI cZ cJ a tx v g s.heap.size rw (v 5)) (cwS 2 hts (gd_S ml_X4_X4_refuseUnknown sm_X4_refuseUnknown in_X4 kX4_refuseUnknown) rfl rfl rfl (by decide +kernel) ⟨Nat.le_of_ble_eq_true rfl, Nat.le_of_ble_eq_true rfl⟩) ⟨fun _ U g mk q => by obtain ⟨q0, q1, qP, qK, qD, qZ⟩ := q; exact ⟨q0, q1, qP, va_K.moved (u := U) (U := U.calling g mk _) (Vm.Alike.refl U.vm) qK, qD, ZX.calling qZ⟩, fun U hU hW => ⟨rfl, by rw [hU], by rw [hU]; exact hP, va_K.moved hW.alike hK, hD.weaken (fun _ _ _ _ => trivial), ZX.call hZ hS hFc hW hU⟩⟩ rfl rfl hl.1 rfl (lv_room (Nat.le_of_ble_eq_true rfl)) dX4_values_8 ⟨Nat.le_of_ble_eq_true rfl, Nat.le_of_ble_eq_true rfl⟩) hS (fun q _ h => hFc q h) hFc (fun q _ h => hFc q h) (fun E8 ce q9 u9 t9 H1 locs ht hvm hp hB hz1 hk1 hS hcell hcv hcl => ?_) (fun u9 t9 H1 locs ht hvm hw hB hz1 hk1 hS => ?_)
  · obtain ⟨rfl, hP1, hK1, hD1⟩ := hB
    rw [ht] at hP1
    have hD := hD1.weaken (fun k q _ h => hFc q.1 h)
    exact vx_out (fun x h => (hEx x h).elim) hlocks hcell hcv hcl (fun t8 ht2 hal => ⟨_, (by simp [thr, hp.1, hp.2, ]), ⟨rfl, by rw [ht2]; exact hP1, va_K.moved hal hK, hD⟩, hS.F ht2⟩) hS.2.2 (by decide) (by decide)
  · obtain ⟨ok8, rfl⟩ := hw
    obtain ⟨hP, hK1, hD1⟩ := hB
    rw [ht] at hP
    have hD := hD1.weaken (fun k q _ h => hFc q.1 h)
    clear hFc hk1 hD1 hK1
    generalize H1 = H at hP hS ⊢
    have hP : va_P (dC, dI) clA (wA cI cZ a v g) H := hP
    have hD : va_D A (wA cI cZ a v g) := hD
    refine lv_iload_n hx hb dX4_values_11 rfl (lv_at hl 2 rfl) ?_
    refine lv_iconst (v := (-1)) hx hb dX4_values_12 (by decide) ?_
    refine lv_sipush (v := 9999) hx hb dX4_values_13 (by decide) ?_
    have hFc := va_free (wc := (wA cI cZ a v g)) hD hS hA [0, 1, 2, 3, 4, 5, 6, 7, 8, 9, 10, 11, 12, 13, 14, 15, 16, 17, 18, 19] rfl
    refine vx_callv (vx_runS (As := [.int x, .int (-1), .int 9999]) (rest := []) ⟨hx, hb, hml, hown, hts⟩ (c_refO l hl9 dC dI cI cZ cJ a tx v g H.size x (-1) 9999) (cwS 3 hts (gd_S ml_X4_X4_refuseOutside sm_X4_refuseOutside in_X4 kX4_refuseOutside) rfl rfl rfl (by decide +kernel) ⟨Nat.le_of_ble_eq_true rfl, Nat.le_of_ble_eq_true rfl⟩) ⟨fun _ U g mk q => by obtain ⟨q0, q1, qP, qK, qD, qZ⟩ := q; exact ⟨q0, q1, qP, va_K.moved (u := U) (U := U.calling g mk _) (Vm.Alike.refl U.vm) qK, qD, ZX.calling qZ⟩, fun U hU hW => ⟨rfl, by rw [hU], by rw [hU]; exact hP, va_K.moved hW.alike hK, hD.weaken (fun _ _ _ _ => trivial), ZX.call hZ hS hFc hW hU⟩⟩ rfl rfl hl.1 rfl (lv_room (Nat.le_of_ble_eq_true rfl)) dX4_values_16 ⟨Nat.le_of_ble_eq_true rfl, Nat.le_of_ble_eq_true rfl⟩) hS (fun q _ h => hFc q h) hFc (fun q _ h => hFc q h) (fun E16 ce q9 u9 t9 H1 locs ht hvm hp hB hz1 hk1 hS hcell hcv hcl => ?_) (fun u9 t9 H1 locs ht hvm hw hB hz1 hk1 hS => ?_)
    · obtain ⟨rfl, hP1, hK1, hD1⟩ := hB
      rw [ht] at hP1
      have hD := hD1.weaken (fun k q _ h => hFc q.1 h)
      exact vx_out (fun x h => (hEx x h).elim) hlocks hcell hcv hcl (fun t8 ht2 hal => ⟨_, (by simp [thr, hp.1, hp.2, ok8]), ⟨rfl, by rw [ht2]; exact hP1, va_K.moved hal hK, hD⟩, hS.F ht2⟩) hS.2.2 (by decide) (by decide)
    · obtain ⟨ok16, rfl⟩ := hw
      obtain ⟨hP, hK1, hD1⟩ := hB
      rw [ht] at hP
      have hD := hD1.weaken (fun k q _ h => hFc q.1 h)
      clear hFc hk1 hD1 hK1
      generalize H1 = H at hP hS ⊢
      have hP : va_P (dC, dI) clA (wA cI cZ a v g) H := hP
      have hD : va_D A (wA cI cZ a v g) := hD
      refine lv_iload_n hx hb dX4_values_19 rfl (lv_at hl 3 rfl) ?_
      refine lv_iconst (v := (-1)) hx hb dX4_values_20 (by decide) ?_
      refine lv_sipush (v := 9999) hx hb dX4_values_21 (by decide) ?_
      have hFc := va_free (wc := (wA cI cZ a v g)) hD hS hA [0, 1, 2, 3, 4, 5, 6, 7, 8, 9, 10, 11, 12, 13, 14, 15, 16, 17, 18, 19] rfl
      refine vx_callv (vx_runS (As := [.int y, .int (-1), .int 9999]) (rest := []) ⟨hx, hb, hml, hown, hts⟩ (c_refO l hl9 dC dI cI cZ cJ a tx v g H.size y (-1) 9999) (cwS 3 hts (gd_S ml_X4_X4_refuseOutside sm_X4_refuseOutside in_X4 kX4_refuseOutside) rfl rfl rfl (by decide +kernel) ⟨Nat.le_of_ble_eq_true rfl, Nat.le_of_ble_eq_true rfl⟩) ⟨fun _ U g mk q => by obtain ⟨q0, q1, qP, qK, qD, qZ⟩ := q; exact ⟨q0, q1, qP, va_K.moved (u := U) (U := U.calling g mk _) (Vm.Alike.refl U.vm) qK, qD, ZX.calling qZ⟩, fun U hU hW => ⟨rfl, by rw [hU], by rw [hU]; exact hP, va_K.moved hW.alike hK, hD.weaken (fun _ _ _ _ => trivial), ZX.call hZ hS hFc hW hU⟩⟩ rfl rfl hl.1 rfl (lv_room (Nat.le_of_ble_eq_true rfl)) dX4_values_24 ⟨Nat.le_of_ble_eq_true rfl, Nat.le_of_ble_eq_true rfl⟩) hS (fun q _ h => hFc q h) hFc (fun q _ h => hFc q h) (fun E24 ce q9 u9 t9 H1 locs ht hvm hp hB hz1 hk1 hS hcell hcv hcl => ?_) (fun u9 t9 H1 locs ht hvm hw hB hz1 hk1 hS => ?_)
      · obtain ⟨rfl, hP1, hK1, hD1⟩ := hB
        rw [ht] at hP1
        have hD := hD1.weaken (fun k q _ h => hFc q.1 h)
        exact vx_out (fun x h => (hEx x h).elim) hlocks hcell hcv hcl (fun t8 ht2 hal => ⟨_, (by simp [thr, hp.1, hp.2, ok8, ok16]), ⟨rfl, by rw [ht2]; exact hP1, va_K.moved hal hK, hD⟩, hS.F ht2⟩) hS.2.2 (by decide) (by decide)
      · obtain ⟨ok24, rfl⟩ := hw
        obtain ⟨hP, hK1, hD1⟩ := hB
        rw [ht] at hP
        have hD := hD1.weaken (fun k q _ h => hFc q.1 h)
        clear hFc hk1 hD1 hK1
        generalize H1 = H at hP hS ⊢
        have hP : va_P (dC, dI) clA (wA cI cZ a v g) H := hP
        have hD : va_D A (wA cI cZ a v g) := hD
        have okw := ok8
        rw [hn] at ok8
        obtain ⟨kw, hkw, rfl⟩ := inU_nat (n := n) (by omega) ok8
        refine lv_aload_n hx hb dX4_values_27 rfl (lv_at hl 0 rfl) ?_
        refine va_get (D := (dC, dI)) (ci := 4) (v := .ref (a 5)) (C := RX4) (T := TX4) (N := 9) hx hb hts (fun w h => List.mem_cons_of_mem _ (iw_X4 w h)) hown hK hP 0 rfl rfl 1 (by decide) (hts _ (List.mem_cons_of_mem _ fl_X4_incidents)) (fun _ h9 => h9) rfl dX4_values_28 ?_
        refine lv_iload_n hx hb dX4_values_31 rfl (lv_at hl 1 rfl) ?_
        refine lv_iload_n hx hb dX4_values_32 rfl (lv_at hl 2 rfl) ?_
        refine lv_iload_n hx hb dX4_values_33 rfl (lv_at hl 3 rfl) ?_
        have hFc := va_free (wc := (wA cI cZ a v g)) hD hS hA [0, 1, 2, 3, 4, 5, 6, 7, 8, 9, 10, 11, 12, 13, 14, 15, 16, 17, 18, 19] rfl
        refine va_callv (va_runV (As := [.int (nI kw), .int x, .int y]) (rest := []) ⟨hx, hb, hml, hown, hts⟩ (c_setSec l dC dI cI cZ cJ a v g H.size n hn hn2 kw (by omega) x y) (cwV 3 hts (gd_V ml_X4_X1_setSeconds im_X1_setSeconds se_X1_setSeconds in_X1 kX1_setSeconds) rfl rfl rfl (by decide +kernel) ⟨Nat.le_of_ble_eq_true rfl, Nat.le_of_ble_eq_true rfl⟩) ⟨fun _ U g mk q => by obtain ⟨q0, q1, qP, qK, qD⟩ := q; exact ⟨q0, q1, qP, va_K.moved (u := U) (U := U.calling g mk _) (Vm.Alike.refl U.vm) qK, qD⟩, va_recv hK hP (ci := 1) (q0 := 5) rfl rfl, fun U hU hW => ⟨rfl, by rw [hU], by rw [hU]; exact hP, va_K.moved hW.alike hK, hD.weaken (fun _ _ _ _ => trivial)⟩⟩ rfl rfl hl.1 rfl (lv_room (Nat.le_of_ble_eq_true rfl)) dX4_values_34 ⟨Nat.le_of_ble_eq_true rfl, Nat.le_of_ble_eq_true rfl⟩) hS (fun q _ h => hFc q h) hFc (fun u9 t9 H1 locs ht hvm hw hB hz1 hk1 hS => ?_)
        subst hw
        obtain ⟨hP, hK1, hD1⟩ := hB
        rw [ht] at hP
        have hD := hD1.weaken (fun k q _ h => hFc q.1 h)
        clear hFc hk1 hD1 hK1
        generalize H1 = H at hP hS ⊢
        have hP : va_P (dC, dI) clA (wA cI cZ a v (upg (upg g 9 kw x) 10 kw y)) H := hP
        have hD : va_D A (wA cI cZ a v (upg (upg g 9 kw x) 10 kw y)) := hD
        exact vx_ret (W.vret hx hb hr (fun t9 ht hW => ⟨⟨(v, (upg (upg g 9 kw x) 10 kw y)), rfl, ⟨⟨okw, ok16, ok24⟩, by rw [nI_clamp (by omega)]⟩, ⟨by rw [ht]; exact hP, va_K.moved hW.alike hK, hD⟩⟩, hS.F ht⟩) hS.2.2 dX4_values_37)
set_option maxHeartbeats 4000000 in
set_option maxRecDepth 100000 in
theorem c_define (l : Launch) (hl9 : l.stackTraces = false) (dC : Nat → ClassId) (dI : Nat → Nat → Nat) (cI cZ cJ : ClassId) (a : Nat → Nat) (tx : Nat → Nat) (v : Nat → Int32) (g : Nat → Nat → Int32) (sz : Nat) (nd : Nat) (hnd : v 4 = nI nd) (hnd2 : nd ≤ 6) (d mk : Int32) : vx_Met l yX4_define wsX4_define ({ frames := 9, cells := 3, slots := 18, locals := 142 }) (va_Pc [.ref (a 0), .int d, .int mk] (fun U => U.heap.size = sz ∧ va_P (dC, dI) clA (wA cI cZ a v g) U.heap ∧ va_K (dC, dI) clA (tyA cI cZ cJ) U ∧ va_D (fun _ => True) (wA cI cZ a v g) ∧ ZX tx (va_A (wA cI cZ a v g) sz) U U.heap)) (va_Qi (fun (r : Int32) (u : StA) => r = v 4 + 1 ∧ (inR d 0 9999 ∧ inR mk 0 20000 ∧ nd < 6) ∧ u = (upd v 4 (v 4 + 1), upg (upg g 1 nd d) 2 nd mk)) (atA dC dI cI cZ cJ a (va_A (wA cI cZ a v g) sz)) (va_A (wA cI cZ a v g) sz)) (vx_X (fun E : String => thr E "java/lang/IndexOutOfBoundsException" (¬ inR d 0 9999 ∨ ¬ inR mk 0 20000) "java/lang/UnsupportedOperationException" (nd = 6) "" (False)) (fun E1 E t => E1 = E ∧ atA dC dI cI cZ cJ a (va_A (wA cI cZ a v g) sz) (v, g) t) (va_A (wA cI cZ a v g) sz)) 3 18 (va_A (wA cI cZ a v g) sz) := by
  refine vx_ofW (cc := cX4_define) (maxL := 3) (ret := (some .int)) (by decide) rfl ?_
  intro p e s m args below meth c s₁ B hml hEx hv
  obtain ⟨rfl, hsz, hP, hK, hD0, hZ⟩ := hv
  have hx := B.exec
  have hb := B.bytes
  have hr := B.returns
  have hts := atoms_spec (ws := wsX4_define) B.pre
  have hown : s.vm.findClass RX4 = some m.cls := findClass_of_methodNamed B.named
  have hlocks := B.notSynchronized
  subst hsz
  have hD := hD0.self (sz := s.heap.size)
  generalize hAe : va_A (wA cI cZ a v g) s.heap.size = A at hD hZ ⊢
  have hA : ∀ q : Nat, s.heap.size ≤ q → A q := fun q h => by rw [← hAe]; exact Or.inr h
  have hS : va_S A s.heap s.heap [] := va_S.rf
  have hP : va_P (dC, dI) clA (wA cI cZ a v g) s.heap := hP
  have hl := lv_entry ([.ref (a 0), .int d, .int mk]) (n := 3) (Nat.le_of_ble_eq_true rfl)
  rw [lg_entry_eq]
  generalize (lg_sl ([.ref (a 0), .int d, .int mk]) ++ List.replicate (3 - (lg_sl ([.ref (a 0), .int d, .int mk])).length) Slot.unset).toArray = ls at hl ⊢
  have hl : lv_has ls 3 [(0, .ref (a 0)), (1, .int d), (2, .int mk)] := hl
  refine lv_iload_n hx hb dX4_define_0 rfl (lv_at hl 1 rfl) ?_
  refine lv_iconst (v := 0) hx hb dX4_define_1 (by decide) ?_
  refine lv_sipush (v := 9999) hx hb dX4_define_2 (by decide) ?_
  have hFc := va_free (wc := (wA cI cZ a v g)) hD hS hA [0, 1, 2, 3, 4, 5, 6, 7, 8, 9, 10, 11, 12, 13, 14, 15, 16, 17, 18, 19] rfl
  refine vx_callv (vx_runS (As := [.int d, .int 0, .int 9999]) (rest := []) ⟨hx, hb, hml, hown, hts⟩ (c_refO l hl9 dC dI cI cZ cJ a tx v g s.heap.size d 0 9999) (cwS 3 hts (gd_S ml_X4_X4_refuseOutside sm_X4_refuseOutside in_X4 kX4_refuseOutside) rfl rfl rfl (by decide +kernel) ⟨Nat.le_of_ble_eq_true rfl, Nat.le_of_ble_eq_true rfl⟩) ⟨fun _ U g mk q => by obtain ⟨q0, q1, qP, qK, qD, qZ⟩ := q; exact ⟨q0, q1, qP, va_K.moved (u := U) (U := U.calling g mk _) (Vm.Alike.refl U.vm) qK, qD, ZX.calling qZ⟩, fun U hU hW => ⟨rfl, by rw [hU], by rw [hU]; exact hP, va_K.moved hW.alike hK, hD.weaken (fun _ _ _ _ => trivial), ZX.call hZ hS hFc hW hU⟩⟩ rfl rfl hl.1 rfl (lv_room (Nat.le_of_ble_eq_true rfl)) dX4_define_5 ⟨Nat.le_of_ble_eq_true rfl, Nat.le_of_ble_eq_true rfl⟩) hS (fun q _ h => hFc q h) hFc (fun q _ h => hFc q h) (fun E5 ce q9 u9 t9 H1 locs ht hvm hp hB hz1 hk1 hS hcell hcv hcl => ?_) (fun u9 t9 H1 locs ht hvm hw hB hz1 hk1 hS => ?_)
  · obtain ⟨rfl, hP1, hK1, hD1⟩ := hB
    rw [ht] at hP1
    have hD := hD1.weaken (fun k q _ h => hFc q.1 h)
    exact vx_out (fun x h => (hEx x h).elim) hlocks hcell hcv hcl (fun t8 ht2 hal => ⟨_, (by simp [thr, hp.1, hp.2, ]), ⟨rfl, by rw [ht2]; exact hP1, va_K.moved hal hK, hD⟩, hS.F ht2⟩) hS.2.2 (by decide) (by decide)
  · obtain ⟨ok5, rfl⟩ := hw
    obtain ⟨hP, hK1, hD1⟩ := hB
    rw [ht] at hP
    have hD := hD1.weaken (fun k q _ h => hFc q.1 h)
    clear hFc hk1 hD1 hK1
    generalize H1 = H at hP hS ⊢
    have hP : va_P (dC, dI) clA (wA cI cZ a v g) H := hP
    have hD : va_D A (wA cI cZ a v g) := hD
    refine lv_iload_n hx hb dX4_define_8 rfl (lv_at hl 2 rfl) ?_
    refine lv_iconst (v := 0) hx hb dX4_define_9 (by decide) ?_
    refine lv_sipush (v := 20000) hx hb dX4_define_10 (by decide) ?_
    have hFc := va_free (wc := (wA cI cZ a v g)) hD hS hA [0, 1, 2, 3, 4, 5, 6, 7, 8, 9, 10, 11, 12, 13, 14, 15, 16, 17, 18, 19] rfl
    refine vx_callv (vx_runS (As := [.int mk, .int 0, .int 20000]) (rest := []) ⟨hx, hb, hml, hown, hts⟩ (c_refO l hl9 dC dI cI cZ cJ a tx v g H.size mk 0 20000) (cwS 3 hts (gd_S ml_X4_X4_refuseOutside sm_X4_refuseOutside in_X4 kX4_refuseOutside) rfl rfl rfl (by decide +kernel) ⟨Nat.le_of_ble_eq_true rfl, Nat.le_of_ble_eq_true rfl⟩) ⟨fun _ U g mk q => by obtain ⟨q0, q1, qP, qK, qD, qZ⟩ := q; exact ⟨q0, q1, qP, va_K.moved (u := U) (U := U.calling g mk _) (Vm.Alike.refl U.vm) qK, qD, ZX.calling qZ⟩, fun U hU hW => ⟨rfl, by rw [hU], by rw [hU]; exact hP, va_K.moved hW.alike hK, hD.weaken (fun _ _ _ _ => trivial), ZX.call hZ hS hFc hW hU⟩⟩ rfl rfl hl.1 rfl (lv_room (Nat.le_of_ble_eq_true rfl)) dX4_define_13 ⟨Nat.le_of_ble_eq_true rfl, Nat.le_of_ble_eq_true rfl⟩) hS (fun q _ h => hFc q h) hFc (fun q _ h => hFc q h) (fun E13 ce q9 u9 t9 H1 locs ht hvm hp hB hz1 hk1 hS hcell hcv hcl => ?_) (fun u9 t9 H1 locs ht hvm hw hB hz1 hk1 hS => ?_)
    · obtain ⟨rfl, hP1, hK1, hD1⟩ := hB
      rw [ht] at hP1
      have hD := hD1.weaken (fun k q _ h => hFc q.1 h)
      exact vx_out (fun x h => (hEx x h).elim) hlocks hcell hcv hcl (fun t8 ht2 hal => ⟨_, (by simp [thr, hp.1, hp.2, ok5]), ⟨rfl, by rw [ht2]; exact hP1, va_K.moved hal hK, hD⟩, hS.F ht2⟩) hS.2.2 (by decide) (by decide)
    · obtain ⟨ok13, rfl⟩ := hw
      obtain ⟨hP, hK1, hD1⟩ := hB
      rw [ht] at hP
      have hD := hD1.weaken (fun k q _ h => hFc q.1 h)
      clear hFc hk1 hD1 hK1
      generalize H1 = H at hP hS ⊢
      have hP : va_P (dC, dI) clA (wA cI cZ a v g) H := hP
      have hD : va_D A (wA cI cZ a v g) := hD
      refine lv_aload_n hx hb dX4_define_16 rfl (lv_at hl 0 rfl) ?_
      refine va_get (D := (dC, dI)) (ci := 4) (v := .ref (a 2)) (C := RX4) (T := TX4) (N := 9) hx hb hts (fun w h => List.mem_cons_of_mem _ (iw_X4 w h)) hown hK hP 0 rfl rfl 0 (by decide) (hts _ (List.mem_cons_of_mem _ fl_X4_definitions)) (fun _ h9 => h9) rfl dX4_define_17 ?_
      refine vp_callSi (W.runV (As := []) (rest := []) ⟨hx, hb, hml, hown, hts⟩ (c_dfull l dC dI cI cZ cJ a v g ) (cwV 0 hts (gd_V ml_X4_X0_isFull im_X0_isFull se_X0_isFull in_X0 kX0_isFull) rfl rfl rfl (by decide +kernel) ⟨Nat.le_of_ble_eq_true rfl, Nat.le_of_ble_eq_true rfl⟩) ⟨fun _ U g mk q => by obtain ⟨q0, qP, qK⟩ := q; exact ⟨q0, qP, va_K.moved (u := U) (U := U.calling g mk _) (Vm.Alike.refl U.vm) qK⟩, va_recv hK hP (ci := 0) (q0 := 2) rfl rfl, fun U hU hW => ⟨rfl, by rw [hU]; exact hP, va_K.moved hW.alike hK⟩⟩ rfl rfl hl.1 rfl (lv_room (Nat.le_of_ble_eq_true rfl)) dX4_define_20 ⟨Nat.le_of_ble_eq_true rfl, Nat.le_of_ble_eq_true rfl⟩) (fun r20 hr20 => ?_)
      subst hr20
      refine lv_if_eq (tgt := 36) hx hb dX4_define_23 (by decide) (fun c23 => ?_) (fun c23 => ?_)
      · have c23 := bI_0.mp c23
        have hn3 : nd < 6 := Nat.lt_of_not_le (fun h => of_decide_eq_false c23 (by rw [hnd]; exact nI_le (a := 6) h (by omega)))
        refine lv_aload_n hx hb dX4_define_36 rfl (lv_at hl 0 rfl) ?_
        refine va_get (D := (dC, dI)) (ci := 4) (v := .ref (a 2)) (C := RX4) (T := TX4) (N := 9) hx hb hts (fun w h => List.mem_cons_of_mem _ (iw_X4 w h)) hown hK hP 0 rfl rfl 0 (by decide) (hts _ (List.mem_cons_of_mem _ fl_X4_definitions)) (fun _ h9 => h9) rfl dX4_define_37 ?_
        refine lv_iload_n hx hb dX4_define_40 rfl (lv_at hl 1 rfl) ?_
        refine lv_iload_n hx hb dX4_define_41 rfl (lv_at hl 2 rfl) ?_
        have hFc := va_free (wc := (wA cI cZ a v g)) hD hS hA [0, 1, 2, 3, 4, 5, 6, 7, 8, 9, 10, 11, 12, 13, 14, 15, 16, 17, 18, 19] rfl
        refine va_calli (va_runV (As := [.int d, .int mk]) (rest := []) ⟨hx, hb, hml, hown, hts⟩ (c_dadd l dC dI cI cZ cJ a v g H.size nd hnd (by omega) d mk) (cwV 2 hts (gd_V ml_X4_X0_add im_X0_add se_X0_add in_X0 kX0_add) rfl rfl rfl (by decide +kernel) ⟨Nat.le_of_ble_eq_true rfl, Nat.le_of_ble_eq_true rfl⟩) ⟨fun _ U g mk q => by obtain ⟨q0, q1, qP, qK, qD⟩ := q; exact ⟨q0, q1, qP, va_K.moved (u := U) (U := U.calling g mk _) (Vm.Alike.refl U.vm) qK, qD⟩, va_recv hK hP (ci := 0) (q0 := 2) rfl rfl, fun U hU hW => ⟨rfl, by rw [hU], by rw [hU]; exact hP, va_K.moved hW.alike hK, hD.weaken (fun _ _ _ _ => trivial)⟩⟩ rfl rfl hl.1 rfl (lv_room (Nat.le_of_ble_eq_true rfl)) dX4_define_42 ⟨Nat.le_of_ble_eq_true rfl, Nat.le_of_ble_eq_true rfl⟩) hS (fun q _ h => hFc q h) hFc (fun r42 u9 t9 H1 locs ht hvm hw hB hz1 hk1 hS => ?_)
        obtain ⟨rfl, rfl⟩ := hw
        obtain ⟨hP, hK1, hD1⟩ := hB
        rw [ht] at hP
        have hD := hD1.weaken (fun k q _ h => hFc q.1 h)
        clear hFc hk1 hD1 hK1
        generalize H1 = H at hP hS ⊢
        have hP : va_P (dC, dI) clA (wA cI cZ a (upd v 4 (v 4 + 1)) (upg (upg g 1 nd d) 2 nd mk)) H := hP
        have hD : va_D A (wA cI cZ a (upd v 4 (v 4 + 1)) (upg (upg g 1 nd d) 2 nd mk)) := hD
        refine W.widen (k := 3) (n := 18) (by decide) (by decide) ?_
        exact vx_ret (W.iret (v := v 4 + 1) hx hb hr (fun t9 ht hW => ⟨⟨_, ((upd v 4 (v 4 + 1)), (upg (upg g 1 nd d) 2 nd mk)), rfl, ⟨rfl, ⟨ok5, ok13, hn3⟩, rfl⟩, ⟨by rw [ht]; exact hP, va_K.moved hW.alike hK, hD⟩⟩, hS.F ht⟩) hS.2.2 dX4_define_45)
      · have c23 := bI_n0.mp c23
        have hn3 : nd = 6 := Nat.le_antisymm hnd2 ((nI_leI (a := 6) (b := nd) (by decide) (by omega)).mp (by have h := of_decide_eq_true c23; rw [hnd] at h; exact h))
        exact vx_throwS hx hb hl9 (own := RX4) (cls := "java/lang/UnsupportedOperationException") (text := "no room for one more definition") (names := ["java/lang/RuntimeException", "java/lang/Exception"]) (ik := 66) (is := 85) (ic := 70) (A := A) hown (by decide +kernel) (by decide +kernel) (hts _ (List.mem_cons_of_mem _ cl_X4_UnsupportedOperationException)) (hts _ (List.mem_cons_of_mem _ in_UnsupportedOperationException)) (ZX.s85 hZ) (fun w h => hat_UnsupportedOperationException_70 hts hZ w h) gw_UnsupportedOperationException_66_70 hZ.1 hZ.2.1 hS (by rw [hml]; exact hl.1) dX4_define_26 dX4_define_29 dX4_define_30 dX4_define_32 dX4_define_35 (fun x h => (hEx x h).elim) (by decide) (by decide) (by decide) (by decide) hlocks (fun t9 hal h1 h2 => ⟨"java/lang/UnsupportedOperationException", (by simp [thr, hn3, ok5, ok13]), ⟨rfl, hP.kept (fun k q hk => h2 q.1 ((hP k q hk).lt)), va_K.moved hal hK, hD⟩, ⟨Nat.le_trans hS.1 h1, fun q h3 h4 => (h2 q (Nat.lt_of_lt_of_le h3 hS.1)).trans (hS.2.1 q h3 h4)⟩⟩) hS.2.2 (by decide) (by decide)
set_option maxHeartbeats 4000000 in
set_option maxRecDepth 100000 in
theorem c_ask (l : Launch) (hl9 : l.stackTraces = false) (dC : Nat → ClassId) (dI : Nat → Nat → Nat) (cI cZ cJ : ClassId) (a : Nat → Nat) (tx : Nat → Nat) (v : Nat → Int32) (g : Nat → Nat → Int32) (sz : Nat) (f t kd ar : Int32) : vx_Met l yX4_ask wsX4_ask ({ frames := 10, cells := 4, slots := 24, locals := 163 }) (va_Pc [.ref (a 0), .int f, .int t, .int kd, .int ar] (fun U => U.heap.size = sz ∧ va_P (dC, dI) clA (wA cI cZ a v g) U.heap ∧ va_K (dC, dI) clA (tyA cI cZ cJ) U ∧ va_D (fun _ => True) (wA cI cZ a v g) ∧ ZX tx (va_A (wA cI cZ a v g) sz) U U.heap)) (va_Qv (fun (u : StA) => ((kd = -1 ∨ inU kd 5) ∧ (ar = -1 ∨ inU ar 10) ∧ (inR f 0 9999 ∧ inR t f 9999)) ∧ u = (upd (upd (upd (upd v 0 f) 1 t) 2 kd) 3 ar, g)) (atA dC dI cI cZ cJ a (va_A (wA cI cZ a v g) sz)) (va_A (wA cI cZ a v g) sz)) (vx_X (fun E : String => thr E "java/lang/IllegalArgumentException" (¬ (kd = -1 ∨ inU kd 5) ∨ ¬ (ar = -1 ∨ inU ar 10)) "java/lang/IndexOutOfBoundsException" (¬ (inR f 0 9999 ∧ inR t f 9999)) "" (False)) (fun E1 E t => E1 = E ∧ atA dC dI cI cZ cJ a (va_A (wA cI cZ a v g) sz) (v, g) t) (va_A (wA cI cZ a v g) sz)) 4 24 (va_A (wA cI cZ a v g) sz) := by
  refine vx_ofW (cc := cX4_ask) (maxL := 5) (ret := none) (by decide) rfl ?_
  intro p e s m args below meth c s₁ B hml hEx hv
  obtain ⟨rfl, hsz, hP, hK, hD0, hZ⟩ := hv
  have hx := B.exec
  have hb := B.bytes
  have hr := B.returns
  have hts := atoms_spec (ws := wsX4_ask) B.pre
  have hown : s.vm.findClass RX4 = some m.cls := findClass_of_methodNamed B.named
  have hlocks := B.notSynchronized
  subst hsz
  have hD := hD0.self (sz := s.heap.size)
  generalize hAe : va_A (wA cI cZ a v g) s.heap.size = A at hD hZ ⊢
  have hA : ∀ q : Nat, s.heap.size ≤ q → A q := fun q h => by rw [← hAe]; exact Or.inr h
  have hS : va_S A s.heap s.heap [] := va_S.rf
  have hP : va_P (dC, dI) clA (wA cI cZ a v g) s.heap := hP
  have hl := lv_entry ([.ref (a 0), .int f, .int t, .int kd, .int ar]) (n := 5) (Nat.le_of_ble_eq_true rfl)
  rw [lg_entry_eq]
  generalize (lg_sl ([.ref (a 0), .int f, .int t, .int kd, .int ar]) ++ List.replicate (5 - (lg_sl ([.ref (a 0), .int f, .int t, .int kd, .int ar])).length) Slot.unset).toArray = ls at hl ⊢
  have hl : lv_has ls 5 [(0, .ref (a 0)), (1, .int f), (2, .int t), (3, .int kd), (4, .int ar)] := hl
  refine lv_iload_n hx hb dX4_ask_0 rfl (lv_at hl 3 rfl) ?_
  refine lv_iconst (v := (-1)) hx hb dX4_ask_1 (by decide) ?_
  refine lv_icmp_eq (tgt := 10) hx hb dX4_ask_2 (by decide) (fun c2 => ?_) (fun c2 => ?_)
  · refine lv_iload hx hb dX4_ask_10 (lv_at hl 4 rfl) ?_
    refine lv_iconst (v := (-1)) hx hb dX4_ask_12 (by decide) ?_
    refine lv_icmp_eq (tgt := 23) hx hb dX4_ask_13 (by decide) (fun c13 => ?_) (fun c13 => ?_)
    · refine lv_iload_n hx hb dX4_ask_23 rfl (lv_at hl 1 rfl) ?_
      refine lv_iload_n hx hb dX4_ask_24 rfl (lv_at hl 2 rfl) ?_
      have hFc := va_free (wc := (wA cI cZ a v g)) hD hS hA [0, 1, 2, 3, 4, 5, 6, 7, 8, 9, 10, 11, 12, 13, 14, 15, 16, 17, 18, 19] rfl
      refine vx_callv (vx_runS (As := [.int f, .int t]) (rest := []) ⟨hx, hb, hml, hown, hts⟩ (c_refS l hl9 dC dI cI cZ cJ a tx v g s.heap.size f t) (cwS 2 hts (gd_S ml_X4_X4_refuseNoSpan sm_X4_refuseNoSpan in_X4 kX4_refuseNoSpan) rfl rfl rfl (by decide +kernel) ⟨Nat.le_of_ble_eq_true rfl, Nat.le_of_ble_eq_true rfl⟩) ⟨fun _ U g mk q => by obtain ⟨q0, q1, qP, qK, qD, qZ⟩ := q; exact ⟨q0, q1, qP, va_K.moved (u := U) (U := U.calling g mk _) (Vm.Alike.refl U.vm) qK, qD, ZX.calling qZ⟩, fun U hU hW => ⟨rfl, by rw [hU], by rw [hU]; exact hP, va_K.moved hW.alike hK, hD.weaken (fun _ _ _ _ => trivial), ZX.call hZ hS hFc hW hU⟩⟩ rfl rfl hl.1 rfl (lv_room (Nat.le_of_ble_eq_true rfl)) dX4_ask_25 ⟨Nat.le_of_ble_eq_true rfl, Nat.le_of_ble_eq_true rfl⟩) hS (fun q _ h => hFc q h) hFc (fun q _ h => hFc q h) (fun E25 ce q9 u9 t9 H1 locs ht hvm hp hB hz1 hk1 hS hcell hcv hcl => ?_) (fun u9 t9 H1 locs ht hvm hw hB hz1 hk1 hS => ?_)
      · obtain ⟨rfl, hP1, hK1, hD1⟩ := hB
        rw [ht] at hP1
        have hD := hD1.weaken (fun k q _ h => hFc q.1 h)
        exact vx_out (fun x h => (hEx x h).elim) hlocks hcell hcv hcl (fun t8 ht2 hal => ⟨_, (by simp [thr, hp.1, hp.2, c2, c13]), ⟨rfl, by rw [ht2]; exact hP1, va_K.moved hal hK, hD⟩, hS.F ht2⟩) hS.2.2 (by decide) (by decide)
      · obtain ⟨ok25, rfl⟩ := hw
        obtain ⟨hP, hK1, hD1⟩ := hB
        rw [ht] at hP
        have hD := hD1.weaken (fun k q _ h => hFc q.1 h)
        clear hFc hk1 hD1 hK1
        generalize H1 = H at hP hS ⊢
        have hP : va_P (dC, dI) clA (wA cI cZ a v g) H := hP
        have hD : va_D A (wA cI cZ a v g) := hD
        refine lv_aload_n hx hb dX4_ask_28 rfl (lv_at hl 0 rfl) ?_
        refine lv_iload_n hx hb dX4_ask_29 rfl (lv_at hl 1 rfl) ?_
        refine va_put (D := (dC, dI)) (ci := 4) (v := .int f) (ty := .int) (C := RX4) (T := TX4) (N := 9) hx hb hts (fun w h => List.mem_cons_of_mem _ (iw_X4 w h)) tyX4 tyX4_ok nmX4 hown hK hP hD hS 0 rfl rfl 5 (by decide) (hts _ (List.mem_cons_of_mem _ fl_X4_askedFrom)) (fun _ h9 => h9) rfl (by decide +kernel) rfl rfl (Nat.le_of_ble_eq_true rfl) dX4_ask_30 (fun H locs hP hD hS => ?_)
        have hP : va_P (dC, dI) clA (wA cI cZ a (upd v 0 f) g) H := hP
        have hD : va_D A (wA cI cZ a (upd v 0 f) g) := hD
        refine lv_aload_n hx hb dX4_ask_33 rfl (lv_at hl 0 rfl) ?_
        refine lv_iload_n hx hb dX4_ask_34 rfl (lv_at hl 2 rfl) ?_
        refine va_put (D := (dC, dI)) (ci := 4) (v := .int t) (ty := .int) (C := RX4) (T := TX4) (N := 9) hx hb hts (fun w h => List.mem_cons_of_mem _ (iw_X4 w h)) tyX4 tyX4_ok nmX4 hown hK hP hD hS 0 rfl rfl 6 (by decide) (hts _ (List.mem_cons_of_mem _ fl_X4_askedTo)) (fun _ h9 => h9) rfl (by decide +kernel) rfl rfl (Nat.le_of_ble_eq_true rfl) dX4_ask_35 (fun H locs hP hD hS => ?_)
        have hP : va_P (dC, dI) clA (wA cI cZ a (upd (upd v 0 f) 1 t) g) H := hP
        have hD : va_D A (wA cI cZ a (upd (upd v 0 f) 1 t) g) := hD
        refine lv_aload_n hx hb dX4_ask_38 rfl (lv_at hl 0 rfl) ?_
        refine lv_iload_n hx hb dX4_ask_39 rfl (lv_at hl 3 rfl) ?_
        refine va_put (D := (dC, dI)) (ci := 4) (v := .int kd) (ty := .int) (C := RX4) (T := TX4) (N := 9) hx hb hts (fun w h => List.mem_cons_of_mem _ (iw_X4 w h)) tyX4 tyX4_ok nmX4 hown hK hP hD hS 0 rfl rfl 7 (by decide) (hts _ (List.mem_cons_of_mem _ fl_X4_askedKind)) (fun _ h9 => h9) rfl (by decide +kernel) rfl rfl (Nat.le_of_ble_eq_true rfl) dX4_ask_40 (fun H locs hP hD hS => ?_)
        have hP : va_P (dC, dI) clA (wA cI cZ a (upd (upd (upd v 0 f) 1 t) 2 kd) g) H := hP
        have hD : va_D A (wA cI cZ a (upd (upd (upd v 0 f) 1 t) 2 kd) g) := hD
        refine lv_aload_n hx hb dX4_ask_43 rfl (lv_at hl 0 rfl) ?_
        refine lv_iload hx hb dX4_ask_44 (lv_at hl 4 rfl) ?_
        refine va_put (D := (dC, dI)) (ci := 4) (v := .int ar) (ty := .int) (C := RX4) (T := TX4) (N := 9) hx hb hts (fun w h => List.mem_cons_of_mem _ (iw_X4 w h)) tyX4 tyX4_ok nmX4 hown hK hP hD hS 0 rfl rfl 8 (by decide) (hts _ (List.mem_cons_of_mem _ fl_X4_askedArea)) (fun _ h9 => h9) rfl (by decide +kernel) rfl rfl (Nat.le_of_ble_eq_true rfl) dX4_ask_46 (fun H locs hP hD hS => ?_)
        have hP : va_P (dC, dI) clA (wA cI cZ a (upd (upd (upd (upd v 0 f) 1 t) 2 kd) 3 ar) g) H := hP
        have hD : va_D A (wA cI cZ a (upd (upd (upd (upd v 0 f) 1 t) 2 kd) 3 ar) g) := hD
        refine W.widen (k := 4) (n := 24) (by decide) (by decide) ?_
        exact vx_ret (W.vret hx hb hr (fun t9 ht hW => ⟨⟨((upd (upd (upd (upd v 0 f) 1 t) 2 kd) 3 ar), g), rfl, ⟨(by refine ⟨?_, ?_, ok25⟩ <;> simp [c2, c13, ok25]), rfl⟩, ⟨by rw [ht]; exact hP, va_K.moved hW.alike hK, hD⟩⟩, hS.F ht⟩) hS.2.2 dX4_ask_49)
    · refine lv_iload hx hb dX4_ask_16 (lv_at hl 4 rfl) ?_
      refine lv_bipush (v := 10) hx hb dX4_ask_18 (by decide) ?_
      have hFc := va_free (wc := (wA cI cZ a v g)) hD hS hA [0, 1, 2, 3, 4, 5, 6, 7, 8, 9, 10, 11, 12, 13, 14, 15, 16, 17, 18, 19] rfl
      refine vx_callv (vx_runS (As := [.int ar, .int 10]) (rest := []) ⟨hx, hb, hml, hown, hts⟩ (c_refU l hl9 dC dI cI cZ cJ a tx v g s.heap.size ar 10) (cwS 2 hts (gd_S ml_X4_X4_refuseUnknown sm_X4_refuseUnknown in_X4 kX4_refuseUnknown) rfl rfl rfl (by decide +kernel) ⟨Nat.le_of_ble_eq_true rfl, Nat.le_of_ble_eq_true rfl⟩) ⟨fun _ U g mk q => by obtain ⟨q0, q1, qP, qK, qD, qZ⟩ := q; exact ⟨q0, q1, qP, va_K.moved (u := U) (U := U.calling g mk _) (Vm.Alike.refl U.vm) qK, qD, ZX.calling qZ⟩, fun U hU hW => ⟨rfl, by rw [hU], by rw [hU]; exact hP, va_K.moved hW.alike hK, hD.weaken (fun _ _ _ _ => trivial), ZX.call hZ hS hFc hW hU⟩⟩ rfl rfl hl.1 rfl (lv_room (Nat.le_of_ble_eq_true rfl)) dX4_ask_20 ⟨Nat.le_of_ble_eq_true rfl, Nat.le_of_ble_eq_true rfl⟩) hS (fun q _ h => hFc q h) hFc (fun q _ h => hFc q h) (fun E20 ce q9 u9 t9 H1 locs ht hvm hp hB hz1 hk1 hS hcell hcv hcl => ?_) (fun u9 t9 H1 locs ht hvm hw hB hz1 hk1 hS => ?_)
      · obtain ⟨rfl, hP1, hK1, hD1⟩ := hB
        rw [ht] at hP1
        have hD := hD1.weaken (fun k q _ h => hFc q.1 h)
        exact vx_out (fun x h => (hEx x h).elim) hlocks hcell hcv hcl (fun t8 ht2 hal => ⟨_, (by simp [thr, hp.1, hp.2, c2, c13]), ⟨rfl, by rw [ht2]; exact hP1, va_K.moved hal hK, hD⟩, hS.F ht2⟩) hS.2.2 (by decide) (by decide)
      · obtain ⟨ok20, rfl⟩ := hw
        obtain ⟨hP, hK1, hD1⟩ := hB
        rw [ht] at hP
        have hD := hD1.weaken (fun k q _ h => hFc q.1 h)
        clear hFc hk1 hD1 hK1
        generalize H1 = H at hP hS ⊢
        have hP : va_P (dC, dI) clA (wA cI cZ a v g) H := hP
        have hD : va_D A (wA cI cZ a v g) := hD
        refine lv_iload_n hx hb dX4_ask_23 rfl (lv_at hl 1 rfl) ?_
        refine lv_iload_n hx hb dX4_ask_24 rfl (lv_at hl 2 rfl) ?_
        have hFc := va_free (wc := (wA cI cZ a v g)) hD hS hA [0, 1, 2, 3, 4, 5, 6, 7, 8, 9, 10, 11, 12, 13, 14, 15, 16, 17, 18, 19] rfl
        refine vx_callv (vx_runS (As := [.int f, .int t]) (rest := []) ⟨hx, hb, hml, hown, hts⟩ (c_refS l hl9 dC dI cI cZ cJ a tx v g H.size f t) (cwS 2 hts (gd_S ml_X4_X4_refuseNoSpan sm_X4_refuseNoSpan in_X4 kX4_refuseNoSpan) rfl rfl rfl (by decide +kernel) ⟨Nat.le_of_ble_eq_true rfl, Nat.le_of_ble_eq_true rfl⟩) ⟨fun _ U g mk q => by obtain ⟨q0, q1, qP, qK, qD, qZ⟩ := q; exact ⟨q0, q1, qP, va_K.moved (u := U) (U := U.calling g mk _) (Vm.Alike.refl U.vm) qK, qD, ZX.calling qZ⟩, fun U hU hW => ⟨rfl, by rw [hU], by rw [hU]; exact hP, va_K.moved hW.alike hK, hD.weaken (fun _ _ _ _ => trivial), ZX.call hZ hS hFc hW hU⟩⟩ rfl rfl hl.1 rfl (lv_room (Nat.le_of_ble_eq_true rfl)) dX4_ask_25 ⟨Nat.le_of_ble_eq_true rfl, Nat.le_of_ble_eq_true rfl⟩) hS (fun q _ h => hFc q h) hFc (fun q _ h => hFc q h) (fun E25 ce q9 u9 t9 H1 locs ht hvm hp hB hz1 hk1 hS hcell hcv hcl => ?_) (fun u9 t9 H1 locs ht hvm hw hB hz1 hk1 hS => ?_)
        · obtain ⟨rfl, hP1, hK1, hD1⟩ := hB
          rw [ht] at hP1
          have hD := hD1.weaken (fun k q _ h => hFc q.1 h)
          exact vx_out (fun x h => (hEx x h).elim) hlocks hcell hcv hcl (fun t8 ht2 hal => ⟨_, (by simp [thr, hp.1, hp.2, c2, c13, ok20]), ⟨rfl, by rw [ht2]; exact hP1, va_K.moved hal hK, hD⟩, hS.F ht2⟩) hS.2.2 (by decide) (by decide)
        · obtain ⟨ok25, rfl⟩ := hw
          obtain ⟨hP, hK1, hD1⟩ := hB
          rw [ht] at hP
          have hD := hD1.weaken (fun k q _ h => hFc q.1 h)
          clear hFc hk1 hD1 hK1
          generalize H1 = H at hP hS ⊢
          have hP : va_P (dC, dI) clA (wA cI cZ a v g) H := hP
          have hD : va_D A (wA cI cZ a v g) := hD
          refine lv_aload_n hx hb dX4_ask_28 rfl (lv_at hl 0 rfl) ?_
          refine lv_iload_n hx hb dX4_ask_29 rfl (lv_at hl 1 rfl) ?_
          refine va_put (D := (dC, dI)) (ci := 4) (v := .int f) (ty := .int) (C := RX4) (T := TX4) (N := 9) hx hb hts (fun w h => List.mem_cons_of_mem _ (iw_X4 w h)) tyX4 tyX4_ok nmX4 hown hK hP hD hS 0 rfl rfl 5 (by decide) (hts _ (List.mem_cons_of_mem _ fl_X4_askedFrom)) (fun _ h9 => h9) rfl (by decide +kernel) rfl rfl (Nat.le_of_ble_eq_true rfl) dX4_ask_30 (fun H locs hP hD hS => ?_)
          have hP : va_P (dC, dI) clA (wA cI cZ a (upd v 0 f) g) H := hP
          have hD : va_D A (wA cI cZ a (upd v 0 f) g) := hD
          refine lv_aload_n hx hb dX4_ask_33 rfl (lv_at hl 0 rfl) ?_
          refine lv_iload_n hx hb dX4_ask_34 rfl (lv_at hl 2 rfl) ?_
          refine va_put (D := (dC, dI)) (ci := 4) (v := .int t) (ty := .int) (C := RX4) (T := TX4) (N := 9) hx hb hts (fun w h => List.mem_cons_of_mem _ (iw_X4 w h)) tyX4 tyX4_ok nmX4 hown hK hP hD hS 0 rfl rfl 6 (by decide) (hts _ (List.mem_cons_of_mem _ fl_X4_askedTo)) (fun _ h9 => h9) rfl (by decide +kernel) rfl rfl (Nat.le_of_ble_eq_true rfl) dX4_ask_35 (fun H locs hP hD hS => ?_)
          have hP : va_P (dC, dI) clA (wA cI cZ a (upd (upd v 0 f) 1 t) g) H := hP
          have hD : va_D A (wA cI cZ a (upd (upd v 0 f) 1 t) g) := hD
          refine lv_aload_n hx hb dX4_ask_38 rfl (lv_at hl 0 rfl) ?_
          refine lv_iload_n hx hb dX4_ask_39 rfl (lv_at hl 3 rfl) ?_
          refine va_put (D := (dC, dI)) (ci := 4) (v := .int kd) (ty := .int) (C := RX4) (T := TX4) (N := 9) hx hb hts (fun w h => List.mem_cons_of_mem _ (iw_X4 w h)) tyX4 tyX4_ok nmX4 hown hK hP hD hS 0 rfl rfl 7 (by decide) (hts _ (List.mem_cons_of_mem _ fl_X4_askedKind)) (fun _ h9 => h9) rfl (by decide +kernel) rfl rfl (Nat.le_of_ble_eq_true rfl) dX4_ask_40 (fun H locs hP hD hS => ?_)
          have hP : va_P (dC, dI) clA (wA cI cZ a (upd (upd (upd v 0 f) 1 t) 2 kd) g) H := hP
          have hD : va_D A (wA cI cZ a (upd (upd (upd v 0 f) 1 t) 2 kd) g) := hD
          refine lv_aload_n hx hb dX4_ask_43 rfl (lv_at hl 0 rfl) ?_
          refine lv_iload hx hb dX4_ask_44 (lv_at hl 4 rfl) ?_
          refine va_put (D := (dC, dI)) (ci := 4) (v := .int ar) (ty := .int) (C := RX4) (T := TX4) (N := 9) hx hb hts (fun w h => List.mem_cons_of_mem _ (iw_X4 w h)) tyX4 tyX4_ok nmX4 hown hK hP hD hS 0 rfl rfl 8 (by decide) (hts _ (List.mem_cons_of_mem _ fl_X4_askedArea)) (fun _ h9 => h9) rfl (by decide +kernel) rfl rfl (Nat.le_of_ble_eq_true rfl) dX4_ask_46 (fun H locs hP hD hS => ?_)
          have hP : va_P (dC, dI) clA (wA cI cZ a (upd (upd (upd (upd v 0 f) 1 t) 2 kd) 3 ar) g) H := hP
          have hD : va_D A (wA cI cZ a (upd (upd (upd (upd v 0 f) 1 t) 2 kd) 3 ar) g) := hD
          refine W.widen (k := 4) (n := 24) (by decide) (by decide) ?_
          exact vx_ret (W.vret hx hb hr (fun t9 ht hW => ⟨⟨((upd (upd (upd (upd v 0 f) 1 t) 2 kd) 3 ar), g), rfl, ⟨(by refine ⟨?_, ?_, ok25⟩ <;> simp [c2, c13, ok20, ok25]), rfl⟩, ⟨by rw [ht]; exact hP, va_K.moved hW.alike hK, hD⟩⟩, hS.F ht⟩) hS.2.2 dX4_ask_49)
  · refine lv_iload_n hx hb dX4_ask_5 rfl (lv_at hl 3 rfl) ?_
    refine lv_iconst (v := 5) hx hb dX4_ask_6 (by decide) ?_
    have hFc := va_free (wc := (wA cI cZ a v g)) hD hS hA [0, 1, 2, 3, 4, 5, 6, 7, 8, 9, 10, 11, 12, 13, 14, 15, 16, 17, 18, 19] rfl
    refine vx_callv (vx_runS (As := [.int kd, .int 5]) (rest := []) ⟨hx, hb, hml, hown, hts⟩ (c_refU l hl9 dC dI cI cZ cJ a tx v g s.heap.size kd 5) (cwS 2 hts (gd_S ml_X4_X4_refuseUnknown sm_X4_refuseUnknown in_X4 kX4_refuseUnknown) rfl rfl rfl (by decide +kernel) ⟨Nat.le_of_ble_eq_true rfl, Nat.le_of_ble_eq_true rfl⟩) ⟨fun _ U g mk q => by obtain ⟨q0, q1, qP, qK, qD, qZ⟩ := q; exact ⟨q0, q1, qP, va_K.moved (u := U) (U := U.calling g mk _) (Vm.Alike.refl U.vm) qK, qD, ZX.calling qZ⟩, fun U hU hW => ⟨rfl, by rw [hU], by rw [hU]; exact hP, va_K.moved hW.alike hK, hD.weaken (fun _ _ _ _ => trivial), ZX.call hZ hS hFc hW hU⟩⟩ rfl rfl hl.1 rfl (lv_room (Nat.le_of_ble_eq_true rfl)) dX4_ask_7 ⟨Nat.le_of_ble_eq_true rfl, Nat.le_of_ble_eq_true rfl⟩) hS (fun q _ h => hFc q h) hFc (fun q _ h => hFc q h) (fun E7 ce q9 u9 t9 H1 locs ht hvm hp hB hz1 hk1 hS hcell hcv hcl => ?_) (fun u9 t9 H1 locs ht hvm hw hB hz1 hk1 hS => ?_)
    · obtain ⟨rfl, hP1, hK1, hD1⟩ := hB
      rw [ht] at hP1
      have hD := hD1.weaken (fun k q _ h => hFc q.1 h)
      exact vx_out (fun x h => (hEx x h).elim) hlocks hcell hcv hcl (fun t8 ht2 hal => ⟨_, (by simp [thr, hp.1, hp.2, c2]), ⟨rfl, by rw [ht2]; exact hP1, va_K.moved hal hK, hD⟩, hS.F ht2⟩) hS.2.2 (by decide) (by decide)
    · obtain ⟨ok7, rfl⟩ := hw
      obtain ⟨hP, hK1, hD1⟩ := hB
      rw [ht] at hP
      have hD := hD1.weaken (fun k q _ h => hFc q.1 h)
      clear hFc hk1 hD1 hK1
      generalize H1 = H at hP hS ⊢
      have hP : va_P (dC, dI) clA (wA cI cZ a v g) H := hP
      have hD : va_D A (wA cI cZ a v g) := hD
      refine lv_iload hx hb dX4_ask_10 (lv_at hl 4 rfl) ?_
      refine lv_iconst (v := (-1)) hx hb dX4_ask_12 (by decide) ?_
      refine lv_icmp_eq (tgt := 23) hx hb dX4_ask_13 (by decide) (fun c13 => ?_) (fun c13 => ?_)
      · refine lv_iload_n hx hb dX4_ask_23 rfl (lv_at hl 1 rfl) ?_
        refine lv_iload_n hx hb dX4_ask_24 rfl (lv_at hl 2 rfl) ?_
        have hFc := va_free (wc := (wA cI cZ a v g)) hD hS hA [0, 1, 2, 3, 4, 5, 6, 7, 8, 9, 10, 11, 12, 13, 14, 15, 16, 17, 18, 19] rfl
        refine vx_callv (vx_runS (As := [.int f, .int t]) (rest := []) ⟨hx, hb, hml, hown, hts⟩ (c_refS l hl9 dC dI cI cZ cJ a tx v g H.size f t) (cwS 2 hts (gd_S ml_X4_X4_refuseNoSpan sm_X4_refuseNoSpan in_X4 kX4_refuseNoSpan) rfl rfl rfl (by decide +kernel) ⟨Nat.le_of_ble_eq_true rfl, Nat.le_of_ble_eq_true rfl⟩) ⟨fun _ U g mk q => by obtain ⟨q0, q1, qP, qK, qD, qZ⟩ := q; exact ⟨q0, q1, qP, va_K.moved (u := U) (U := U.calling g mk _) (Vm.Alike.refl U.vm) qK, qD, ZX.calling qZ⟩, fun U hU hW => ⟨rfl, by rw [hU], by rw [hU]; exact hP, va_K.moved hW.alike hK, hD.weaken (fun _ _ _ _ => trivial), ZX.call hZ hS hFc hW hU⟩⟩ rfl rfl hl.1 rfl (lv_room (Nat.le_of_ble_eq_true rfl)) dX4_ask_25 ⟨Nat.le_of_ble_eq_true rfl, Nat.le_of_ble_eq_true rfl⟩) hS (fun q _ h => hFc q h) hFc (fun q _ h => hFc q h) (fun E25 ce q9 u9 t9 H1 locs ht hvm hp hB hz1 hk1 hS hcell hcv hcl => ?_) (fun u9 t9 H1 locs ht hvm hw hB hz1 hk1 hS => ?_)
        · obtain ⟨rfl, hP1, hK1, hD1⟩ := hB
          rw [ht] at hP1
          have hD := hD1.weaken (fun k q _ h => hFc q.1 h)
          exact vx_out (fun x h => (hEx x h).elim) hlocks hcell hcv hcl (fun t8 ht2 hal => ⟨_, (by simp [thr, hp.1, hp.2, c2, ok7, c13]), ⟨rfl, by rw [ht2]; exact hP1, va_K.moved hal hK, hD⟩, hS.F ht2⟩) hS.2.2 (by decide) (by decide)
        · obtain ⟨ok25, rfl⟩ := hw
          obtain ⟨hP, hK1, hD1⟩ := hB
          rw [ht] at hP
          have hD := hD1.weaken (fun k q _ h => hFc q.1 h)
          clear hFc hk1 hD1 hK1
          generalize H1 = H at hP hS ⊢
          have hP : va_P (dC, dI) clA (wA cI cZ a v g) H := hP
          have hD : va_D A (wA cI cZ a v g) := hD
          refine lv_aload_n hx hb dX4_ask_28 rfl (lv_at hl 0 rfl) ?_
          refine lv_iload_n hx hb dX4_ask_29 rfl (lv_at hl 1 rfl) ?_
          refine va_put (D := (dC, dI)) (ci := 4) (v := .int f) (ty := .int) (C := RX4) (T := TX4) (N := 9) hx hb hts (fun w h => List.mem_cons_of_mem _ (iw_X4 w h)) tyX4 tyX4_ok nmX4 hown hK hP hD hS 0 rfl rfl 5 (by decide) (hts _ (List.mem_cons_of_mem _ fl_X4_askedFrom)) (fun _ h9 => h9) rfl (by decide +kernel) rfl rfl (Nat.le_of_ble_eq_true rfl) dX4_ask_30 (fun H locs hP hD hS => ?_)
          have hP : va_P (dC, dI) clA (wA cI cZ a (upd v 0 f) g) H := hP
          have hD : va_D A (wA cI cZ a (upd v 0 f) g) := hD
          refine lv_aload_n hx hb dX4_ask_33 rfl (lv_at hl 0 rfl) ?_
          refine lv_iload_n hx hb dX4_ask_34 rfl (lv_at hl 2 rfl) ?_
          refine va_put (D := (dC, dI)) (ci := 4) (v := .int t) (ty := .int) (C := RX4) (T := TX4) (N := 9) hx hb hts (fun w h => List.mem_cons_of_mem _ (iw_X4 w h)) tyX4 tyX4_ok nmX4 hown hK hP hD hS 0 rfl rfl 6 (by decide) (hts _ (List.mem_cons_of_mem _ fl_X4_askedTo)) (fun _ h9 => h9) rfl (by decide +kernel) rfl rfl (Nat.le_of_ble_eq_true rfl) dX4_ask_35 (fun H locs hP hD hS => ?_)
          have hP : va_P (dC, dI) clA (wA cI cZ a (upd (upd v 0 f) 1 t) g) H := hP
          have hD : va_D A (wA cI cZ a (upd (upd v 0 f) 1 t) g) := hD
          refine lv_aload_n hx hb dX4_ask_38 rfl (lv_at hl 0 rfl) ?_
          refine lv_iload_n hx hb dX4_ask_39 rfl (lv_at hl 3 rfl) ?_
          refine va_put (D := (dC, dI)) (ci := 4) (v := .int kd) (ty := .int) (C := RX4) (T := TX4) (N := 9) hx hb hts (fun w h => List.mem_cons_of_mem _ (iw_X4 w h)) tyX4 tyX4_ok nmX4 hown hK hP hD hS 0 rfl rfl 7 (by decide) (hts _ (List.mem_cons_of_mem _ fl_X4_askedKind)) (fun _ h9 => h9) rfl (by decide +kernel) rfl rfl (Nat.le_of_ble_eq_true rfl) dX4_ask_40 (fun H locs hP hD hS => ?_)
          have hP : va_P (dC, dI) clA (wA cI cZ a (upd (upd (upd v 0 f) 1 t) 2 kd) g) H := hP
          have hD : va_D A (wA cI cZ a (upd (upd (upd v 0 f) 1 t) 2 kd) g) := hD
          refine lv_aload_n hx hb dX4_ask_43 rfl (lv_at hl 0 rfl) ?_
          refine lv_iload hx hb dX4_ask_44 (lv_at hl 4 rfl) ?_
          refine va_put (D := (dC, dI)) (ci := 4) (v := .int ar) (ty := .int) (C := RX4) (T := TX4) (N := 9) hx hb hts (fun w h => List.mem_cons_of_mem _ (iw_X4 w h)) tyX4 tyX4_ok nmX4 hown hK hP hD hS 0 rfl rfl 8 (by decide) (hts _ (List.mem_cons_of_mem _ fl_X4_askedArea)) (fun _ h9 => h9) rfl (by decide +kernel) rfl rfl (Nat.le_of_ble_eq_true rfl) dX4_ask_46 (fun H locs hP hD hS => ?_)
          have hP : va_P (dC, dI) clA (wA cI cZ a (upd (upd (upd (upd v 0 f) 1 t) 2 kd) 3 ar) g) H := hP
          have hD : va_D A (wA cI cZ a (upd (upd (upd (upd v 0 f) 1 t) 2 kd) 3 ar) g) := hD
          refine W.widen (k := 4) (n := 24) (by decide) (by decide) ?_
          exact vx_ret (W.vret hx hb hr (fun t9 ht hW => ⟨⟨((upd (upd (upd (upd v 0 f) 1 t) 2 kd) 3 ar), g), rfl, ⟨(by refine ⟨?_, ?_, ok25⟩ <;> simp [c2, ok7, c13, ok25]), rfl⟩, ⟨by rw [ht]; exact hP, va_K.moved hW.alike hK, hD⟩⟩, hS.F ht⟩) hS.2.2 dX4_ask_49)
      · refine lv_iload hx hb dX4_ask_16 (lv_at hl 4 rfl) ?_
        refine lv_bipush (v := 10) hx hb dX4_ask_18 (by decide) ?_
        have hFc := va_free (wc := (wA cI cZ a v g)) hD hS hA [0, 1, 2, 3, 4, 5, 6, 7, 8, 9, 10, 11, 12, 13, 14, 15, 16, 17, 18, 19] rfl
        refine vx_callv (vx_runS (As := [.int ar, .int 10]) (rest := []) ⟨hx, hb, hml, hown, hts⟩ (c_refU l hl9 dC dI cI cZ cJ a tx v g H.size ar 10) (cwS 2 hts (gd_S ml_X4_X4_refuseUnknown sm_X4_refuseUnknown in_X4 kX4_refuseUnknown) rfl rfl rfl (by decide +kernel) ⟨Nat.le_of_ble_eq_true rfl, Nat.le_of_ble_eq_true rfl⟩) ⟨fun _ U g mk q => by obtain ⟨q0, q1, qP, qK, qD, qZ⟩ := q; exact ⟨q0, q1, qP, va_K.moved (u := U) (U := U.calling g mk _) (Vm.Alike.refl U.vm) qK, qD, ZX.calling qZ⟩, fun U hU hW => ⟨rfl, by rw [hU], by rw [hU]; exact hP, va_K.moved hW.alike hK, hD.weaken (fun _ _ _ _ => trivial), ZX.call hZ hS hFc hW hU⟩⟩ rfl rfl hl.1 rfl (lv_room (Nat.le_of_ble_eq_true rfl)) dX4_ask_20 ⟨Nat.le_of_ble_eq_true rfl, Nat.le_of_ble_eq_true rfl⟩) hS (fun q _ h => hFc q h) hFc (fun q _ h => hFc q h) (fun E20 ce q9 u9 t9 H1 locs ht hvm hp hB hz1 hk1 hS hcell hcv hcl => ?_) (fun u9 t9 H1 locs ht hvm hw hB hz1 hk1 hS => ?_)
        · obtain ⟨rfl, hP1, hK1, hD1⟩ := hB
          rw [ht] at hP1
          have hD := hD1.weaken (fun k q _ h => hFc q.1 h)
          exact vx_out (fun x h => (hEx x h).elim) hlocks hcell hcv hcl (fun t8 ht2 hal => ⟨_, (by simp [thr, hp.1, hp.2, c2, ok7, c13]), ⟨rfl, by rw [ht2]; exact hP1, va_K.moved hal hK, hD⟩, hS.F ht2⟩) hS.2.2 (by decide) (by decide)
        · obtain ⟨ok20, rfl⟩ := hw
          obtain ⟨hP, hK1, hD1⟩ := hB
          rw [ht] at hP
          have hD := hD1.weaken (fun k q _ h => hFc q.1 h)
          clear hFc hk1 hD1 hK1
          generalize H1 = H at hP hS ⊢
          have hP : va_P (dC, dI) clA (wA cI cZ a v g) H := hP
          have hD : va_D A (wA cI cZ a v g) := hD
          refine lv_iload_n hx hb dX4_ask_23 rfl (lv_at hl 1 rfl) ?_
          refine lv_iload_n hx hb dX4_ask_24 rfl (lv_at hl 2 rfl) ?_
          have hFc := va_free (wc := (wA cI cZ a v g)) hD hS hA [0, 1, 2, 3, 4, 5, 6, 7, 8, 9, 10, 11, 12, 13, 14, 15, 16, 17, 18, 19] rfl
          refine vx_callv (vx_runS (As := [.int f, .int t]) (rest := []) ⟨hx, hb, hml, hown, hts⟩ (c_refS l hl9 dC dI cI cZ cJ a tx v g H.size f t) (cwS 2 hts (gd_S ml_X4_X4_refuseNoSpan sm_X4_refuseNoSpan in_X4 kX4_refuseNoSpan) rfl rfl rfl (by decide +kernel) ⟨Nat.le_of_ble_eq_true rfl, Nat.le_of_ble_eq_true rfl⟩) ⟨fun _ U g mk q => by obtain ⟨q0, q1, qP, qK, qD, qZ⟩ := q; exact ⟨q0, q1, qP, va_K.moved (u := U) (U := U.calling g mk _) (Vm.Alike.refl U.vm) qK, qD, ZX.calling qZ⟩, fun U hU hW => ⟨rfl, by rw [hU], by rw [hU]; exact hP, va_K.moved hW.alike hK, hD.weaken (fun _ _ _ _ => trivial), ZX.call hZ hS hFc hW hU⟩⟩ rfl rfl hl.1 rfl (lv_room (Nat.le_of_ble_eq_true rfl)) dX4_ask_25 ⟨Nat.le_of_ble_eq_true rfl, Nat.le_of_ble_eq_true rfl⟩) hS (fun q _ h => hFc q h) hFc (fun q _ h => hFc q h) (fun E25 ce q9 u9 t9 H1 locs ht hvm hp hB hz1 hk1 hS hcell hcv hcl => ?_) (fun u9 t9 H1 locs ht hvm hw hB hz1 hk1 hS => ?_)
          · obtain ⟨rfl, hP1, hK1, hD1⟩ := hB
            rw [ht] at hP1
            have hD := hD1.weaken (fun k q _ h => hFc q.1 h)
            exact vx_out (fun x h => (hEx x h).elim) hlocks hcell hcv hcl (fun t8 ht2 hal => ⟨_, (by simp [thr, hp.1, hp.2, c2, ok7, c13, ok20]), ⟨rfl, by rw [ht2]; exact hP1, va_K.moved hal hK, hD⟩, hS.F ht2⟩) hS.2.2 (by decide) (by decide)
          · obtain ⟨ok25, rfl⟩ := hw
            obtain ⟨hP, hK1, hD1⟩ := hB
            rw [ht] at hP
            have hD := hD1.weaken (fun k q _ h => hFc q.1 h)
            clear hFc hk1 hD1 hK1
            generalize H1 = H at hP hS ⊢
            have hP : va_P (dC, dI) clA (wA cI cZ a v g) H := hP
            have hD : va_D A (wA cI cZ a v g) := hD
            refine lv_aload_n hx hb dX4_ask_28 rfl (lv_at hl 0 rfl) ?_
            refine lv_iload_n hx hb dX4_ask_29 rfl (lv_at hl 1 rfl) ?_
            refine va_put (D := (dC, dI)) (ci := 4) (v := .int f) (ty := .int) (C := RX4) (T := TX4) (N := 9) hx hb hts (fun w h => List.mem_cons_of_mem _ (iw_X4 w h)) tyX4 tyX4_ok nmX4 hown hK hP hD hS 0 rfl rfl 5 (by decide) (hts _ (List.mem_cons_of_mem _ fl_X4_askedFrom)) (fun _ h9 => h9) rfl (by decide +kernel) rfl rfl (Nat.le_of_ble_eq_true rfl) dX4_ask_30 (fun H locs hP hD hS => ?_)
            have hP : va_P (dC, dI) clA (wA cI cZ a (upd v 0 f) g) H := hP
            have hD : va_D A (wA cI cZ a (upd v 0 f) g) := hD
            refine lv_aload_n hx hb dX4_ask_33 rfl (lv_at hl 0 rfl) ?_
            refine lv_iload_n hx hb dX4_ask_34 rfl (lv_at hl 2 rfl) ?_
            refine va_put (D := (dC, dI)) (ci := 4) (v := .int t) (ty := .int) (C := RX4) (T := TX4) (N := 9) hx hb hts (fun w h => List.mem_cons_of_mem _ (iw_X4 w h)) tyX4 tyX4_ok nmX4 hown hK hP hD hS 0 rfl rfl 6 (by decide) (hts _ (List.mem_cons_of_mem _ fl_X4_askedTo)) (fun _ h9 => h9) rfl (by decide +kernel) rfl rfl (Nat.le_of_ble_eq_true rfl) dX4_ask_35 (fun H locs hP hD hS => ?_)
            have hP : va_P (dC, dI) clA (wA cI cZ a (upd (upd v 0 f) 1 t) g) H := hP
            have hD : va_D A (wA cI cZ a (upd (upd v 0 f) 1 t) g) := hD
            refine lv_aload_n hx hb dX4_ask_38 rfl (lv_at hl 0 rfl) ?_
            refine lv_iload_n hx hb dX4_ask_39 rfl (lv_at hl 3 rfl) ?_
            refine va_put (D := (dC, dI)) (ci := 4) (v := .int kd) (ty := .int) (C := RX4) (T := TX4) (N := 9) hx hb hts (fun w h => List.mem_cons_of_mem _ (iw_X4 w h)) tyX4 tyX4_ok nmX4 hown hK hP hD hS 0 rfl rfl 7 (by decide) (hts _ (List.mem_cons_of_mem _ fl_X4_askedKind)) (fun _ h9 => h9) rfl (by decide +kernel) rfl rfl (Nat.le_of_ble_eq_true rfl) dX4_ask_40 (fun H locs hP hD hS => ?_)
            have hP : va_P (dC, dI) clA (wA cI cZ a (upd (upd (upd v 0 f) 1 t) 2 kd) g) H := hP
            have hD : va_D A (wA cI cZ a (upd (upd (upd v 0 f) 1 t) 2 kd) g) := hD
            refine lv_aload_n hx hb dX4_ask_43 rfl (lv_at hl 0 rfl) ?_
            refine lv_iload hx hb dX4_ask_44 (lv_at hl 4 rfl) ?_
            refine va_put (D := (dC, dI)) (ci := 4) (v := .int ar) (ty := .int) (C := RX4) (T := TX4) (N := 9) hx hb hts (fun w h => List.mem_cons_of_mem _ (iw_X4 w h)) tyX4 tyX4_ok nmX4 hown hK hP hD hS 0 rfl rfl 8 (by decide) (hts _ (List.mem_cons_of_mem _ fl_X4_askedArea)) (fun _ h9 => h9) rfl (by decide +kernel) rfl rfl (Nat.le_of_ble_eq_true rfl) dX4_ask_46 (fun H locs hP hD hS => ?_)
            have hP : va_P (dC, dI) clA (wA cI cZ a (upd (upd (upd (upd v 0 f) 1 t) 2 kd) 3 ar) g) H := hP
            have hD : va_D A (wA cI cZ a (upd (upd (upd (upd v 0 f) 1 t) 2 kd) 3 ar) g) := hD
            exact vx_ret (W.vret hx hb hr (fun t9 ht hW => ⟨⟨((upd (upd (upd (upd v 0 f) 1 t) 2 kd) 3 ar), g), rfl, ⟨(by refine ⟨?_, ?_, ok25⟩ <;> simp [c2, ok7, c13, ok20, ok25]), rfl⟩, ⟨by rw [ht]; exact hP, va_K.moved hW.alike hK, hD⟩⟩, hS.F ht⟩) hS.2.2 dX4_ask_49)
set_option maxHeartbeats 4000000 in
set_option maxRecDepth 100000 in
theorem c_count (l : Launch) (hl9 : l.stackTraces = false) (dC : Nat → ClassId) (dI : Nat → Nat → Nat) (cI cZ cJ : ClassId) (a : Nat → Nat) (tx : Nat → Nat) (v : Nat → Int32) (g : Nat → Nat → Int32) (sz : Nat) (n : Nat) (hn : v 5 = nI n) (hn2 : n ≤ 200) (nd : Nat) (hnd : v 4 = nI nd) (hnd2 : nd ≤ 6) (w : Int32) : vx_Met l yX4_count wsX4_count ({ frames := 9, cells := 1, slots := 6, locals := 141 }) (va_Pc [.ref (a 0), .int w] (fun U => U.heap.size = sz ∧ va_P (dC, dI) clA (wA cI cZ a v g) U.heap ∧ va_K (dC, dI) clA (tyA cI cZ cJ) U ∧ va_D (fun _ => True) (wA cI cZ a v g) ∧ ZX tx (va_A (wA cI cZ a v g) sz) U U.heap)) (va_Qi (fun (r : Int32) (u : StA) => r = totI g n nd w (v 0) (v 1) (v 2) (v 3) ∧ (inU w 5) ∧ u = (v, g)) (atA dC dI cI cZ cJ a (va_A (wA cI cZ a v g) sz)) (va_A (wA cI cZ a v g) sz)) (vx_X (fun E : String => thr E "java/lang/IllegalArgumentException" (¬ inU w 5) "" (False) "" (False)) (fun E1 E t => E1 = E ∧ atA dC dI cI cZ cJ a (va_A (wA cI cZ a v g) sz) (v, g) t) (va_A (wA cI cZ a v g) sz)) 1 6 (va_A (wA cI cZ a v g) sz) := by
  refine vx_ofW (cc := cX4_count) (maxL := 2) (ret := (some .int)) (by decide) rfl ?_
  intro p e s m args below meth c s₁ B hml hEx hv
  obtain ⟨rfl, hsz, hP, hK, hD0, hZ⟩ := hv
  have hx := B.exec
  have hb := B.bytes
  have hr := B.returns
  have hts := atoms_spec (ws := wsX4_count) B.pre
  have hown : s.vm.findClass RX4 = some m.cls := findClass_of_methodNamed B.named
  have hlocks := B.notSynchronized
  subst hsz
  have hD := hD0.self (sz := s.heap.size)
  generalize hAe : va_A (wA cI cZ a v g) s.heap.size = A at hD hZ ⊢
  have hA : ∀ q : Nat, s.heap.size ≤ q → A q := fun q h => by rw [← hAe]; exact Or.inr h
  have hS : va_S A s.heap s.heap [] := va_S.rf
  have hP : va_P (dC, dI) clA (wA cI cZ a v g) s.heap := hP
  have hl := lv_entry ([.ref (a 0), .int w]) (n := 2) (Nat.le_of_ble_eq_true rfl)
  rw [lg_entry_eq]
  generalize (lg_sl ([.ref (a 0), .int w]) ++ List.replicate (2 - (lg_sl ([.ref (a 0), .int w])).length) Slot.unset).toArray = ls at hl ⊢
  have hl : lv_has ls 2 [(0, .ref (a 0)), (1, .int w)] := hl
  refine lv_iload_n hx hb dX4_count_0 rfl (lv_at hl 1 rfl) ?_
  refine lv_iconst (v := 5) hx hb dX4_count_1 (by decide) ?_
  have hFc := va_free (wc := (wA cI cZ a v g)) hD hS hA [0, 1, 2, 3, 4, 5, 6, 7, 8, 9, 10, 11, 12, 13, 14, 15, 16, 17, 18, 19] rfl
  refine vx_callv (vx_runS (As := [.int w, .int 5]) (rest := []) ⟨hx, hb, hml, hown, hts⟩ (c_refU l hl9 dC dI cI cZ cJ a tx v g s.heap.size w 5) (cwS 2 hts (gd_S ml_X4_X4_refuseUnknown sm_X4_refuseUnknown in_X4 kX4_refuseUnknown) rfl rfl rfl (by decide +kernel) ⟨Nat.le_of_ble_eq_true rfl, Nat.le_of_ble_eq_true rfl⟩) ⟨fun _ U g mk q => by obtain ⟨q0, q1, qP, qK, qD, qZ⟩ := q; exact ⟨q0, q1, qP, va_K.moved (u := U) (U := U.calling g mk _) (Vm.Alike.refl U.vm) qK, qD, ZX.calling qZ⟩, fun U hU hW => ⟨rfl, by rw [hU], by rw [hU]; exact hP, va_K.moved hW.alike hK, hD.weaken (fun _ _ _ _ => trivial), ZX.call hZ hS hFc hW hU⟩⟩ rfl rfl hl.1 rfl (lv_room (Nat.le_of_ble_eq_true rfl)) dX4_count_2 ⟨Nat.le_of_ble_eq_true rfl, Nat.le_of_ble_eq_true rfl⟩) hS (fun q _ h => hFc q h) hFc (fun q _ h => hFc q h) (fun E2 ce q9 u9 t9 H1 locs ht hvm hp hB hz1 hk1 hS hcell hcv hcl => ?_) (fun u9 t9 H1 locs ht hvm hw hB hz1 hk1 hS => ?_)
  · obtain ⟨rfl, hP1, hK1, hD1⟩ := hB
    rw [ht] at hP1
    have hD := hD1.weaken (fun k q _ h => hFc q.1 h)
    exact vx_out (fun x h => (hEx x h).elim) hlocks hcell hcv hcl (fun t8 ht2 hal => ⟨_, (by simp [thr, hp.1, hp.2, ]), ⟨rfl, by rw [ht2]; exact hP1, va_K.moved hal hK, hD⟩, hS.F ht2⟩) hS.2.2 (by decide) (by decide)
  · obtain ⟨ok2, rfl⟩ := hw
    obtain ⟨hP, hK1, hD1⟩ := hB
    rw [ht] at hP
    have hD := hD1.weaken (fun k q _ h => hFc q.1 h)
    clear hFc hk1 hD1 hK1
    generalize H1 = H at hP hS ⊢
    have hP : va_P (dC, dI) clA (wA cI cZ a v g) H := hP
    have hD : va_D A (wA cI cZ a v g) := hD
    refine lv_aload_n hx hb dX4_count_5 rfl (lv_at hl 0 rfl) ?_
    refine lv_iload_n hx hb dX4_count_6 rfl (lv_at hl 1 rfl) ?_
    refine lv_aload_n hx hb dX4_count_7 rfl (lv_at hl 0 rfl) ?_
    refine va_get (D := (dC, dI)) (ci := 4) (v := .int (v 0)) (C := RX4) (T := TX4) (N := 9) hx hb hts (fun w h => List.mem_cons_of_mem _ (iw_X4 w h)) hown hK hP 0 rfl rfl 5 (by decide) (hts _ (List.mem_cons_of_mem _ fl_X4_askedFrom)) (fun _ h9 => h9) rfl dX4_count_8 ?_
    refine lv_aload_n hx hb dX4_count_11 rfl (lv_at hl 0 rfl) ?_
    refine va_get (D := (dC, dI)) (ci := 4) (v := .int (v 1)) (C := RX4) (T := TX4) (N := 9) hx hb hts (fun w h => List.mem_cons_of_mem _ (iw_X4 w h)) hown hK hP 0 rfl rfl 6 (by decide) (hts _ (List.mem_cons_of_mem _ fl_X4_askedTo)) (fun _ h9 => h9) rfl dX4_count_12 ?_
    refine vp_callSi (W.runV (As := [.int w, .int (v 0), .int (v 1)]) (rest := []) ⟨hx, hb, hml, hown, hts⟩ (c_askedTotal l dC dI cI cZ cJ a v g n hn hn2 nd hnd hnd2 w (v 0) (v 1)) (cwV 3 hts (gd_V ml_X4_X4_askedTotal im_X4_askedTotal se_X4_askedTotal in_X4 kX4_askedTotal) rfl rfl rfl (by decide +kernel) ⟨Nat.le_of_ble_eq_true rfl, Nat.le_of_ble_eq_true rfl⟩) ⟨fun _ U g mk q => by obtain ⟨q0, qP, qK⟩ := q; exact ⟨q0, qP, va_K.moved (u := U) (U := U.calling g mk _) (Vm.Alike.refl U.vm) qK⟩, va_recv hK hP (ci := 4) (q0 := 0) rfl rfl, fun U hU hW => ⟨rfl, by rw [hU]; exact hP, va_K.moved hW.alike hK⟩⟩ rfl rfl hl.1 rfl (lv_room (Nat.le_of_ble_eq_true rfl)) dX4_count_15 ⟨Nat.le_of_ble_eq_true rfl, Nat.le_of_ble_eq_true rfl⟩) (fun r15 hr15 => ?_)
    subst hr15
    exact vx_ret (W.iret (v := totI g n nd w (v 0) (v 1) (v 2) (v 3)) hx hb hr (fun t9 ht hW => ⟨⟨_, (v, g), rfl, ⟨rfl, ok2, rfl⟩, ⟨by rw [ht]; exact hP, va_K.moved hW.alike hK, hD⟩⟩, hS.F ht⟩) hS.2.2 dX4_count_18)
set_option maxHeartbeats 4000000 in
set_option maxRecDepth 100000 in
theorem c_hour (l : Launch) (hl9 : l.stackTraces = false) (dC : Nat → ClassId) (dI : Nat → Nat → Nat) (cI cZ cJ : ClassId) (a : Nat → Nat) (tx : Nat → Nat) (v : Nat → Int32) (g : Nat → Nat → Int32) (sz : Nat) (n : Nat) (hn : v 5 = nI n) (hn2 : n ≤ 200) (ho : Int32) : vx_Met l yX4_hour wsX4_hour ({ frames := 9, cells := 1, slots := 6, locals := 142 }) (va_Pc [.ref (a 0), .int ho] (fun U => U.heap.size = sz ∧ va_P (dC, dI) clA (wA cI cZ a v g) U.heap ∧ va_K (dC, dI) clA (tyA cI cZ cJ) U ∧ va_D (fun _ => True) (wA cI cZ a v g) ∧ ZX tx (va_A (wA cI cZ a v g) sz) U U.heap)) (va_Qi (fun (r : Int32) (u : StA) => r = cnt (fun i => askB g i (v 0) (v 1) (v 2) (v 3) && decide (g 4 i = ho)) n ∧ (inR ho 0 23) ∧ u = (v, g)) (atA dC dI cI cZ cJ a (va_A (wA cI cZ a v g) sz)) (va_A (wA cI cZ a v g) sz)) (vx_X (fun E : String => thr E "java/lang/IndexOutOfBoundsException" (¬ inR ho 0 23) "" (False) "" (False)) (fun E1 E t => E1 = E ∧ atA dC dI cI cZ cJ a (va_A (wA cI cZ a v g) sz) (v, g) t) (va_A (wA cI cZ a v g) sz)) 1 6 (va_A (wA cI cZ a v g) sz) := by
  refine vx_ofW (cc := cX4_hour) (maxL := 2) (ret := (some .int)) (by decide) rfl ?_
  intro p e s m args below meth c s₁ B hml hEx hv
  obtain ⟨rfl, hsz, hP, hK, hD0, hZ⟩ := hv
  have hx := B.exec
  have hb := B.bytes
  have hr := B.returns
  have hts := atoms_spec (ws := wsX4_hour) B.pre
  have hown : s.vm.findClass RX4 = some m.cls := findClass_of_methodNamed B.named
  have hlocks := B.notSynchronized
  subst hsz
  have hD := hD0.self (sz := s.heap.size)
  generalize hAe : va_A (wA cI cZ a v g) s.heap.size = A at hD hZ ⊢
  have hA : ∀ q : Nat, s.heap.size ≤ q → A q := fun q h => by rw [← hAe]; exact Or.inr h
  have hS : va_S A s.heap s.heap [] := va_S.rf
  have hP : va_P (dC, dI) clA (wA cI cZ a v g) s.heap := hP
  have hl := lv_entry ([.ref (a 0), .int ho]) (n := 2) (Nat.le_of_ble_eq_true rfl)
  rw [lg_entry_eq]
  generalize (lg_sl ([.ref (a 0), .int ho]) ++ List.replicate (2 - (lg_sl ([.ref (a 0), .int ho])).length) Slot.unset).toArray = ls at hl ⊢
  have hl : lv_has ls 2 [(0, .ref (a 0)), (1, .int ho)] := hl
  refine lv_iload_n hx hb dX4_hour_0 rfl (lv_at hl 1 rfl) ?_
  refine lv_iconst (v := 0) hx hb dX4_hour_1 (by decide) ?_
  refine lv_bipush (v := 23) hx hb dX4_hour_2 (by decide) ?_
  have hFc := va_free (wc := (wA cI cZ a v g)) hD hS hA [0, 1, 2, 3, 4, 5, 6, 7, 8, 9, 10, 11, 12, 13, 14, 15, 16, 17, 18, 19] rfl
  refine vx_callv (vx_runS (As := [.int ho, .int 0, .int 23]) (rest := []) ⟨hx, hb, hml, hown, hts⟩ (c_refO l hl9 dC dI cI cZ cJ a tx v g s.heap.size ho 0 23) (cwS 3 hts (gd_S ml_X4_X4_refuseOutside sm_X4_refuseOutside in_X4 kX4_refuseOutside) rfl rfl rfl (by decide +kernel) ⟨Nat.le_of_ble_eq_true rfl, Nat.le_of_ble_eq_true rfl⟩) ⟨fun _ U g mk q => by obtain ⟨q0, q1, qP, qK, qD, qZ⟩ := q; exact ⟨q0, q1, qP, va_K.moved (u := U) (U := U.calling g mk _) (Vm.Alike.refl U.vm) qK, qD, ZX.calling qZ⟩, fun U hU hW => ⟨rfl, by rw [hU], by rw [hU]; exact hP, va_K.moved hW.alike hK, hD.weaken (fun _ _ _ _ => trivial), ZX.call hZ hS hFc hW hU⟩⟩ rfl rfl hl.1 rfl (lv_room (Nat.le_of_ble_eq_true rfl)) dX4_hour_4 ⟨Nat.le_of_ble_eq_true rfl, Nat.le_of_ble_eq_true rfl⟩) hS (fun q _ h => hFc q h) hFc (fun q _ h => hFc q h) (fun E4 ce q9 u9 t9 H1 locs ht hvm hp hB hz1 hk1 hS hcell hcv hcl => ?_) (fun u9 t9 H1 locs ht hvm hw hB hz1 hk1 hS => ?_)
  · obtain ⟨rfl, hP1, hK1, hD1⟩ := hB
    rw [ht] at hP1
    have hD := hD1.weaken (fun k q _ h => hFc q.1 h)
    exact vx_out (fun x h => (hEx x h).elim) hlocks hcell hcv hcl (fun t8 ht2 hal => ⟨_, (by simp [thr, hp.1, hp.2, ]), ⟨rfl, by rw [ht2]; exact hP1, va_K.moved hal hK, hD⟩, hS.F ht2⟩) hS.2.2 (by decide) (by decide)
  · obtain ⟨ok4, rfl⟩ := hw
    obtain ⟨hP, hK1, hD1⟩ := hB
    rw [ht] at hP
    have hD := hD1.weaken (fun k q _ h => hFc q.1 h)
    clear hFc hk1 hD1 hK1
    generalize H1 = H at hP hS ⊢
    have hP : va_P (dC, dI) clA (wA cI cZ a v g) H := hP
    have hD : va_D A (wA cI cZ a v g) := hD
    refine lv_aload_n hx hb dX4_hour_7 rfl (lv_at hl 0 rfl) ?_
    refine va_get (D := (dC, dI)) (ci := 4) (v := .ref (a 5)) (C := RX4) (T := TX4) (N := 9) hx hb hts (fun w h => List.mem_cons_of_mem _ (iw_X4 w h)) hown hK hP 0 rfl rfl 1 (by decide) (hts _ (List.mem_cons_of_mem _ fl_X4_incidents)) (fun _ h9 => h9) rfl dX4_hour_8 ?_
    refine lv_iload_n hx hb dX4_hour_11 rfl (lv_at hl 1 rfl) ?_
    refine lv_aload_n hx hb dX4_hour_12 rfl (lv_at hl 0 rfl) ?_
    refine va_get (D := (dC, dI)) (ci := 4) (v := .int (v 0)) (C := RX4) (T := TX4) (N := 9) hx hb hts (fun w h => List.mem_cons_of_mem _ (iw_X4 w h)) hown hK hP 0 rfl rfl 5 (by decide) (hts _ (List.mem_cons_of_mem _ fl_X4_askedFrom)) (fun _ h9 => h9) rfl dX4_hour_13 ?_
    refine lv_aload_n hx hb dX4_hour_16 rfl (lv_at hl 0 rfl) ?_
    refine va_get (D := (dC, dI)) (ci := 4) (v := .int (v 1)) (C := RX4) (T := TX4) (N := 9) hx hb hts (fun w h => List.mem_cons_of_mem _ (iw_X4 w h)) hown hK hP 0 rfl rfl 6 (by decide) (hts _ (List.mem_cons_of_mem _ fl_X4_askedTo)) (fun _ h9 => h9) rfl dX4_hour_17 ?_
    refine lv_aload_n hx hb dX4_hour_20 rfl (lv_at hl 0 rfl) ?_
    refine va_get (D := (dC, dI)) (ci := 4) (v := .int (v 2)) (C := RX4) (T := TX4) (N := 9) hx hb hts (fun w h => List.mem_cons_of_mem _ (iw_X4 w h)) hown hK hP 0 rfl rfl 7 (by decide) (hts _ (List.mem_cons_of_mem _ fl_X4_askedKind)) (fun _ h9 => h9) rfl dX4_hour_21 ?_
    refine lv_aload_n hx hb dX4_hour_24 rfl (lv_at hl 0 rfl) ?_
    refine va_get (D := (dC, dI)) (ci := 4) (v := .int (v 3)) (C := RX4) (T := TX4) (N := 9) hx hb hts (fun w h => List.mem_cons_of_mem _ (iw_X4 w h)) hown hK hP 0 rfl rfl 8 (by decide) (hts _ (List.mem_cons_of_mem _ fl_X4_askedArea)) (fun _ h9 => h9) rfl dX4_hour_25 ?_
    refine vp_callSi (W.runV (As := [.int ho, .int (v 0), .int (v 1), .int (v 2), .int (v 3)]) (rest := []) ⟨hx, hb, hml, hown, hts⟩ (c_inHour l dC dI cI cZ cJ a v g n hn hn2 ho (v 0) (v 1) (v 2) (v 3)) (cwV 5 hts (gd_V ml_X4_X1_inHour im_X1_inHour se_X1_inHour in_X1 kX1_inHour) rfl rfl rfl (by decide +kernel) ⟨Nat.le_of_ble_eq_true rfl, Nat.le_of_ble_eq_true rfl⟩) ⟨fun _ U g mk q => by obtain ⟨q0, qP, qK⟩ := q; exact ⟨q0, qP, va_K.moved (u := U) (U := U.calling g mk _) (Vm.Alike.refl U.vm) qK⟩, va_recv hK hP (ci := 1) (q0 := 5) rfl rfl, fun U hU hW => ⟨rfl, by rw [hU]; exact hP, va_K.moved hW.alike hK⟩⟩ rfl rfl hl.1 rfl (lv_room (Nat.le_of_ble_eq_true rfl)) dX4_hour_28 ⟨Nat.le_of_ble_eq_true rfl, Nat.le_of_ble_eq_true rfl⟩) (fun r28 hr28 => ?_)
    subst hr28
    exact vx_ret (W.iret (v := cnt (fun i => askB g i (v 0) (v 1) (v 2) (v 3) && decide (g 4 i = ho)) n) hx hb hr (fun t9 ht hW => ⟨⟨_, (v, g), rfl, ⟨rfl, ok4, rfl⟩, ⟨by rw [ht]; exact hP, va_K.moved hW.alike hK, hD⟩⟩, hS.F ht⟩) hS.2.2 dX4_hour_31)
set_option maxHeartbeats 4000000 in
set_option maxRecDepth 100000 in
theorem c_share (l : Launch) (hl9 : l.stackTraces = false) (dC : Nat → ClassId) (dI : Nat → Nat → Nat) (cI cZ cJ : ClassId) (a : Nat → Nat) (tx : Nat → Nat) (v : Nat → Int32) (g : Nat → Nat → Int32) (sz : Nat) (n : Nat) (hn : v 5 = nI n) (hn2 : n ≤ 200) (nd : Nat) (hnd : v 4 = nI nd) (hnd2 : nd ≤ 6) (w : Int32) : vx_Met l yX4_share wsX4_share ({ frames := 9, cells := 2, slots := 12, locals := 161 }) (va_Pc [.ref (a 0), .int w] (fun U => U.heap.size = sz ∧ va_P (dC, dI) clA (wA cI cZ a v g) U.heap ∧ va_K (dC, dI) clA (tyA cI cZ cJ) U ∧ va_D (fun _ => True) (wA cI cZ a v g) ∧ ZX tx (va_A (wA cI cZ a v g) sz) U U.heap)) (va_Qi (fun (r : Int32) (u : StA) => r = lowT (if w = 0 then totI g n nd 2 (v 0) (v 1) (v 2) (v 3) else totI g n nd 0 (v 0) (v 1) (v 2) (v 3) - totI g n nd 3 (v 0) (v 1) (v 2) (v 3)) (totI g n nd 2 (v 0) (v 1) (v 2) (v 3)) (totI g n nd 0 (v 0) (v 1) (v 2) (v 3) - totI g n nd 3 (v 0) (v 1) (v 2) (v 3)) ∧ (inU w 2 ∧ 0 < totI g n nd 0 (v 0) (v 1) (v 2) (v 3) - totI g n nd 3 (v 0) (v 1) (v 2) (v 3)) ∧ u = (v, g)) (atA dC dI cI cZ cJ a (va_A (wA cI cZ a v g) sz)) (va_A (wA cI cZ a v g) sz)) (vx_X (fun E : String => thr E "java/lang/IllegalArgumentException" (¬ inU w 2) "java/lang/ArithmeticException" (¬ 0 < totI g n nd 0 (v 0) (v 1) (v 2) (v 3) - totI g n nd 3 (v 0) (v 1) (v 2) (v 3)) "" (False)) (fun E1 E t => E1 = E ∧ atA dC dI cI cZ cJ a (va_A (wA cI cZ a v g) sz) (v, g) t) (va_A (wA cI cZ a v g) sz)) 2 12 (va_A (wA cI cZ a v g) sz) := by
  refine vx_ofW (cc := cX4_share) (maxL := 4) (ret := (some .int)) (by decide) rfl ?_
  intro p e s m args below meth c s₁ B hml hEx hv
  obtain ⟨rfl, hsz, hP, hK, hD0, hZ⟩ := hv
  have hx := B.exec
  have hb := B.bytes
  have hr := B.returns
  have hts := atoms_spec (ws := wsX4_share) B.pre
  have hown : s.vm.findClass RX4 = some m.cls := findClass_of_methodNamed B.named
  have hlocks := B.notSynchronized
  subst hsz
  have hD := hD0.self (sz := s.heap.size)
  generalize hAe : va_A (wA cI cZ a v g) s.heap.size = A at hD hZ ⊢
  have hA : ∀ q : Nat, s.heap.size ≤ q → A q := fun q h => by rw [← hAe]; exact Or.inr h
  have hS : va_S A s.heap s.heap [] := va_S.rf
  have hP : va_P (dC, dI) clA (wA cI cZ a v g) s.heap := hP
  have hl := lv_entry ([.ref (a 0), .int w]) (n := 4) (Nat.le_of_ble_eq_true rfl)
  rw [lg_entry_eq]
  generalize (lg_sl ([.ref (a 0), .int w]) ++ List.replicate (4 - (lg_sl ([.ref (a 0), .int w])).length) Slot.unset).toArray = ls at hl ⊢
  have hl : lv_has ls 4 [(0, .ref (a 0)), (1, .int w)] := hl
  refine lv_iload_n hx hb dX4_share_0 rfl (lv_at hl 1 rfl) ?_
  refine lv_iconst (v := 2) hx hb dX4_share_1 (by decide) ?_
  have hFc := va_free (wc := (wA cI cZ a v g)) hD hS hA [0, 1, 2, 3, 4, 5, 6, 7, 8, 9, 10, 11, 12, 13, 14, 15, 16, 17, 18, 19] rfl
  refine vx_callv (vx_runS (As := [.int w, .int 2]) (rest := []) ⟨hx, hb, hml, hown, hts⟩ (c_refU l hl9 dC dI cI cZ cJ a tx v g s.heap.size w 2) (cwS 2 hts (gd_S ml_X4_X4_refuseUnknown sm_X4_refuseUnknown in_X4 kX4_refuseUnknown) rfl rfl rfl (by decide +kernel) ⟨Nat.le_of_ble_eq_true rfl, Nat.le_of_ble_eq_true rfl⟩) ⟨fun _ U g mk q => by obtain ⟨q0, q1, qP, qK, qD, qZ⟩ := q; exact ⟨q0, q1, qP, va_K.moved (u := U) (U := U.calling g mk _) (Vm.Alike.refl U.vm) qK, qD, ZX.calling qZ⟩, fun U hU hW => ⟨rfl, by rw [hU], by rw [hU]; exact hP, va_K.moved hW.alike hK, hD.weaken (fun _ _ _ _ => trivial), ZX.call hZ hS hFc hW hU⟩⟩ rfl rfl hl.1 rfl (lv_room (Nat.le_of_ble_eq_true rfl)) dX4_share_2 ⟨Nat.le_of_ble_eq_true rfl, Nat.le_of_ble_eq_true rfl⟩) hS (fun q _ h => hFc q h) hFc (fun q _ h => hFc q h) (fun E2 ce q9 u9 t9 H1 locs ht hvm hp hB hz1 hk1 hS hcell hcv hcl => ?_) (fun u9 t9 H1 locs ht hvm hw hB hz1 hk1 hS => ?_)
  · obtain ⟨rfl, hP1, hK1, hD1⟩ := hB
    rw [ht] at hP1
    have hD := hD1.weaken (fun k q _ h => hFc q.1 h)
    exact vx_out (fun x h => (hEx x h).elim) hlocks hcell hcv hcl (fun t8 ht2 hal => ⟨_, (by simp [thr, hp.1, hp.2, ]), ⟨rfl, by rw [ht2]; exact hP1, va_K.moved hal hK, hD⟩, hS.F ht2⟩) hS.2.2 (by decide) (by decide)
  · obtain ⟨ok2, rfl⟩ := hw
    obtain ⟨hP, hK1, hD1⟩ := hB
    rw [ht] at hP
    have hD := hD1.weaken (fun k q _ h => hFc q.1 h)
    clear hFc hk1 hD1 hK1
    generalize H1 = H at hP hS ⊢
    have hP : va_P (dC, dI) clA (wA cI cZ a v g) H := hP
    have hD : va_D A (wA cI cZ a v g) := hD
    refine lv_aload_n hx hb dX4_share_5 rfl (lv_at hl 0 rfl) ?_
    refine lv_aload_n hx hb dX4_share_6 rfl (lv_at hl 0 rfl) ?_
    refine va_get (D := (dC, dI)) (ci := 4) (v := .int (v 0)) (C := RX4) (T := TX4) (N := 9) hx hb hts (fun w h => List.mem_cons_of_mem _ (iw_X4 w h)) hown hK hP 0 rfl rfl 5 (by decide) (hts _ (List.mem_cons_of_mem _ fl_X4_askedFrom)) (fun _ h9 => h9) rfl dX4_share_7 ?_
    refine lv_aload_n hx hb dX4_share_10 rfl (lv_at hl 0 rfl) ?_
    refine va_get (D := (dC, dI)) (ci := 4) (v := .int (v 1)) (C := RX4) (T := TX4) (N := 9) hx hb hts (fun w h => List.mem_cons_of_mem _ (iw_X4 w h)) hown hK hP 0 rfl rfl 6 (by decide) (hts _ (List.mem_cons_of_mem _ fl_X4_askedTo)) (fun _ h9 => h9) rfl dX4_share_11 ?_
    refine vp_callSi (W.runV (As := [.int (v 0), .int (v 1)]) (rest := []) ⟨hx, hb, hml, hown, hts⟩ (c_rowsWithin l dC dI cI cZ cJ a v g n hn hn2 nd hnd hnd2 (v 0) (v 1)) (cwV 2 hts (gd_V ml_X4_X4_rowsWithin im_X4_rowsWithin se_X4_rowsWithin in_X4 kX4_rowsWithin) rfl rfl rfl (by decide +kernel) ⟨Nat.le_of_ble_eq_true rfl, Nat.le_of_ble_eq_true rfl⟩) ⟨fun _ U g mk q => by obtain ⟨q0, qP, qK⟩ := q; exact ⟨q0, qP, va_K.moved (u := U) (U := U.calling g mk _) (Vm.Alike.refl U.vm) qK⟩, va_recv hK hP (ci := 4) (q0 := 0) rfl rfl, fun U hU hW => ⟨rfl, by rw [hU]; exact hP, va_K.moved hW.alike hK⟩⟩ rfl rfl hl.1 rfl (lv_room (Nat.le_of_ble_eq_true rfl)) dX4_share_14 ⟨Nat.le_of_ble_eq_true rfl, Nat.le_of_ble_eq_true rfl⟩) (fun r14 hr14 => ?_)
    subst hr14
    refine lv_istore_n (lv' := [(2, .int (totI g n nd 2 (v 0) (v 1) (v 2) (v 3))), (0, .ref (a 0)), (1, .int w)]) hx hb dX4_share_17 rfl hl (by decide) rfl (fun ls hl => ?_)
    refine lv_aload_n hx hb dX4_share_18 rfl (lv_at hl 1 rfl) ?_
    refine lv_aload_n hx hb dX4_share_19 rfl (lv_at hl 1 rfl) ?_
    refine va_get (D := (dC, dI)) (ci := 4) (v := .int (v 0)) (C := RX4) (T := TX4) (N := 9) hx hb hts (fun w h => List.mem_cons_of_mem _ (iw_X4 w h)) hown hK hP 0 rfl rfl 5 (by decide) (hts _ (List.mem_cons_of_mem _ fl_X4_askedFrom)) (fun _ h9 => h9) rfl dX4_share_20 ?_
    refine lv_aload_n hx hb dX4_share_23 rfl (lv_at hl 1 rfl) ?_
    refine va_get (D := (dC, dI)) (ci := 4) (v := .int (v 1)) (C := RX4) (T := TX4) (N := 9) hx hb hts (fun w h => List.mem_cons_of_mem _ (iw_X4 w h)) hown hK hP 0 rfl rfl 6 (by decide) (hts _ (List.mem_cons_of_mem _ fl_X4_askedTo)) (fun _ h9 => h9) rfl dX4_share_24 ?_
    refine vp_callSi (W.runV (As := [.int (v 0), .int (v 1)]) (rest := []) ⟨hx, hb, hml, hown, hts⟩ (c_rowsNot l dC dI cI cZ cJ a v g n hn hn2 nd hnd hnd2 (v 0) (v 1)) (cwV 2 hts (gd_V ml_X4_X4_rowsNotWithout im_X4_rowsNotWithout se_X4_rowsNotWithout in_X4 kX4_rowsNotWithout) rfl rfl rfl (by decide +kernel) ⟨Nat.le_of_ble_eq_true rfl, Nat.le_of_ble_eq_true rfl⟩) ⟨fun _ U g mk q => by obtain ⟨q0, qP, qK⟩ := q; exact ⟨q0, qP, va_K.moved (u := U) (U := U.calling g mk _) (Vm.Alike.refl U.vm) qK⟩, va_recv hK hP (ci := 4) (q0 := 0) rfl rfl, fun U hU hW => ⟨rfl, by rw [hU]; exact hP, va_K.moved hW.alike hK⟩⟩ rfl rfl hl.1 rfl (lv_room (Nat.le_of_ble_eq_true rfl)) dX4_share_27 ⟨Nat.le_of_ble_eq_true rfl, Nat.le_of_ble_eq_true rfl⟩) (fun r27 hr27 => ?_)
    subst hr27
    refine lv_istore_n (lv' := [(3, .int (totI g n nd 0 (v 0) (v 1) (v 2) (v 3) - totI g n nd 3 (v 0) (v 1) (v 2) (v 3))), (2, .int (totI g n nd 2 (v 0) (v 1) (v 2) (v 3))), (0, .ref (a 0)), (1, .int w)]) hx hb dX4_share_30 rfl hl (by decide) rfl (fun ls hl => ?_)
    refine lv_iload_n hx hb dX4_share_31 rfl (lv_at hl 0 rfl) ?_
    have hFc := va_free (wc := (wA cI cZ a v g)) hD hS hA [0, 1, 2, 3, 4, 5, 6, 7, 8, 9, 10, 11, 12, 13, 14, 15, 16, 17, 18, 19] rfl
    refine vx_callv (vx_runS (As := [.int (totI g n nd 0 (v 0) (v 1) (v 2) (v 3) - totI g n nd 3 (v 0) (v 1) (v 2) (v 3))]) (rest := []) ⟨hx, hb, hml, hown, hts⟩ (c_refN l hl9 dC dI cI cZ cJ a tx v g H.size (totI g n nd 0 (v 0) (v 1) (v 2) (v 3) - totI g n nd 3 (v 0) (v 1) (v 2) (v 3))) (cwS 1 hts (gd_S ml_X4_X4_refuseNoShare sm_X4_refuseNoShare in_X4 kX4_refuseNoShare) rfl rfl rfl (by decide +kernel) ⟨Nat.le_of_ble_eq_true rfl, Nat.le_of_ble_eq_true rfl⟩) ⟨fun _ U g mk q => by obtain ⟨q0, q1, qP, qK, qD, qZ⟩ := q; exact ⟨q0, q1, qP, va_K.moved (u := U) (U := U.calling g mk _) (Vm.Alike.refl U.vm) qK, qD, ZX.calling qZ⟩, fun U hU hW => ⟨rfl, by rw [hU], by rw [hU]; exact hP, va_K.moved hW.alike hK, hD.weaken (fun _ _ _ _ => trivial), ZX.call hZ hS hFc hW hU⟩⟩ rfl rfl hl.1 rfl (lv_room (Nat.le_of_ble_eq_true rfl)) dX4_share_32 ⟨Nat.le_of_ble_eq_true rfl, Nat.le_of_ble_eq_true rfl⟩) hS (fun q _ h => hFc q h) hFc (fun q _ h => hFc q h) (fun E32 ce q9 u9 t9 H1 locs ht hvm hp hB hz1 hk1 hS hcell hcv hcl => ?_) (fun u9 t9 H1 locs ht hvm hw hB hz1 hk1 hS => ?_)
    · obtain ⟨rfl, hP1, hK1, hD1⟩ := hB
      rw [ht] at hP1
      have hD := hD1.weaken (fun k q _ h => hFc q.1 h)
      exact vx_out (fun x h => (hEx x h).elim) hlocks hcell hcv hcl (fun t8 ht2 hal => ⟨_, (by simp [thr, hp.1, hp.2, ok2]), ⟨rfl, by rw [ht2]; exact hP1, va_K.moved hal hK, hD⟩, hS.F ht2⟩) hS.2.2 (by decide) (by decide)
    · obtain ⟨ok32, rfl⟩ := hw
      obtain ⟨hP, hK1, hD1⟩ := hB
      rw [ht] at hP
      have hD := hD1.weaken (fun k q _ h => hFc q.1 h)
      clear hFc hk1 hD1 hK1
      generalize H1 = H at hP hS ⊢
      have hP : va_P (dC, dI) clA (wA cI cZ a v g) H := hP
      have hD : va_D A (wA cI cZ a v g) := hD
      refine lv_iload_n hx hb dX4_share_35 rfl (lv_at hl 3 rfl) ?_
      refine lv_if_ne (tgt := 43) hx hb dX4_share_36 (by decide) (fun c36 => ?_) (fun c36 => ?_)
      · refine lv_iload_n hx hb dX4_share_43 rfl (lv_at hl 0 rfl) ?_
        refine lv_iload_n hx hb dX4_share_44 rfl (lv_at hl 1 rfl) ?_
        refine lv_iload_n hx hb dX4_share_45 rfl (lv_at hl 0 rfl) ?_
        refine vp_callSi (W.runS (As := [.int (totI g n nd 0 (v 0) (v 1) (v 2) (v 3) - totI g n nd 3 (v 0) (v 1) (v 2) (v 3)), .int (totI g n nd 2 (v 0) (v 1) (v 2) (v 3)), .int (totI g n nd 0 (v 0) (v 1) (v 2) (v 3) - totI g n nd 3 (v 0) (v 1) (v 2) (v 3))]) (rest := []) ⟨hx, hb, hml, hown, hts⟩ (c_lowest l dC dI cI cZ cJ a v g (totI g n nd 0 (v 0) (v 1) (v 2) (v 3) - totI g n nd 3 (v 0) (v 1) (v 2) (v 3)) (totI g n nd 2 (v 0) (v 1) (v 2) (v 3)) (totI g n nd 0 (v 0) (v 1) (v 2) (v 3) - totI g n nd 3 (v 0) (v 1) (v 2) (v 3))) (cwS 3 hts (gd_S ml_X4_X4_inLowestTerms sm_X4_inLowestTerms in_X4 kX4_inLowestTerms) rfl rfl rfl (by decide +kernel) ⟨Nat.le_of_ble_eq_true rfl, Nat.le_of_ble_eq_true rfl⟩) ⟨fun _ U g mk q => by obtain ⟨q0, qP, qK⟩ := q; exact ⟨q0, qP, va_K.moved (u := U) (U := U.calling g mk _) (Vm.Alike.refl U.vm) qK⟩, fun U hU hW => ⟨rfl, by rw [hU]; exact hP, va_K.moved hW.alike hK⟩⟩ rfl rfl hl.1 rfl (lv_room (Nat.le_of_ble_eq_true rfl)) dX4_share_46 ⟨Nat.le_of_ble_eq_true rfl, Nat.le_of_ble_eq_true rfl⟩) (fun r46 hr46 => ?_)
        subst hr46
        exact vx_ret (W.iret (v := lowT (totI g n nd 0 (v 0) (v 1) (v 2) (v 3) - totI g n nd 3 (v 0) (v 1) (v 2) (v 3)) (totI g n nd 2 (v 0) (v 1) (v 2) (v 3)) (totI g n nd 0 (v 0) (v 1) (v 2) (v 3) - totI g n nd 3 (v 0) (v 1) (v 2) (v 3))) hx hb hr (fun t9 ht hW => ⟨⟨_, (v, g), rfl, ⟨by simp [c36], ⟨ok2, ok32⟩, rfl⟩, ⟨by rw [ht]; exact hP, va_K.moved hW.alike hK, hD⟩⟩, hS.F ht⟩) hS.2.2 dX4_share_49)
      · refine lv_iload_n hx hb dX4_share_39 rfl (lv_at hl 1 rfl) ?_
        refine lv_goto (tgt := 44) hx hb dX4_share_40 (by decide) ?_
        refine lv_iload_n hx hb dX4_share_44 rfl (lv_at hl 1 rfl) ?_
        refine lv_iload_n hx hb dX4_share_45 rfl (lv_at hl 0 rfl) ?_
        refine vp_callSi (W.runS (As := [.int (totI g n nd 2 (v 0) (v 1) (v 2) (v 3)), .int (totI g n nd 2 (v 0) (v 1) (v 2) (v 3)), .int (totI g n nd 0 (v 0) (v 1) (v 2) (v 3) - totI g n nd 3 (v 0) (v 1) (v 2) (v 3))]) (rest := []) ⟨hx, hb, hml, hown, hts⟩ (c_lowest l dC dI cI cZ cJ a v g (totI g n nd 2 (v 0) (v 1) (v 2) (v 3)) (totI g n nd 2 (v 0) (v 1) (v 2) (v 3)) (totI g n nd 0 (v 0) (v 1) (v 2) (v 3) - totI g n nd 3 (v 0) (v 1) (v 2) (v 3))) (cwS 3 hts (gd_S ml_X4_X4_inLowestTerms sm_X4_inLowestTerms in_X4 kX4_inLowestTerms) rfl rfl rfl (by decide +kernel) ⟨Nat.le_of_ble_eq_true rfl, Nat.le_of_ble_eq_true rfl⟩) ⟨fun _ U g mk q => by obtain ⟨q0, qP, qK⟩ := q; exact ⟨q0, qP, va_K.moved (u := U) (U := U.calling g mk _) (Vm.Alike.refl U.vm) qK⟩, fun U hU hW => ⟨rfl, by rw [hU]; exact hP, va_K.moved hW.alike hK⟩⟩ rfl rfl hl.1 rfl (lv_room (Nat.le_of_ble_eq_true rfl)) dX4_share_46 ⟨Nat.le_of_ble_eq_true rfl, Nat.le_of_ble_eq_true rfl⟩) (fun r46 hr46 => ?_)
        subst hr46
        exact vx_ret (W.iret (v := lowT (totI g n nd 2 (v 0) (v 1) (v 2) (v 3)) (totI g n nd 2 (v 0) (v 1) (v 2) (v 3)) (totI g n nd 0 (v 0) (v 1) (v 2) (v 3) - totI g n nd 3 (v 0) (v 1) (v 2) (v 3))) hx hb hr (fun t9 ht hW => ⟨⟨_, (v, g), rfl, ⟨by simp [c36], ⟨ok2, ok32⟩, rfl⟩, ⟨by rw [ht]; exact hP, va_K.moved hW.alike hK, hD⟩⟩, hS.F ht⟩) hS.2.2 dX4_share_49)
set_option maxHeartbeats 4000000 in
set_option maxRecDepth 100000 in
theorem c_placed (l : Launch) (hl9 : l.stackTraces = false) (dC : Nat → ClassId) (dI : Nat → Nat → Nat) (cI cZ cJ : ClassId) (a : Nat → Nat) (tx : Nat → Nat) (v : Nat → Int32) (g : Nat → Nat → Int32) (sz : Nat) (n : Nat) (hn : v 5 = nI n) (hn2 : n ≤ 200) (pp : Int32) : vx_Met l yX4_placed wsX4_placed ({ frames := 9, cells := 1, slots := 6, locals := 142 }) (va_Pc [.ref (a 0), .int pp] (fun U => U.heap.size = sz ∧ va_P (dC, dI) clA (wA cI cZ a v g) U.heap ∧ va_K (dC, dI) clA (tyA cI cZ cJ) U ∧ va_D (fun _ => True) (wA cI cZ a v g) ∧ ZX tx (va_A (wA cI cZ a v g) sz) U U.heap)) (va_Qi (fun (r : Int32) (u : StA) => r = plI (spS g (v 0) (v 1) (v 2) (v 3) n).2 pp (spS g (v 0) (v 1) (v 2) (v 3) n).1 ∧ (inR pp 1 100) ∧ u = (v, (spS g (v 0) (v 1) (v 2) (v 3) n).2)) (atA dC dI cI cZ cJ a (va_A (wA cI cZ a v g) sz)) (va_A (wA cI cZ a v g) sz)) (vx_X (fun E : String => thr E "java/lang/IndexOutOfBoundsException" (¬ inR pp 1 100) "" (False) "" (False)) (fun E1 E t => E1 = E ∧ atA dC dI cI cZ cJ a (va_A (wA cI cZ a v g) sz) (v, g) t) (va_A (wA cI cZ a v g) sz)) 1 6 (va_A (wA cI cZ a v g) sz) := by
  refine vx_ofW (cc := cX4_placed) (maxL := 2) (ret := (some .int)) (by decide) rfl ?_
  intro p e s m args below meth c s₁ B hml hEx hv
  obtain ⟨rfl, hsz, hP, hK, hD0, hZ⟩ := hv
  have hx := B.exec
  have hb := B.bytes
  have hr := B.returns
  have hts := atoms_spec (ws := wsX4_placed) B.pre
  have hown : s.vm.findClass RX4 = some m.cls := findClass_of_methodNamed B.named
  have hlocks := B.notSynchronized
  subst hsz
  have hD := hD0.self (sz := s.heap.size)
  generalize hAe : va_A (wA cI cZ a v g) s.heap.size = A at hD hZ ⊢
  have hA : ∀ q : Nat, s.heap.size ≤ q → A q := fun q h => by rw [← hAe]; exact Or.inr h
  have hS : va_S A s.heap s.heap [] := va_S.rf
  have hP : va_P (dC, dI) clA (wA cI cZ a v g) s.heap := hP
  have hl := lv_entry ([.ref (a 0), .int pp]) (n := 2) (Nat.le_of_ble_eq_true rfl)
  rw [lg_entry_eq]
  generalize (lg_sl ([.ref (a 0), .int pp]) ++ List.replicate (2 - (lg_sl ([.ref (a 0), .int pp])).length) Slot.unset).toArray = ls at hl ⊢
  have hl : lv_has ls 2 [(0, .ref (a 0)), (1, .int pp)] := hl
  refine lv_iload_n hx hb dX4_placed_0 rfl (lv_at hl 1 rfl) ?_
  refine lv_iconst (v := 1) hx hb dX4_placed_1 (by decide) ?_
  refine lv_bipush (v := 100) hx hb dX4_placed_2 (by decide) ?_
  have hFc := va_free (wc := (wA cI cZ a v g)) hD hS hA [0, 1, 2, 3, 4, 5, 6, 7, 8, 9, 10, 11, 12, 13, 14, 15, 16, 17, 18, 19] rfl
  refine vx_callv (vx_runS (As := [.int pp, .int 1, .int 100]) (rest := []) ⟨hx, hb, hml, hown, hts⟩ (c_refO l hl9 dC dI cI cZ cJ a tx v g s.heap.size pp 1 100) (cwS 3 hts (gd_S ml_X4_X4_refuseOutside sm_X4_refuseOutside in_X4 kX4_refuseOutside) rfl rfl rfl (by decide +kernel) ⟨Nat.le_of_ble_eq_true rfl, Nat.le_of_ble_eq_true rfl⟩) ⟨fun _ U g mk q => by obtain ⟨q0, q1, qP, qK, qD, qZ⟩ := q; exact ⟨q0, q1, qP, va_K.moved (u := U) (U := U.calling g mk _) (Vm.Alike.refl U.vm) qK, qD, ZX.calling qZ⟩, fun U hU hW => ⟨rfl, by rw [hU], by rw [hU]; exact hP, va_K.moved hW.alike hK, hD.weaken (fun _ _ _ _ => trivial), ZX.call hZ hS hFc hW hU⟩⟩ rfl rfl hl.1 rfl (lv_room (Nat.le_of_ble_eq_true rfl)) dX4_placed_4 ⟨Nat.le_of_ble_eq_true rfl, Nat.le_of_ble_eq_true rfl⟩) hS (fun q _ h => hFc q h) hFc (fun q _ h => hFc q h) (fun E4 ce q9 u9 t9 H1 locs ht hvm hp hB hz1 hk1 hS hcell hcv hcl => ?_) (fun u9 t9 H1 locs ht hvm hw hB hz1 hk1 hS => ?_)
  · obtain ⟨rfl, hP1, hK1, hD1⟩ := hB
    rw [ht] at hP1
    have hD := hD1.weaken (fun k q _ h => hFc q.1 h)
    exact vx_out (fun x h => (hEx x h).elim) hlocks hcell hcv hcl (fun t8 ht2 hal => ⟨_, (by simp [thr, hp.1, hp.2, ]), ⟨rfl, by rw [ht2]; exact hP1, va_K.moved hal hK, hD⟩, hS.F ht2⟩) hS.2.2 (by decide) (by decide)
  · obtain ⟨ok4, rfl⟩ := hw
    obtain ⟨hP, hK1, hD1⟩ := hB
    rw [ht] at hP
    have hD := hD1.weaken (fun k q _ h => hFc q.1 h)
    clear hFc hk1 hD1 hK1
    generalize H1 = H at hP hS ⊢
    have hP : va_P (dC, dI) clA (wA cI cZ a v g) H := hP
    have hD : va_D A (wA cI cZ a v g) := hD
    refine lv_aload_n hx hb dX4_placed_7 rfl (lv_at hl 0 rfl) ?_
    refine va_get (D := (dC, dI)) (ci := 4) (v := .ref (a 5)) (C := RX4) (T := TX4) (N := 9) hx hb hts (fun w h => List.mem_cons_of_mem _ (iw_X4 w h)) hown hK hP 0 rfl rfl 1 (by decide) (hts _ (List.mem_cons_of_mem _ fl_X4_incidents)) (fun _ h9 => h9) rfl dX4_placed_8 ?_
    refine lv_iload_n hx hb dX4_placed_11 rfl (lv_at hl 1 rfl) ?_
    refine lv_aload_n hx hb dX4_placed_12 rfl (lv_at hl 0 rfl) ?_
    refine va_get (D := (dC, dI)) (ci := 4) (v := .int (v 0)) (C := RX4) (T := TX4) (N := 9) hx hb hts (fun w h => List.mem_cons_of_mem _ (iw_X4 w h)) hown hK hP 0 rfl rfl 5 (by decide) (hts _ (List.mem_cons_of_mem _ fl_X4_askedFrom)) (fun _ h9 => h9) rfl dX4_placed_13 ?_
    refine lv_aload_n hx hb dX4_placed_16 rfl (lv_at hl 0 rfl) ?_
    refine va_get (D := (dC, dI)) (ci := 4) (v := .int (v 1)) (C := RX4) (T := TX4) (N := 9) hx hb hts (fun w h => List.mem_cons_of_mem _ (iw_X4 w h)) hown hK hP 0 rfl rfl 6 (by decide) (hts _ (List.mem_cons_of_mem _ fl_X4_askedTo)) (fun _ h9 => h9) rfl dX4_placed_17 ?_
    refine lv_aload_n hx hb dX4_placed_20 rfl (lv_at hl 0 rfl) ?_
    refine va_get (D := (dC, dI)) (ci := 4) (v := .int (v 2)) (C := RX4) (T := TX4) (N := 9) hx hb hts (fun w h => List.mem_cons_of_mem _ (iw_X4 w h)) hown hK hP 0 rfl rfl 7 (by decide) (hts _ (List.mem_cons_of_mem _ fl_X4_askedKind)) (fun _ h9 => h9) rfl dX4_placed_21 ?_
    refine lv_aload_n hx hb dX4_placed_24 rfl (lv_at hl 0 rfl) ?_
    refine va_get (D := (dC, dI)) (ci := 4) (v := .int (v 3)) (C := RX4) (T := TX4) (N := 9) hx hb hts (fun w h => List.mem_cons_of_mem _ (iw_X4 w h)) hown hK hP 0 rfl rfl 8 (by decide) (hts _ (List.mem_cons_of_mem _ fl_X4_askedArea)) (fun _ h9 => h9) rfl dX4_placed_25 ?_
    have hFc := va_free (wc := (wA cI cZ a v g)) hD hS hA [0, 1, 2, 3, 4, 5, 6, 7, 8, 9, 10, 11, 12, 13, 14, 15, 16, 17, 18, 19] rfl
    refine va_calli (va_runV (As := [.int pp, .int (v 0), .int (v 1), .int (v 2), .int (v 3)]) (rest := []) ⟨hx, hb, hml, hown, hts⟩ (c_sumAt l dC dI cI cZ cJ a v g H.size n hn hn2 pp (v 0) (v 1) (v 2) (v 3)) (cwV 5 hts (gd_V ml_X4_X1_sumAtPlace im_X1_sumAtPlace se_X1_sumAtPlace in_X1 kX1_sumAtPlace) rfl rfl rfl (by decide +kernel) ⟨Nat.le_of_ble_eq_true rfl, Nat.le_of_ble_eq_true rfl⟩) ⟨fun _ U g mk q => by obtain ⟨q0, q1, qP, qK, qD⟩ := q; exact ⟨q0, q1, qP, va_K.moved (u := U) (U := U.calling g mk _) (Vm.Alike.refl U.vm) qK, qD⟩, va_recv hK hP (ci := 1) (q0 := 5) rfl rfl, fun U hU hW => ⟨rfl, by rw [hU], by rw [hU]; exact hP, va_K.moved hW.alike hK, hD.weaken (fun _ _ _ _ => trivial)⟩⟩ rfl rfl hl.1 rfl (lv_room (Nat.le_of_ble_eq_true rfl)) dX4_placed_28 ⟨Nat.le_of_ble_eq_true rfl, Nat.le_of_ble_eq_true rfl⟩) hS (fun q _ h => hFc q h) hFc (fun r28 u9 t9 H1 locs ht hvm hw hB hz1 hk1 hS => ?_)
    obtain ⟨rfl, rfl⟩ := hw
    obtain ⟨hP, hK1, hD1⟩ := hB
    rw [ht] at hP
    have hD := hD1.weaken (fun k q _ h => hFc q.1 h)
    clear hFc hk1 hD1 hK1
    generalize H1 = H at hP hS ⊢
    have hP : va_P (dC, dI) clA (wA cI cZ a v (spS g (v 0) (v 1) (v 2) (v 3) n).2) H := hP
    have hD : va_D A (wA cI cZ a v (spS g (v 0) (v 1) (v 2) (v 3) n).2) := hD
    exact vx_ret (W.iret (v := plI (spS g (v 0) (v 1) (v 2) (v 3) n).2 pp (spS g (v 0) (v 1) (v 2) (v 3) n).1) hx hb hr (fun t9 ht hW => ⟨⟨_, (v, (spS g (v 0) (v 1) (v 2) (v 3) n).2), rfl, ⟨rfl, ok4, rfl⟩, ⟨by rw [ht]; exact hP, va_K.moved hW.alike hK, hD⟩⟩, hS.F ht⟩) hS.2.2 dX4_placed_31)
set_option maxHeartbeats 4000000 in
set_option maxRecDepth 100000 in
theorem c_compare (l : Launch) (hl9 : l.stackTraces = false) (dC : Nat → ClassId) (dI : Nat → Nat → Nat) (cI cZ cJ : ClassId) (a : Nat → Nat) (tx : Nat → Nat) (v : Nat → Int32) (g : Nat → Nat → Int32) (sz : Nat) (n : Nat) (hn : v 5 = nI n) (hn2 : n ≤ 200) (nd : Nat) (hnd : v 4 = nI nd) (hnd2 : nd ≤ 6) (f t : Int32) : vx_Met l yX4_compare wsX4_compare ({ frames := 10, cells := 4, slots := 24, locals := 163 }) (va_Pc [.ref (a 0), .int f, .int t] (fun U => U.heap.size = sz ∧ va_P (dC, dI) clA (wA cI cZ a v g) U.heap ∧ va_K (dC, dI) clA (tyA cI cZ cJ) U ∧ va_D (fun _ => True) (wA cI cZ a v g) ∧ ZX tx (va_A (wA cI cZ a v g) sz) U U.heap)) (va_Qi (fun (r : Int32) (u : StA) => r = icmp (totI g n nd 2 (v 0) (v 1) (v 2) (v 3) * (totI g n nd 0 f t (v 2) (v 3) - totI g n nd 3 f t (v 2) (v 3))) (totI g n nd 2 f t (v 2) (v 3) * (totI g n nd 0 (v 0) (v 1) (v 2) (v 3) - totI g n nd 3 (v 0) (v 1) (v 2) (v 3))) ∧ ((inR f 0 9999 ∧ inR t f 9999) ∧ 0 < totI g n nd 0 (v 0) (v 1) (v 2) (v 3) - totI g n nd 3 (v 0) (v 1) (v 2) (v 3) ∧ 0 < totI g n nd 0 f t (v 2) (v 3) - totI g n nd 3 f t (v 2) (v 3)) ∧ u = (v, g)) (atA dC dI cI cZ cJ a (va_A (wA cI cZ a v g) sz)) (va_A (wA cI cZ a v g) sz)) (vx_X (fun E : String => thr E "java/lang/IndexOutOfBoundsException" (¬ (inR f 0 9999 ∧ inR t f 9999)) "java/lang/ArithmeticException" (¬ 0 < totI g n nd 0 (v 0) (v 1) (v 2) (v 3) - totI g n nd 3 (v 0) (v 1) (v 2) (v 3) ∨ ¬ 0 < totI g n nd 0 f t (v 2) (v 3) - totI g n nd 3 f t (v 2) (v 3)) "" (False)) (fun E1 E t => E1 = E ∧ atA dC dI cI cZ cJ a (va_A (wA cI cZ a v g) sz) (v, g) t) (va_A (wA cI cZ a v g) sz)) 4 24 (va_A (wA cI cZ a v g) sz) := by
  refine vx_ofW (cc := cX4_compare) (maxL := 5) (ret := (some .int)) (by decide) rfl ?_
  intro p e s m args below meth c s₁ B hml hEx hv
  obtain ⟨rfl, hsz, hP, hK, hD0, hZ⟩ := hv
  have hx := B.exec
  have hb := B.bytes
  have hr := B.returns
  have hts := atoms_spec (ws := wsX4_compare) B.pre
  have hown : s.vm.findClass RX4 = some m.cls := findClass_of_methodNamed B.named
  have hlocks := B.notSynchronized
  subst hsz
  have hD := hD0.self (sz := s.heap.size)
  generalize hAe : va_A (wA cI cZ a v g) s.heap.size = A at hD hZ ⊢
  have hA : ∀ q : Nat, s.heap.size ≤ q → A q := fun q h => by rw [← hAe]; exact Or.inr h
  have hS : va_S A s.heap s.heap [] := va_S.rf
  have hP : va_P (dC, dI) clA (wA cI cZ a v g) s.heap := hP
  have hl := lv_entry ([.ref (a 0), .int f, .int t]) (n := 5) (Nat.le_of_ble_eq_true rfl)
  rw [lg_entry_eq]
  generalize (lg_sl ([.ref (a 0), .int f, .int t]) ++ List.replicate (5 - (lg_sl ([.ref (a 0), .int f, .int t])).length) Slot.unset).toArray = ls at hl ⊢
  have hl : lv_has ls 5 [(0, .ref (a 0)), (1, .int f), (2, .int t)] := hl
  refine lv_iload_n hx hb dX4_compare_0 rfl (lv_at hl 1 rfl) ?_
  refine lv_iload_n hx hb dX4_compare_1 rfl (lv_at hl 2 rfl) ?_
  have hFc := va_free (wc := (wA cI cZ a v g)) hD hS hA [0, 1, 2, 3, 4, 5, 6, 7, 8, 9, 10, 11, 12, 13, 14, 15, 16, 17, 18, 19] rfl
  refine vx_callv (vx_runS (As := [.int f, .int t]) (rest := []) ⟨hx, hb, hml, hown, hts⟩ (c_refS l hl9 dC dI cI cZ cJ a tx v g s.heap.size f t) (cwS 2 hts (gd_S ml_X4_X4_refuseNoSpan sm_X4_refuseNoSpan in_X4 kX4_refuseNoSpan) rfl rfl rfl (by decide +kernel) ⟨Nat.le_of_ble_eq_true rfl, Nat.le_of_ble_eq_true rfl⟩) ⟨fun _ U g mk q => by obtain ⟨q0, q1, qP, qK, qD, qZ⟩ := q; exact ⟨q0, q1, qP, va_K.moved (u := U) (U := U.calling g mk _) (Vm.Alike.refl U.vm) qK, qD, ZX.calling qZ⟩, fun U hU hW => ⟨rfl, by rw [hU], by rw [hU]; exact hP, va_K.moved hW.alike hK, hD.weaken (fun _ _ _ _ => trivial), ZX.call hZ hS hFc hW hU⟩⟩ rfl rfl hl.1 rfl (lv_room (Nat.le_of_ble_eq_true rfl)) dX4_compare_2 ⟨Nat.le_of_ble_eq_true rfl, Nat.le_of_ble_eq_true rfl⟩) hS (fun q _ h => hFc q h) hFc (fun q _ h => hFc q h) (fun E2 ce q9 u9 t9 H1 locs ht hvm hp hB hz1 hk1 hS hcell hcv hcl => ?_) (fun u9 t9 H1 locs ht hvm hw hB hz1 hk1 hS => ?_)
  · obtain ⟨rfl, hP1, hK1, hD1⟩ := hB
    rw [ht] at hP1
    have hD := hD1.weaken (fun k q _ h => hFc q.1 h)
    exact vx_out (fun x h => (hEx x h).elim) hlocks hcell hcv hcl (fun t8 ht2 hal => ⟨_, (by simp [thr, hp.1, hp.2, ]), ⟨rfl, by rw [ht2]; exact hP1, va_K.moved hal hK, hD⟩, hS.F ht2⟩) hS.2.2 (by decide) (by decide)
  · obtain ⟨ok2, rfl⟩ := hw
    obtain ⟨hP, hK1, hD1⟩ := hB
    rw [ht] at hP
    have hD := hD1.weaken (fun k q _ h => hFc q.1 h)
    clear hFc hk1 hD1 hK1
    generalize H1 = H at hP hS ⊢
    have hP : va_P (dC, dI) clA (wA cI cZ a v g) H := hP
    have hD : va_D A (wA cI cZ a v g) := hD
    refine lv_aload_n hx hb dX4_compare_5 rfl (lv_at hl 0 rfl) ?_
    refine lv_aload_n hx hb dX4_compare_6 rfl (lv_at hl 0 rfl) ?_
    refine va_get (D := (dC, dI)) (ci := 4) (v := .int (v 0)) (C := RX4) (T := TX4) (N := 9) hx hb hts (fun w h => List.mem_cons_of_mem _ (iw_X4 w h)) hown hK hP 0 rfl rfl 5 (by decide) (hts _ (List.mem_cons_of_mem _ fl_X4_askedFrom)) (fun _ h9 => h9) rfl dX4_compare_7 ?_
    refine lv_aload_n hx hb dX4_compare_10 rfl (lv_at hl 0 rfl) ?_
    refine va_get (D := (dC, dI)) (ci := 4) (v := .int (v 1)) (C := RX4) (T := TX4) (N := 9) hx hb hts (fun w h => List.mem_cons_of_mem _ (iw_X4 w h)) hown hK hP 0 rfl rfl 6 (by decide) (hts _ (List.mem_cons_of_mem _ fl_X4_askedTo)) (fun _ h9 => h9) rfl dX4_compare_11 ?_
    refine vp_callSi (W.runV (As := [.int (v 0), .int (v 1)]) (rest := []) ⟨hx, hb, hml, hown, hts⟩ (c_rowsNot l dC dI cI cZ cJ a v g n hn hn2 nd hnd hnd2 (v 0) (v 1)) (cwV 2 hts (gd_V ml_X4_X4_rowsNotWithout im_X4_rowsNotWithout se_X4_rowsNotWithout in_X4 kX4_rowsNotWithout) rfl rfl rfl (by decide +kernel) ⟨Nat.le_of_ble_eq_true rfl, Nat.le_of_ble_eq_true rfl⟩) ⟨fun _ U g mk q => by obtain ⟨q0, qP, qK⟩ := q; exact ⟨q0, qP, va_K.moved (u := U) (U := U.calling g mk _) (Vm.Alike.refl U.vm) qK⟩, va_recv hK hP (ci := 4) (q0 := 0) rfl rfl, fun U hU hW => ⟨rfl, by rw [hU]; exact hP, va_K.moved hW.alike hK⟩⟩ rfl rfl hl.1 rfl (lv_room (Nat.le_of_ble_eq_true rfl)) dX4_compare_14 ⟨Nat.le_of_ble_eq_true rfl, Nat.le_of_ble_eq_true rfl⟩) (fun r14 hr14 => ?_)
    subst hr14
    refine lv_istore_n (lv' := [(3, .int (totI g n nd 0 (v 0) (v 1) (v 2) (v 3) - totI g n nd 3 (v 0) (v 1) (v 2) (v 3))), (0, .ref (a 0)), (1, .int f), (2, .int t)]) hx hb dX4_compare_17 rfl hl (by decide) rfl (fun ls hl => ?_)
    refine lv_aload_n hx hb dX4_compare_18 rfl (lv_at hl 1 rfl) ?_
    refine lv_iload_n hx hb dX4_compare_19 rfl (lv_at hl 2 rfl) ?_
    refine lv_iload_n hx hb dX4_compare_20 rfl (lv_at hl 3 rfl) ?_
    refine vp_callSi (W.runV (As := [.int f, .int t]) (rest := []) ⟨hx, hb, hml, hown, hts⟩ (c_rowsNot l dC dI cI cZ cJ a v g n hn hn2 nd hnd hnd2 f t) (cwV 2 hts (gd_V ml_X4_X4_rowsNotWithout im_X4_rowsNotWithout se_X4_rowsNotWithout in_X4 kX4_rowsNotWithout) rfl rfl rfl (by decide +kernel) ⟨Nat.le_of_ble_eq_true rfl, Nat.le_of_ble_eq_true rfl⟩) ⟨fun _ U g mk q => by obtain ⟨q0, qP, qK⟩ := q; exact ⟨q0, qP, va_K.moved (u := U) (U := U.calling g mk _) (Vm.Alike.refl U.vm) qK⟩, va_recv hK hP (ci := 4) (q0 := 0) rfl rfl, fun U hU hW => ⟨rfl, by rw [hU]; exact hP, va_K.moved hW.alike hK⟩⟩ rfl rfl hl.1 rfl (lv_room (Nat.le_of_ble_eq_true rfl)) dX4_compare_21 ⟨Nat.le_of_ble_eq_true rfl, Nat.le_of_ble_eq_true rfl⟩) (fun r21 hr21 => ?_)
    subst hr21
    refine lv_istore (lv' := [(4, .int (totI g n nd 0 f t (v 2) (v 3) - totI g n nd 3 f t (v 2) (v 3))), (3, .int (totI g n nd 0 (v 0) (v 1) (v 2) (v 3) - totI g n nd 3 (v 0) (v 1) (v 2) (v 3))), (0, .ref (a 0)), (1, .int f), (2, .int t)]) hx hb dX4_compare_24 hl (by decide) rfl (fun ls hl => ?_)
    refine lv_iload_n hx hb dX4_compare_26 rfl (lv_at hl 1 rfl) ?_
    have hFc := va_free (wc := (wA cI cZ a v g)) hD hS hA [0, 1, 2, 3, 4, 5, 6, 7, 8, 9, 10, 11, 12, 13, 14, 15, 16, 17, 18, 19] rfl
    refine vx_callv (vx_runS (As := [.int (totI g n nd 0 (v 0) (v 1) (v 2) (v 3) - totI g n nd 3 (v 0) (v 1) (v 2) (v 3))]) (rest := []) ⟨hx, hb, hml, hown, hts⟩ (c_refN l hl9 dC dI cI cZ cJ a tx v g H.size (totI g n nd 0 (v 0) (v 1) (v 2) (v 3) - totI g n nd 3 (v 0) (v 1) (v 2) (v 3))) (cwS 1 hts (gd_S ml_X4_X4_refuseNoShare sm_X4_refuseNoShare in_X4 kX4_refuseNoShare) rfl rfl rfl (by decide +kernel) ⟨Nat.le_of_ble_eq_true rfl, Nat.le_of_ble_eq_true rfl⟩) ⟨fun _ U g mk q => by obtain ⟨q0, q1, qP, qK, qD, qZ⟩ := q; exact ⟨q0, q1, qP, va_K.moved (u := U) (U := U.calling g mk _) (Vm.Alike.refl U.vm) qK, qD, ZX.calling qZ⟩, fun U hU hW => ⟨rfl, by rw [hU], by rw [hU]; exact hP, va_K.moved hW.alike hK, hD.weaken (fun _ _ _ _ => trivial), ZX.call hZ hS hFc hW hU⟩⟩ rfl rfl hl.1 rfl (lv_room (Nat.le_of_ble_eq_true rfl)) dX4_compare_27 ⟨Nat.le_of_ble_eq_true rfl, Nat.le_of_ble_eq_true rfl⟩) hS (fun q _ h => hFc q h) hFc (fun q _ h => hFc q h) (fun E27 ce q9 u9 t9 H1 locs ht hvm hp hB hz1 hk1 hS hcell hcv hcl => ?_) (fun u9 t9 H1 locs ht hvm hw hB hz1 hk1 hS => ?_)
    · obtain ⟨rfl, hP1, hK1, hD1⟩ := hB
      rw [ht] at hP1
      have hD := hD1.weaken (fun k q _ h => hFc q.1 h)
      exact vx_out (fun x h => (hEx x h).elim) hlocks hcell hcv hcl (fun t8 ht2 hal => ⟨_, (by simp [thr, hp.1, hp.2, ok2]), ⟨rfl, by rw [ht2]; exact hP1, va_K.moved hal hK, hD⟩, hS.F ht2⟩) hS.2.2 (by decide) (by decide)
    · obtain ⟨ok27, rfl⟩ := hw
      obtain ⟨hP, hK1, hD1⟩ := hB
      rw [ht] at hP
      have hD := hD1.weaken (fun k q _ h => hFc q.1 h)
      clear hFc hk1 hD1 hK1
      generalize H1 = H at hP hS ⊢
      have hP : va_P (dC, dI) clA (wA cI cZ a v g) H := hP
      have hD : va_D A (wA cI cZ a v g) := hD
      refine lv_iload hx hb dX4_compare_30 (lv_at hl 0 rfl) ?_
      have hFc := va_free (wc := (wA cI cZ a v g)) hD hS hA [0, 1, 2, 3, 4, 5, 6, 7, 8, 9, 10, 11, 12, 13, 14, 15, 16, 17, 18, 19] rfl
      refine vx_callv (vx_runS (As := [.int (totI g n nd 0 f t (v 2) (v 3) - totI g n nd 3 f t (v 2) (v 3))]) (rest := []) ⟨hx, hb, hml, hown, hts⟩ (c_refN l hl9 dC dI cI cZ cJ a tx v g H.size (totI g n nd 0 f t (v 2) (v 3) - totI g n nd 3 f t (v 2) (v 3))) (cwS 1 hts (gd_S ml_X4_X4_refuseNoShare sm_X4_refuseNoShare in_X4 kX4_refuseNoShare) rfl rfl rfl (by decide +kernel) ⟨Nat.le_of_ble_eq_true rfl, Nat.le_of_ble_eq_true rfl⟩) ⟨fun _ U g mk q => by obtain ⟨q0, q1, qP, qK, qD, qZ⟩ := q; exact ⟨q0, q1, qP, va_K.moved (u := U) (U := U.calling g mk _) (Vm.Alike.refl U.vm) qK, qD, ZX.calling qZ⟩, fun U hU hW => ⟨rfl, by rw [hU], by rw [hU]; exact hP, va_K.moved hW.alike hK, hD.weaken (fun _ _ _ _ => trivial), ZX.call hZ hS hFc hW hU⟩⟩ rfl rfl hl.1 rfl (lv_room (Nat.le_of_ble_eq_true rfl)) dX4_compare_32 ⟨Nat.le_of_ble_eq_true rfl, Nat.le_of_ble_eq_true rfl⟩) hS (fun q _ h => hFc q h) hFc (fun q _ h => hFc q h) (fun E32 ce q9 u9 t9 H1 locs ht hvm hp hB hz1 hk1 hS hcell hcv hcl => ?_) (fun u9 t9 H1 locs ht hvm hw hB hz1 hk1 hS => ?_)
      · obtain ⟨rfl, hP1, hK1, hD1⟩ := hB
        rw [ht] at hP1
        have hD := hD1.weaken (fun k q _ h => hFc q.1 h)
        exact vx_out (fun x h => (hEx x h).elim) hlocks hcell hcv hcl (fun t8 ht2 hal => ⟨_, (by simp [thr, hp.1, hp.2, ok2, ok27]), ⟨rfl, by rw [ht2]; exact hP1, va_K.moved hal hK, hD⟩, hS.F ht2⟩) hS.2.2 (by decide) (by decide)
      · obtain ⟨ok32, rfl⟩ := hw
        obtain ⟨hP, hK1, hD1⟩ := hB
        rw [ht] at hP
        have hD := hD1.weaken (fun k q _ h => hFc q.1 h)
        clear hFc hk1 hD1 hK1
        generalize H1 = H at hP hS ⊢
        have hP : va_P (dC, dI) clA (wA cI cZ a v g) H := hP
        have hD : va_D A (wA cI cZ a v g) := hD
        refine lv_aload_n hx hb dX4_compare_35 rfl (lv_at hl 2 rfl) ?_
        refine lv_aload_n hx hb dX4_compare_36 rfl (lv_at hl 2 rfl) ?_
        refine va_get (D := (dC, dI)) (ci := 4) (v := .int (v 0)) (C := RX4) (T := TX4) (N := 9) hx hb hts (fun w h => List.mem_cons_of_mem _ (iw_X4 w h)) hown hK hP 0 rfl rfl 5 (by decide) (hts _ (List.mem_cons_of_mem _ fl_X4_askedFrom)) (fun _ h9 => h9) rfl dX4_compare_37 ?_
        refine lv_aload_n hx hb dX4_compare_40 rfl (lv_at hl 2 rfl) ?_
        refine va_get (D := (dC, dI)) (ci := 4) (v := .int (v 1)) (C := RX4) (T := TX4) (N := 9) hx hb hts (fun w h => List.mem_cons_of_mem _ (iw_X4 w h)) hown hK hP 0 rfl rfl 6 (by decide) (hts _ (List.mem_cons_of_mem _ fl_X4_askedTo)) (fun _ h9 => h9) rfl dX4_compare_41 ?_
        refine vp_callSi (W.runV (As := [.int (v 0), .int (v 1)]) (rest := []) ⟨hx, hb, hml, hown, hts⟩ (c_rowsWithin l dC dI cI cZ cJ a v g n hn hn2 nd hnd hnd2 (v 0) (v 1)) (cwV 2 hts (gd_V ml_X4_X4_rowsWithin im_X4_rowsWithin se_X4_rowsWithin in_X4 kX4_rowsWithin) rfl rfl rfl (by decide +kernel) ⟨Nat.le_of_ble_eq_true rfl, Nat.le_of_ble_eq_true rfl⟩) ⟨fun _ U g mk q => by obtain ⟨q0, qP, qK⟩ := q; exact ⟨q0, qP, va_K.moved (u := U) (U := U.calling g mk _) (Vm.Alike.refl U.vm) qK⟩, va_recv hK hP (ci := 4) (q0 := 0) rfl rfl, fun U hU hW => ⟨rfl, by rw [hU]; exact hP, va_K.moved hW.alike hK⟩⟩ rfl rfl hl.1 rfl (lv_room (Nat.le_of_ble_eq_true rfl)) dX4_compare_44 ⟨Nat.le_of_ble_eq_true rfl, Nat.le_of_ble_eq_true rfl⟩) (fun r44 hr44 => ?_)
        subst hr44
        refine lv_iload hx hb dX4_compare_47 (lv_at hl 0 rfl) ?_
        refine lv_imul hx hb dX4_compare_49 ?_
        refine lv_aload_n hx hb dX4_compare_50 rfl (lv_at hl 2 rfl) ?_
        refine lv_iload_n hx hb dX4_compare_51 rfl (lv_at hl 3 rfl) ?_
        refine lv_iload_n hx hb dX4_compare_52 rfl (lv_at hl 4 rfl) ?_
        refine vp_callSi (W.runV (As := [.int f, .int t]) (rest := [.int ((totI g n nd 2 (v 0) (v 1) (v 2) (v 3)) * (totI g n nd 0 f t (v 2) (v 3) - totI g n nd 3 f t (v 2) (v 3)))]) ⟨hx, hb, hml, hown, hts⟩ (c_rowsWithin l dC dI cI cZ cJ a v g n hn hn2 nd hnd hnd2 f t) (cwV 2 hts (gd_V ml_X4_X4_rowsWithin im_X4_rowsWithin se_X4_rowsWithin in_X4 kX4_rowsWithin) rfl rfl rfl (by decide +kernel) ⟨Nat.le_of_ble_eq_true rfl, Nat.le_of_ble_eq_true rfl⟩) ⟨fun _ U g mk q => by obtain ⟨q0, qP, qK⟩ := q; exact ⟨q0, qP, va_K.moved (u := U) (U := U.calling g mk _) (Vm.Alike.refl U.vm) qK⟩, va_recv hK hP (ci := 4) (q0 := 0) rfl rfl, fun U hU hW => ⟨rfl, by rw [hU]; exact hP, va_K.moved hW.alike hK⟩⟩ rfl rfl hl.1 rfl (lv_room (Nat.le_of_ble_eq_true rfl)) dX4_compare_53 ⟨Nat.le_of_ble_eq_true rfl, Nat.le_of_ble_eq_true rfl⟩) (fun r53 hr53 => ?_)
        subst hr53
        refine lv_iload_n hx hb dX4_compare_56 rfl (lv_at hl 1 rfl) ?_
        refine lv_imul hx hb dX4_compare_57 ?_
        refine vp_callSi (W.runS (As := [.int ((totI g n nd 2 (v 0) (v 1) (v 2) (v 3)) * (totI g n nd 0 f t (v 2) (v 3) - totI g n nd 3 f t (v 2) (v 3))), .int ((totI g n nd 2 f t (v 2) (v 3)) * (totI g n nd 0 (v 0) (v 1) (v 2) (v 3) - totI g n nd 3 (v 0) (v 1) (v 2) (v 3)))]) (rest := []) ⟨hx, hb, hml, hown, hts⟩ (c_icmp l dC dI cI cZ cJ a v g ((totI g n nd 2 (v 0) (v 1) (v 2) (v 3)) * (totI g n nd 0 f t (v 2) (v 3) - totI g n nd 3 f t (v 2) (v 3))) ((totI g n nd 2 f t (v 2) (v 3)) * (totI g n nd 0 (v 0) (v 1) (v 2) (v 3) - totI g n nd 3 (v 0) (v 1) (v 2) (v 3)))) (va_cwS 2 hts (gd_J ml_X4_Integer_compare sm_Integer_compare in_Integer kInteger_compare) rfl rfl rfl (by decide +kernel) ⟨Nat.le_of_ble_eq_true rfl, Nat.le_of_ble_eq_true rfl⟩) ⟨fun _ U g mk q => by obtain ⟨q0, qP, qK⟩ := q; exact ⟨q0, qP, va_K.moved (u := U) (U := U.calling g mk _) (Vm.Alike.refl U.vm) qK⟩, fun U hU hW => ⟨rfl, by rw [hU]; exact hP, va_K.moved hW.alike hK⟩⟩ rfl rfl hl.1 rfl (lv_room (Nat.le_of_ble_eq_true rfl)) dX4_compare_58 ⟨Nat.le_of_ble_eq_true rfl, Nat.le_of_ble_eq_true rfl⟩) (fun r58 hr58 => ?_)
        subst hr58
        exact vx_ret (W.iret (v := icmp ((totI g n nd 2 (v 0) (v 1) (v 2) (v 3)) * (totI g n nd 0 f t (v 2) (v 3) - totI g n nd 3 f t (v 2) (v 3))) ((totI g n nd 2 f t (v 2) (v 3)) * (totI g n nd 0 (v 0) (v 1) (v 2) (v 3) - totI g n nd 3 (v 0) (v 1) (v 2) (v 3)))) hx hb hr (fun t9 ht hW => ⟨⟨_, (v, g), rfl, ⟨rfl, ⟨ok2, ok27, ok32⟩, rfl⟩, ⟨by rw [ht]; exact hP, va_K.moved hW.alike hK, hD⟩⟩, hS.F ht⟩) hS.2.2 dX4_compare_61)
set_option maxHeartbeats 4000000 in
set_option maxRecDepth 100000 in
theorem c_people (l : Launch) (hl9 : l.stackTraces = false) (dC : Nat → ClassId) (dI : Nat → Nat → Nat) (cI cZ cJ : ClassId) (a : Nat → Nat) (tx : Nat → Nat) (v : Nat → Int32) (g : Nat → Nat → Int32) (sz : Nat) (ar x : Int32) : vx_Met l yX4_people wsX4_people ({ frames := 9, cells := 2, slots := 12, locals := 142 }) (va_Pc [.ref (a 0), .int ar, .int x] (fun U => U.heap.size = sz ∧ va_P (dC, dI) clA (wA cI cZ a v g) U.heap ∧ va_K (dC, dI) clA (tyA cI cZ cJ) U ∧ va_D (fun _ => True) (wA cI cZ a v g) ∧ ZX tx (va_A (wA cI cZ a v g) sz) U U.heap)) (va_Qv (fun (u : StA) => (inU ar 10 ∧ inR x 0 1000000) ∧ u = (v, upg g 0 ar.toNatClampNeg x)) (atA dC dI cI cZ cJ a (va_A (wA cI cZ a v g) sz)) (va_A (wA cI cZ a v g) sz)) (vx_X (fun E : String => thr E "java/lang/IllegalArgumentException" (¬ inU ar 10) "java/lang/IndexOutOfBoundsException" (¬ inR x 0 1000000) "" (False)) (fun E1 E t => E1 = E ∧ atA dC dI cI cZ cJ a (va_A (wA cI cZ a v g) sz) (v, g) t) (va_A (wA cI cZ a v g) sz)) 2 12 (va_A (wA cI cZ a v g) sz) := by
  refine vx_ofW (cc := cX4_people) (maxL := 3) (ret := none) (by decide) rfl ?_
  intro p e s m args below meth c s₁ B hml hEx hv
  obtain ⟨rfl, hsz, hP, hK, hD0, hZ⟩ := hv
  have hx := B.exec
  have hb := B.bytes
  have hr := B.returns
  have hts := atoms_spec (ws := wsX4_people) B.pre
  have hown : s.vm.findClass RX4 = some m.cls := findClass_of_methodNamed B.named
  have hlocks := B.notSynchronized
  subst hsz
  have hD := hD0.self (sz := s.heap.size)
  generalize hAe : va_A (wA cI cZ a v g) s.heap.size = A at hD hZ ⊢
  have hA : ∀ q : Nat, s.heap.size ≤ q → A q := fun q h => by rw [← hAe]; exact Or.inr h
  have hS : va_S A s.heap s.heap [] := va_S.rf
  have hP : va_P (dC, dI) clA (wA cI cZ a v g) s.heap := hP
  have hl := lv_entry ([.ref (a 0), .int ar, .int x]) (n := 3) (Nat.le_of_ble_eq_true rfl)
  rw [lg_entry_eq]
  generalize (lg_sl ([.ref (a 0), .int ar, .int x]) ++ List.replicate (3 - (lg_sl ([.ref (a 0), .int ar, .int x])).length) Slot.unset).toArray = ls at hl ⊢
  have hl : lv_has ls 3 [(0, .ref (a 0)), (1, .int ar), (2, .int x)] := hl
  refine lv_iload_n hx hb dX4_people_0 rfl (lv_at hl 1 rfl) ?_
  refine lv_bipush (v := 10) hx hb dX4_people_1 (by decide) ?_
  have hFc := va_free (wc := (wA cI cZ a v g)) hD hS hA [0, 1, 2, 3, 4, 5, 6, 7, 8, 9, 10, 11, 12, 13, 14, 15, 16, 17, 18, 19] rfl
  refine vx_callv (vx_runS (As := [.int ar, .int 10]) (rest := []) ⟨hx, hb, hml, hown, hts⟩ (c_refU l hl9 dC dI cI cZ cJ a tx v g s.heap.size ar 10) (cwS 2 hts (gd_S ml_X4_X4_refuseUnknown sm_X4_refuseUnknown in_X4 kX4_refuseUnknown) rfl rfl rfl (by decide +kernel) ⟨Nat.le_of_ble_eq_true rfl, Nat.le_of_ble_eq_true rfl⟩) ⟨fun _ U g mk q => by obtain ⟨q0, q1, qP, qK, qD, qZ⟩ := q; exact ⟨q0, q1, qP, va_K.moved (u := U) (U := U.calling g mk _) (Vm.Alike.refl U.vm) qK, qD, ZX.calling qZ⟩, fun U hU hW => ⟨rfl, by rw [hU], by rw [hU]; exact hP, va_K.moved hW.alike hK, hD.weaken (fun _ _ _ _ => trivial), ZX.call hZ hS hFc hW hU⟩⟩ rfl rfl hl.1 rfl (lv_room (Nat.le_of_ble_eq_true rfl)) dX4_people_3 ⟨Nat.le_of_ble_eq_true rfl, Nat.le_of_ble_eq_true rfl⟩) hS (fun q _ h => hFc q h) hFc (fun q _ h => hFc q h) (fun E3 ce q9 u9 t9 H1 locs ht hvm hp hB hz1 hk1 hS hcell hcv hcl => ?_) (fun u9 t9 H1 locs ht hvm hw hB hz1 hk1 hS => ?_)
  · obtain ⟨rfl, hP1, hK1, hD1⟩ := hB
    rw [ht] at hP1
    have hD := hD1.weaken (fun k q _ h => hFc q.1 h)
    exact vx_out (fun x h => (hEx x h).elim) hlocks hcell hcv hcl (fun t8 ht2 hal => ⟨_, (by simp [thr, hp.1, hp.2, ]), ⟨rfl, by rw [ht2]; exact hP1, va_K.moved hal hK, hD⟩, hS.F ht2⟩) hS.2.2 (by decide) (by decide)
  · obtain ⟨ok3, rfl⟩ := hw
    obtain ⟨hP, hK1, hD1⟩ := hB
    rw [ht] at hP
    have hD := hD1.weaken (fun k q _ h => hFc q.1 h)
    clear hFc hk1 hD1 hK1
    generalize H1 = H at hP hS ⊢
    have hP : va_P (dC, dI) clA (wA cI cZ a v g) H := hP
    have hD : va_D A (wA cI cZ a v g) := hD
    refine lv_iload_n hx hb dX4_people_6 rfl (lv_at hl 2 rfl) ?_
    refine lv_iconst (v := 0) hx hb dX4_people_7 (by decide) ?_
    refine lv_ldc (v := 1000000) hx hb hown (hts _ (List.mem_cons_of_mem _ ct_X4_145)) dX4_people_8 ?_
    have hFc := va_free (wc := (wA cI cZ a v g)) hD hS hA [0, 1, 2, 3, 4, 5, 6, 7, 8, 9, 10, 11, 12, 13, 14, 15, 16, 17, 18, 19] rfl
    refine vx_callv (vx_runS (As := [.int x, .int 0, .int 1000000]) (rest := []) ⟨hx, hb, hml, hown, hts⟩ (c_refO l hl9 dC dI cI cZ cJ a tx v g H.size x 0 1000000) (cwS 3 hts (gd_S ml_X4_X4_refuseOutside sm_X4_refuseOutside in_X4 kX4_refuseOutside) rfl rfl rfl (by decide +kernel) ⟨Nat.le_of_ble_eq_true rfl, Nat.le_of_ble_eq_true rfl⟩) ⟨fun _ U g mk q => by obtain ⟨q0, q1, qP, qK, qD, qZ⟩ := q; exact ⟨q0, q1, qP, va_K.moved (u := U) (U := U.calling g mk _) (Vm.Alike.refl U.vm) qK, qD, ZX.calling qZ⟩, fun U hU hW => ⟨rfl, by rw [hU], by rw [hU]; exact hP, va_K.moved hW.alike hK, hD.weaken (fun _ _ _ _ => trivial), ZX.call hZ hS hFc hW hU⟩⟩ rfl rfl hl.1 rfl (lv_room (Nat.le_of_ble_eq_true rfl)) dX4_people_10 ⟨Nat.le_of_ble_eq_true rfl, Nat.le_of_ble_eq_true rfl⟩) hS (fun q _ h => hFc q h) hFc (fun q _ h => hFc q h) (fun E10 ce q9 u9 t9 H1 locs ht hvm hp hB hz1 hk1 hS hcell hcv hcl => ?_) (fun u9 t9 H1 locs ht hvm hw hB hz1 hk1 hS => ?_)
    · obtain ⟨rfl, hP1, hK1, hD1⟩ := hB
      rw [ht] at hP1
      have hD := hD1.weaken (fun k q _ h => hFc q.1 h)
      exact vx_out (fun x h => (hEx x h).elim) hlocks hcell hcv hcl (fun t8 ht2 hal => ⟨_, (by simp [thr, hp.1, hp.2, ok3]), ⟨rfl, by rw [ht2]; exact hP1, va_K.moved hal hK, hD⟩, hS.F ht2⟩) hS.2.2 (by decide) (by decide)
    · obtain ⟨ok10, rfl⟩ := hw
      obtain ⟨hP, hK1, hD1⟩ := hB
      rw [ht] at hP
      have hD := hD1.weaken (fun k q _ h => hFc q.1 h)
      clear hFc hk1 hD1 hK1
      generalize H1 = H at hP hS ⊢
      have hP : va_P (dC, dI) clA (wA cI cZ a v g) H := hP
      have hD : va_D A (wA cI cZ a v g) := hD
      have okw := ok3
      obtain ⟨kw, hkw, rfl⟩ := inU_nat (n := 10) (by decide) ok3
      refine lv_aload_n hx hb dX4_people_13 rfl (lv_at hl 0 rfl) ?_
      refine va_get (D := (dC, dI)) (ci := 4) (v := .ref (a 1)) (C := RX4) (T := TX4) (N := 9) hx hb hts (fun w h => List.mem_cons_of_mem _ (iw_X4 w h)) hown hK hP 0 rfl rfl 4 (by decide) (hts _ (List.mem_cons_of_mem _ fl_X4_peopleOfArea)) (fun _ h9 => h9) rfl dX4_people_14 ?_
      refine lv_iload_n hx hb dX4_people_17 rfl (lv_at hl 1 rfl) ?_
      refine lv_iload_n hx hb dX4_people_18 rfl (lv_at hl 2 rfl) ?_
      refine wi_ast hx hb hK hP hD hS 1 0 rfl rfl (k := kw) (by omega) (by decide) dX4_people_19 (fun H locs hP hD hS => ?_)
      have hP : va_P (dC, dI) clA (wA cI cZ a v (upg g 0 kw x)) H := hP
      have hD : va_D A (wA cI cZ a v (upg g 0 kw x)) := hD
      exact vx_ret (W.vret hx hb hr (fun t9 ht hW => ⟨⟨(v, (upg g 0 kw x)), rfl, ⟨⟨okw, ok10⟩, by rw [nI_clamp (by omega)]⟩, ⟨by rw [ht]; exact hP, va_K.moved hW.alike hK, hD⟩⟩, hS.F ht⟩) hS.2.2 dX4_people_20)
set_option maxHeartbeats 4000000 in
set_option maxRecDepth 100000 in
theorem c_perT (l : Launch) (hl9 : l.stackTraces = false) (dC : Nat → ClassId) (dI : Nat → Nat → Nat) (cI cZ cJ : ClassId) (a : Nat → Nat) (tx : Nat → Nat) (v : Nat → Int32) (g : Nat → Nat → Int32) (sz : Nat) (n : Nat) (hn : v 5 = nI n) (hn2 : n ≤ 200) (ar : Int32) : vx_Met l yX4_perThousand wsX4_perThousand ({ frames := 9, cells := 2, slots := 12, locals := 141 }) (va_Pc [.ref (a 0), .int ar] (fun U => U.heap.size = sz ∧ va_P (dC, dI) clA (wA cI cZ a v g) U.heap ∧ va_K (dC, dI) clA (tyA cI cZ cJ) U ∧ va_D (fun _ => True) (wA cI cZ a v g) ∧ ZX tx (va_A (wA cI cZ a v g) sz) U U.heap)) (va_Qi (fun (r : Int32) (u : StA) => r = 1000 * cnt (fun i => askB g i (v 0) (v 1) (v 2) ar) n / g 0 ar.toNatClampNeg ∧ (inU ar 10 ∧ 0 < g 0 ar.toNatClampNeg) ∧ u = (v, g)) (atA dC dI cI cZ cJ a (va_A (wA cI cZ a v g) sz)) (va_A (wA cI cZ a v g) sz)) (vx_X (fun E : String => thr E "java/lang/IllegalArgumentException" (¬ inU ar 10) "java/lang/ArithmeticException" (¬ 0 < g 0 ar.toNatClampNeg) "" (False)) (fun E1 E t => E1 = E ∧ atA dC dI cI cZ cJ a (va_A (wA cI cZ a v g) sz) (v, g) t) (va_A (wA cI cZ a v g) sz)) 2 12 (va_A (wA cI cZ a v g) sz) := by
  refine vx_ofW (cc := cX4_perThousand) (maxL := 3) (ret := (some .int)) (by decide) rfl ?_
  intro p e s m args below meth c s₁ B hml hEx hv
  obtain ⟨rfl, hsz, hP, hK, hD0, hZ⟩ := hv
  have hx := B.exec
  have hb := B.bytes
  have hr := B.returns
  have hts := atoms_spec (ws := wsX4_perThousand) B.pre
  have hown : s.vm.findClass RX4 = some m.cls := findClass_of_methodNamed B.named
  have hlocks := B.notSynchronized
  subst hsz
  have hD := hD0.self (sz := s.heap.size)
  generalize hAe : va_A (wA cI cZ a v g) s.heap.size = A at hD hZ ⊢
  have hA : ∀ q : Nat, s.heap.size ≤ q → A q := fun q h => by rw [← hAe]; exact Or.inr h
  have hS : va_S A s.heap s.heap [] := va_S.rf
  have hP : va_P (dC, dI) clA (wA cI cZ a v g) s.heap := hP
  have hl := lv_entry ([.ref (a 0), .int ar]) (n := 3) (Nat.le_of_ble_eq_true rfl)
  rw [lg_entry_eq]
  generalize (lg_sl ([.ref (a 0), .int ar]) ++ List.replicate (3 - (lg_sl ([.ref (a 0), .int ar])).length) Slot.unset).toArray = ls at hl ⊢
  have hl : lv_has ls 3 [(0, .ref (a 0)), (1, .int ar)] := hl
  refine lv_iload_n hx hb dX4_perThousand_0 rfl (lv_at hl 1 rfl) ?_
  refine lv_bipush (v := 10) hx hb dX4_perThousand_1 (by decide) ?_
  have hFc := va_free (wc := (wA cI cZ a v g)) hD hS hA [0, 1, 2, 3, 4, 5, 6, 7, 8, 9, 10, 11, 12, 13, 14, 15, 16, 17, 18, 19] rfl
  refine vx_callv (vx_runS (As := [.int ar, .int 10]) (rest := []) ⟨hx, hb, hml, hown, hts⟩ (c_refU l hl9 dC dI cI cZ cJ a tx v g s.heap.size ar 10) (cwS 2 hts (gd_S ml_X4_X4_refuseUnknown sm_X4_refuseUnknown in_X4 kX4_refuseUnknown) rfl rfl rfl (by decide +kernel) ⟨Nat.le_of_ble_eq_true rfl, Nat.le_of_ble_eq_true rfl⟩) ⟨fun _ U g mk q => by obtain ⟨q0, q1, qP, qK, qD, qZ⟩ := q; exact ⟨q0, q1, qP, va_K.moved (u := U) (U := U.calling g mk _) (Vm.Alike.refl U.vm) qK, qD, ZX.calling qZ⟩, fun U hU hW => ⟨rfl, by rw [hU], by rw [hU]; exact hP, va_K.moved hW.alike hK, hD.weaken (fun _ _ _ _ => trivial), ZX.call hZ hS hFc hW hU⟩⟩ rfl rfl hl.1 rfl (lv_room (Nat.le_of_ble_eq_true rfl)) dX4_perThousand_3 ⟨Nat.le_of_ble_eq_true rfl, Nat.le_of_ble_eq_true rfl⟩) hS (fun q _ h => hFc q h) hFc (fun q _ h => hFc q h) (fun E3 ce q9 u9 t9 H1 locs ht hvm hp hB hz1 hk1 hS hcell hcv hcl => ?_) (fun u9 t9 H1 locs ht hvm hw hB hz1 hk1 hS => ?_)
  · obtain ⟨rfl, hP1, hK1, hD1⟩ := hB
    rw [ht] at hP1
    have hD := hD1.weaken (fun k q _ h => hFc q.1 h)
    exact vx_out (fun x h => (hEx x h).elim) hlocks hcell hcv hcl (fun t8 ht2 hal => ⟨_, (by simp [thr, hp.1, hp.2, ]), ⟨rfl, by rw [ht2]; exact hP1, va_K.moved hal hK, hD⟩, hS.F ht2⟩) hS.2.2 (by decide) (by decide)
  · obtain ⟨ok3, rfl⟩ := hw
    obtain ⟨hP, hK1, hD1⟩ := hB
    rw [ht] at hP
    have hD := hD1.weaken (fun k q _ h => hFc q.1 h)
    clear hFc hk1 hD1 hK1
    generalize H1 = H at hP hS ⊢
    have hP : va_P (dC, dI) clA (wA cI cZ a v g) H := hP
    have hD : va_D A (wA cI cZ a v g) := hD
    have okw := ok3
    obtain ⟨kw, hkw, rfl⟩ := inU_nat (n := 10) (by decide) ok3
    refine lv_aload_n hx hb dX4_perThousand_6 rfl (lv_at hl 0 rfl) ?_
    refine va_get (D := (dC, dI)) (ci := 4) (v := .ref (a 1)) (C := RX4) (T := TX4) (N := 9) hx hb hts (fun w h => List.mem_cons_of_mem _ (iw_X4 w h)) hown hK hP 0 rfl rfl 4 (by decide) (hts _ (List.mem_cons_of_mem _ fl_X4_peopleOfArea)) (fun _ h9 => h9) rfl dX4_perThousand_7 ?_
    refine lv_iload_n hx hb dX4_perThousand_10 rfl (lv_at hl 1 rfl) ?_
    refine wi_ald hx hb hK hP 1 0 rfl rfl (k := kw) (by omega) (by decide) dX4_perThousand_11 ?_
    refine lv_istore_n (lv' := [(2, .int (g 0 kw)), (0, .ref (a 0)), (1, .int (nI kw))]) hx hb dX4_perThousand_12 rfl hl (by decide) rfl (fun ls hl => ?_)
    refine lv_iload_n hx hb dX4_perThousand_13 rfl (lv_at hl 0 rfl) ?_
    refine lv_if_gt (tgt := 27) hx hb dX4_perThousand_14 (by decide) (fun c14 => ?_) (fun c14 => ?_)
    · have n14 := Int32.not_le.mpr c14
      refine lv_sipush (v := 1000) hx hb dX4_perThousand_27 (by decide) ?_
      refine lv_aload_n hx hb dX4_perThousand_30 rfl (lv_at hl 1 rfl) ?_
      refine lv_iload_n hx hb dX4_perThousand_31 rfl (lv_at hl 2 rfl) ?_
      refine vp_callSi (W.runV (As := [.int (nI kw)]) (rest := [.int 1000]) ⟨hx, hb, hml, hown, hts⟩ (c_rowsOfArea l dC dI cI cZ cJ a v g n hn hn2 (nI kw)) (cwV 1 hts (gd_V ml_X4_X4_rowsOfArea im_X4_rowsOfArea se_X4_rowsOfArea in_X4 kX4_rowsOfArea) rfl rfl rfl (by decide +kernel) ⟨Nat.le_of_ble_eq_true rfl, Nat.le_of_ble_eq_true rfl⟩) ⟨fun _ U g mk q => by obtain ⟨q0, qP, qK⟩ := q; exact ⟨q0, qP, va_K.moved (u := U) (U := U.calling g mk _) (Vm.Alike.refl U.vm) qK⟩, va_recv hK hP (ci := 4) (q0 := 0) rfl rfl, fun U hU hW => ⟨rfl, by rw [hU]; exact hP, va_K.moved hW.alike hK⟩⟩ rfl rfl hl.1 rfl (lv_room (Nat.le_of_ble_eq_true rfl)) dX4_perThousand_32 ⟨Nat.le_of_ble_eq_true rfl, Nat.le_of_ble_eq_true rfl⟩) (fun r32 hr32 => ?_)
      subst hr32
      refine lv_imul hx hb dX4_perThousand_35 ?_
      refine lv_iload_n hx hb dX4_perThousand_36 rfl (lv_at hl 0 rfl) ?_
      refine lv_idiv hx hb dX4_perThousand_37 (fun h => by rw [h] at c14; exact absurd c14 (by decide)) ?_
      refine W.widen (k := 2) (n := 12) (by decide) (by decide) ?_
      exact vx_ret (W.iret (v := (1000 * (cnt (fun i => askB g i (v 0) (v 1) (v 2) (nI kw)) n)) / (g 0 kw)) hx hb hr (fun t9 ht hW => ⟨⟨_, (v, g), rfl, ⟨by rw [nI_clamp (by omega)], ⟨okw, by rw [nI_clamp (by omega)]; exact c14⟩, rfl⟩, ⟨by rw [ht]; exact hP, va_K.moved hW.alike hK, hD⟩⟩, hS.F ht⟩) hS.2.2 dX4_perThousand_38)
    · have n14 := Int32.not_lt.mp c14
      exact vx_throwS hx hb hl9 (own := RX4) (cls := "java/lang/ArithmeticException") (text := "an area without people") (names := ["java/lang/RuntimeException", "java/lang/Exception"]) (ik := 146) (is := 148) (ic := 150) (A := A) hown (by decide +kernel) (by decide +kernel) (hts _ (List.mem_cons_of_mem _ cl_X4_ArithmeticException)) (hts _ (List.mem_cons_of_mem _ in_ArithmeticException)) (ZX.s148 hZ) (fun w h => hat_ArithmeticException_150 hts hZ w h) gw_ArithmeticException_146_150 hZ.1 hZ.2.1 hS (by rw [hml]; exact hl.1) dX4_perThousand_17 dX4_perThousand_20 dX4_perThousand_21 dX4_perThousand_23 dX4_perThousand_26 (fun x h => (hEx x h).elim) (by decide) (by decide) (by decide) (by decide) hlocks (fun t9 hal h1 h2 => ⟨"java/lang/ArithmeticException", (Or.inr (Or.inl ⟨rfl, fun h => h okw, by rw [nI_clamp (by omega)]; exact c14⟩)), ⟨rfl, hP.kept (fun k q hk => h2 q.1 ((hP k q hk).lt)), va_K.moved hal hK, hD⟩, ⟨Nat.le_trans hS.1 h1, fun q h3 h4 => (h2 q (Nat.lt_of_lt_of_le h3 hS.1)).trans (hS.2.1 q h3 h4)⟩⟩) hS.2.2 (by decide) (by decide)
/-- how many of the first k areas have more rows than the area ar -/
def rkI (g : Nat → Nat → Int32) (v : Nat → Int32) (n : Nat) (ar : Int32) (k : Nat) : Int32 := cnt (fun o => decide (cnt (fun i => askB g i (v 0) (v 1) (v 2) ar) n < cnt (fun i => askB g i (v 0) (v 1) (v 2) (nI o)) n)) k
set_option maxHeartbeats 4000000 in
set_option maxRecDepth 100000 in
theorem c_rank (l : Launch) (hl9 : l.stackTraces = false) (dC : Nat → ClassId) (dI : Nat → Nat → Nat) (cI cZ cJ : ClassId) (a : Nat → Nat) (tx : Nat → Nat) (v : Nat → Int32) (g : Nat → Nat → Int32) (sz : Nat) (n : Nat) (hn : v 5 = nI n) (hn2 : n ≤ 200) (ar : Int32) : vx_Met l yX4_rank wsX4_rank ({ frames := 9, cells := 1, slots := 6, locals := 141 }) (va_Pc [.ref (a 0), .int ar] (fun U => U.heap.size = sz ∧ va_P (dC, dI) clA (wA cI cZ a v g) U.heap ∧ va_K (dC, dI) clA (tyA cI cZ cJ) U ∧ va_D (fun _ => True) (wA cI cZ a v g) ∧ ZX tx (va_A (wA cI cZ a v g) sz) U U.heap)) (va_Qi (fun (r : Int32) (u : StA) => r = 1 + rkI g v n ar n10 ∧ (inU ar 10) ∧ u = (v, g)) (atA dC dI cI cZ cJ a (va_A (wA cI cZ a v g) sz)) (va_A (wA cI cZ a v g) sz)) (vx_X (fun E : String => thr E "java/lang/IllegalArgumentException" (¬ inU ar 10) "" (False) "" (False)) (fun E1 E t => E1 = E ∧ atA dC dI cI cZ cJ a (va_A (wA cI cZ a v g) sz) (v, g) t) (va_A (wA cI cZ a v g) sz)) 1 6 (va_A (wA cI cZ a v g) sz) := by
  refine vx_ofW (cc := cX4_rank) (maxL := 5) (ret := (some .int)) (by decide) rfl ?_
  intro p e s m args below meth c s₁ B hml hEx hv
  obtain ⟨rfl, hsz, hP, hK, hD0, hZ⟩ := hv
  have hx := B.exec
  have hb := B.bytes
  have hr := B.returns
  have hts := atoms_spec (ws := wsX4_rank) B.pre
  have hown : s.vm.findClass RX4 = some m.cls := findClass_of_methodNamed B.named
  have hlocks := B.notSynchronized
  subst hsz
  have hD := hD0.self (sz := s.heap.size)
  generalize hAe : va_A (wA cI cZ a v g) s.heap.size = A at hD hZ ⊢
  have hA : ∀ q : Nat, s.heap.size ≤ q → A q := fun q h => by rw [← hAe]; exact Or.inr h
  have hS : va_S A s.heap s.heap [] := va_S.rf
  have hP : va_P (dC, dI) clA (wA cI cZ a v g) s.heap := hP
  have hl := lv_entry ([.ref (a 0), .int ar]) (n := 5) (Nat.le_of_ble_eq_true rfl)
  rw [lg_entry_eq]
  generalize (lg_sl ([.ref (a 0), .int ar]) ++ List.replicate (5 - (lg_sl ([.ref (a 0), .int ar])).length) Slot.unset).toArray = ls at hl ⊢
  have hl : lv_has ls 5 [(0, .ref (a 0)), (1, .int ar)] := hl
  refine lv_iload_n hx hb dX4_rank_0 rfl (lv_at hl 1 rfl) ?_
  refine lv_bipush (v := 10) hx hb dX4_rank_1 (by decide) ?_
  have hFc := va_free (wc := (wA cI cZ a v g)) hD hS hA [0, 1, 2, 3, 4, 5, 6, 7, 8, 9, 10, 11, 12, 13, 14, 15, 16, 17, 18, 19] rfl
  refine vx_callv (vx_runS (As := [.int ar, .int 10]) (rest := []) ⟨hx, hb, hml, hown, hts⟩ (c_refU l hl9 dC dI cI cZ cJ a tx v g s.heap.size ar 10) (cwS 2 hts (gd_S ml_X4_X4_refuseUnknown sm_X4_refuseUnknown in_X4 kX4_refuseUnknown) rfl rfl rfl (by decide +kernel) ⟨Nat.le_of_ble_eq_true rfl, Nat.le_of_ble_eq_true rfl⟩) ⟨fun _ U g mk q => by obtain ⟨q0, q1, qP, qK, qD, qZ⟩ := q; exact ⟨q0, q1, qP, va_K.moved (u := U) (U := U.calling g mk _) (Vm.Alike.refl U.vm) qK, qD, ZX.calling qZ⟩, fun U hU hW => ⟨rfl, by rw [hU], by rw [hU]; exact hP, va_K.moved hW.alike hK, hD.weaken (fun _ _ _ _ => trivial), ZX.call hZ hS hFc hW hU⟩⟩ rfl rfl hl.1 rfl (lv_room (Nat.le_of_ble_eq_true rfl)) dX4_rank_3 ⟨Nat.le_of_ble_eq_true rfl, Nat.le_of_ble_eq_true rfl⟩) hS (fun q _ h => hFc q h) hFc (fun q _ h => hFc q h) (fun E3 ce q9 u9 t9 H1 locs ht hvm hp hB hz1 hk1 hS hcell hcv hcl => ?_) (fun u9 t9 H1 locs ht hvm hw hB hz1 hk1 hS => ?_)
  · obtain ⟨rfl, hP1, hK1, hD1⟩ := hB
    rw [ht] at hP1
    have hD := hD1.weaken (fun k q _ h => hFc q.1 h)
    exact vx_out (fun x h => (hEx x h).elim) hlocks hcell hcv hcl (fun t8 ht2 hal => ⟨_, (by simp [thr, hp.1, hp.2, ]), ⟨rfl, by rw [ht2]; exact hP1, va_K.moved hal hK, hD⟩, hS.F ht2⟩) hS.2.2 (by decide) (by decide)
  · obtain ⟨ok3, rfl⟩ := hw
    obtain ⟨hP, hK1, hD1⟩ := hB
    rw [ht] at hP
    have hD := hD1.weaken (fun k q _ h => hFc q.1 h)
    clear hFc hk1 hD1 hK1
    generalize H1 = H at hP hS ⊢
    have hP : va_P (dC, dI) clA (wA cI cZ a v g) H := hP
    have hD : va_D A (wA cI cZ a v g) := hD
    refine lv_aload_n hx hb dX4_rank_6 rfl (lv_at hl 0 rfl) ?_
    refine lv_iload_n hx hb dX4_rank_7 rfl (lv_at hl 1 rfl) ?_
    refine vp_callSi (W.runV (As := [.int ar]) (rest := []) ⟨hx, hb, hml, hown, hts⟩ (c_rowsOfArea l dC dI cI cZ cJ a v g n hn hn2 ar) (cwV 1 hts (gd_V ml_X4_X4_rowsOfArea im_X4_rowsOfArea se_X4_rowsOfArea in_X4 kX4_rowsOfArea) rfl rfl rfl (by decide +kernel) ⟨Nat.le_of_ble_eq_true rfl, Nat.le_of_ble_eq_true rfl⟩) ⟨fun _ U g mk q => by obtain ⟨q0, qP, qK⟩ := q; exact ⟨q0, qP, va_K.moved (u := U) (U := U.calling g mk _) (Vm.Alike.refl U.vm) qK⟩, va_recv hK hP (ci := 4) (q0 := 0) rfl rfl, fun U hU hW => ⟨rfl, by rw [hU]; exact hP, va_K.moved hW.alike hK⟩⟩ rfl rfl hl.1 rfl (lv_room (Nat.le_of_ble_eq_true rfl)) dX4_rank_8 ⟨Nat.le_of_ble_eq_true rfl, Nat.le_of_ble_eq_true rfl⟩) (fun r8 hr8 => ?_)
    subst hr8
    refine lv_istore_n (lv' := [(2, .int (cnt (fun i => askB g i (v 0) (v 1) (v 2) ar) n)), (0, .ref (a 0)), (1, .int ar)]) hx hb dX4_rank_11 rfl hl (by decide) rfl (fun ls hl => ?_)
    refine lv_iconst (v := 1) hx hb dX4_rank_12 (by decide) ?_
    refine lv_istore_n (lv' := [(3, .int 1), (2, .int (cnt (fun i => askB g i (v 0) (v 1) (v 2) ar) n)), (0, .ref (a 0)), (1, .int ar)]) hx hb dX4_rank_13 rfl hl (by decide) rfl (fun ls hl => ?_)
    refine lv_iconst (v := 0) hx hb dX4_rank_14 (by decide) ?_
    refine lv_istore (lv' := [(4, .int 0), (3, .int 1), (2, .int (cnt (fun i => askB g i (v 0) (v 1) (v 2) ar) n)), (0, .ref (a 0)), (1, .int ar)]) hx hb dX4_rank_15 hl (by decide) rfl (fun ls hl => ?_)
    have lp : ∀ (d k : Nat), k ≤ 10 → 10 + 1 ≤ k + d → ∀ (H : Heap) (locs : List Loc), va_P (dC, dI) clA (wA cI cZ a v g) H → va_D A (wA cI cZ a v g) → va_S A s.heap H locs → ∀ (ls : Array Slot), lv_has ls 5 [(4, .int (nI k)), (3, .int (1 + rkI g v n ar k)), (2, .int (cnt (fun i => askB g i (v 0) (v 1) (v 2) ar) n)), (0, .ref (a 0)), (1, .int ar)] → W p l e (headSpec wsX4_rank ({ frames := 9, cells := 1, slots := 6, locals := 141 })).room s m ([.ref (a 0), .int ar] : List Value).toArray below meth c H locs 1 6 (vx_MQ below (va_Qi (fun (r : Int32) (u : StA) => r = 1 + rkI g v n ar n10 ∧ (inU ar 10) ∧ u = (v, g)) (atA dC dI cI cZ cJ a A) A) (vx_X (fun E : String => thr E "java/lang/IllegalArgumentException" (¬ inU ar 10) "" (False) "" (False)) (fun E1 E t => E1 = E ∧ atA dC dI cI cZ cJ a A (v, g) t) A) ([.ref (a 0), .int ar] : List Value).toArray s 1 6 A) (F0 m 17 ls []) := by
      intro d
      induction d with
      | zero => intro k h1 h2; exact absurd h2 (by omega)
      | succ d ih =>
        intro k hkn hkd H locs hP hD hS ls hl
        refine lv_iload hx hb dX4_rank_17 (lv_at hl 0 rfl) ?_
        refine lv_bipush (v := 10) hx hb dX4_rank_19 (by decide) ?_
        refine lv_icmp_ge (tgt := 43) hx hb dX4_rank_21 (by decide) (fun c21 => ?_) (fun c21 => ?_)
        · have n21 := Int32.not_lt.mpr c21
          have hkn2 : k = 10 := Nat.le_antisymm hkn ((nI_leI (a := 10) (b := k) (by decide) (by omega)).mp c21)
          have hk10 : k = n10 := by rw [n10_eq]; exact hkn2
          refine lv_iload_n hx hb dX4_rank_43 rfl (lv_at hl 1 rfl) ?_
          exact vx_ret (W.iret (v := 1 + rkI g v n ar k) hx hb hr (fun t9 ht hW => ⟨⟨_, (v, g), rfl, ⟨by rw [← hk10], ok3, rfl⟩, ⟨by rw [ht]; exact hP, va_K.moved hW.alike hK, hD⟩⟩, hS.F ht⟩) hS.2.2 dX4_rank_44)
        · have n21 := Int32.not_le.mp c21
          have hk : k < 10 := Nat.lt_of_not_le (fun h => c21 (nI_le (a := 10) h (by omega)))
          refine lv_aload_n hx hb dX4_rank_24 rfl (lv_at hl 3 rfl) ?_
          refine lv_iload hx hb dX4_rank_25 (lv_at hl 0 rfl) ?_
          refine vp_callSi (W.runV (As := [.int (nI k)]) (rest := []) ⟨hx, hb, hml, hown, hts⟩ (c_rowsOfArea l dC dI cI cZ cJ a v g n hn hn2 (nI k)) (cwV 1 hts (gd_V ml_X4_X4_rowsOfArea im_X4_rowsOfArea se_X4_rowsOfArea in_X4 kX4_rowsOfArea) rfl rfl rfl (by decide +kernel) ⟨Nat.le_of_ble_eq_true rfl, Nat.le_of_ble_eq_true rfl⟩) ⟨fun _ U g mk q => by obtain ⟨q0, qP, qK⟩ := q; exact ⟨q0, qP, va_K.moved (u := U) (U := U.calling g mk _) (Vm.Alike.refl U.vm) qK⟩, va_recv hK hP (ci := 4) (q0 := 0) rfl rfl, fun U hU hW => ⟨rfl, by rw [hU]; exact hP, va_K.moved hW.alike hK⟩⟩ rfl rfl hl.1 rfl (lv_room (Nat.le_of_ble_eq_true rfl)) dX4_rank_27 ⟨Nat.le_of_ble_eq_true rfl, Nat.le_of_ble_eq_true rfl⟩) (fun r27 hr27 => ?_)
          subst hr27
          refine lv_iload_n hx hb dX4_rank_30 rfl (lv_at hl 2 rfl) ?_
          refine lv_icmp_le (tgt := 37) hx hb dX4_rank_31 (by decide) (fun c31 => ?_) (fun c31 => ?_)
          · have n31 := Int32.not_lt.mpr c31
            refine lv_iinc (v := nI (k + 1)) (lv' := [(4, .int (nI (k + 1))), (3, .int (1 + rkI g v n ar k)), (2, .int (cnt (fun i => askB g i (v 0) (v 1) (v 2) ar) n)), (0, .ref (a 0)), (1, .int ar)]) hx hb dX4_rank_37 hl (k := 0) rfl (nI_1 k) (by decide) rfl (fun ls hl => ?_)
            refine lv_goto (tgt := 17) hx hb dX4_rank_40 (by decide) ?_
            have eL0 : (.int (1 + rkI g v n ar (k + 1)) : Value) = .int (1 + rkI g v n ar k) := (by simp [rkI, cnt_s, bI, Int32.add_assoc, c21, n21, c31, n31])
            exact ih (k + 1) (by omega) (by omega) _ _ hP hD hS ls (by rw [eL0]; exact lv_sub hl [0, 1, 2, 3, 4] rfl)
          · have n31 := Int32.not_le.mp c31
            refine lv_iinc (v := (1 + rkI g v n ar k) + 1) (lv' := [(3, .int ((1 + rkI g v n ar k) + 1)), (4, .int (nI k)), (2, .int (cnt (fun i => askB g i (v 0) (v 1) (v 2) ar) n)), (0, .ref (a 0)), (1, .int ar)]) hx hb dX4_rank_34 hl (k := 1) rfl rfl (by decide) rfl (fun ls hl => ?_)
            refine lv_iinc (v := nI (k + 1)) (lv' := [(4, .int (nI (k + 1))), (3, .int ((1 + rkI g v n ar k) + 1)), (2, .int (cnt (fun i => askB g i (v 0) (v 1) (v 2) ar) n)), (0, .ref (a 0)), (1, .int ar)]) hx hb dX4_rank_37 hl (k := 1) rfl (nI_1 k) (by decide) rfl (fun ls hl => ?_)
            refine lv_goto (tgt := 17) hx hb dX4_rank_40 (by decide) ?_
            have eL0 : (.int (1 + rkI g v n ar (k + 1)) : Value) = .int ((1 + rkI g v n ar k) + 1) := (by simp [rkI, cnt_s, bI, Int32.add_assoc, c21, n21, c31, n31])
            exact ih (k + 1) (by omega) (by omega) _ _ hP hD hS ls (by rw [eL0]; exact lv_sub hl [0, 1, 2, 3, 4] rfl)
    exact lp (10 + 1) 0 (by omega) (by omega) _ _ hP hD hS ls (lv_sub hl [0, 1, 2, 3, 4] rfl)
set_option maxHeartbeats 4000000 in
set_option maxRecDepth 100000 in
theorem c_least (l : Launch) (hl9 : l.stackTraces = false) (dC : Nat → ClassId) (dI : Nat → Nat → Nat) (cI cZ cJ : ClassId) (a : Nat → Nat) (tx : Nat → Nat) (v : Nat → Int32) (g : Nat → Nat → Int32) (sz : Nat) (x : Int32) : vx_Met l yX4_least wsX4_least ({ frames := 9, cells := 1, slots := 6, locals := 142 }) (va_Pc [.ref (a 0), .int x] (fun U => U.heap.size = sz ∧ va_P (dC, dI) clA (wA cI cZ a v g) U.heap ∧ va_K (dC, dI) clA (tyA cI cZ cJ) U ∧ va_D (fun _ => True) (wA cI cZ a v g) ∧ ZX tx (va_A (wA cI cZ a v g) sz) U U.heap)) (va_Qv (fun (u : StA) => (inR x 1 100) ∧ u = (upd v 7 x, g)) (atA dC dI cI cZ cJ a (va_A (wA cI cZ a v g) sz)) (va_A (wA cI cZ a v g) sz)) (vx_X (fun E : String => thr E "java/lang/IndexOutOfBoundsException" (¬ inR x 1 100) "" (False) "" (False)) (fun E1 E t => E1 = E ∧ atA dC dI cI cZ cJ a (va_A (wA cI cZ a v g) sz) (v, g) t) (va_A (wA cI cZ a v g) sz)) 1 6 (va_A (wA cI cZ a v g) sz) := by
  refine vx_ofW (cc := cX4_least) (maxL := 2) (ret := none) (by decide) rfl ?_
  intro p e s m args below meth c s₁ B hml hEx hv
  obtain ⟨rfl, hsz, hP, hK, hD0, hZ⟩ := hv
  have hx := B.exec
  have hb := B.bytes
  have hr := B.returns
  have hts := atoms_spec (ws := wsX4_least) B.pre
  have hown : s.vm.findClass RX4 = some m.cls := findClass_of_methodNamed B.named
  have hlocks := B.notSynchronized
  subst hsz
  have hD := hD0.self (sz := s.heap.size)
  generalize hAe : va_A (wA cI cZ a v g) s.heap.size = A at hD hZ ⊢
  have hA : ∀ q : Nat, s.heap.size ≤ q → A q := fun q h => by rw [← hAe]; exact Or.inr h
  have hS : va_S A s.heap s.heap [] := va_S.rf
  have hP : va_P (dC, dI) clA (wA cI cZ a v g) s.heap := hP
  have hl := lv_entry ([.ref (a 0), .int x]) (n := 2) (Nat.le_of_ble_eq_true rfl)
  rw [lg_entry_eq]
  generalize (lg_sl ([.ref (a 0), .int x]) ++ List.replicate (2 - (lg_sl ([.ref (a 0), .int x])).length) Slot.unset).toArray = ls at hl ⊢
  have hl : lv_has ls 2 [(0, .ref (a 0)), (1, .int x)] := hl
  refine lv_iload_n hx hb dX4_least_0 rfl (lv_at hl 1 rfl) ?_
  refine lv_iconst (v := 1) hx hb dX4_least_1 (by decide) ?_
  refine lv_bipush (v := 100) hx hb dX4_least_2 (by decide) ?_
  have hFc := va_free (wc := (wA cI cZ a v g)) hD hS hA [0, 1, 2, 3, 4, 5, 6, 7, 8, 9, 10, 11, 12, 13, 14, 15, 16, 17, 18, 19] rfl
  refine vx_callv (vx_runS (As := [.int x, .int 1, .int 100]) (rest := []) ⟨hx, hb, hml, hown, hts⟩ (c_refO l hl9 dC dI cI cZ cJ a tx v g s.heap.size x 1 100) (cwS 3 hts (gd_S ml_X4_X4_refuseOutside sm_X4_refuseOutside in_X4 kX4_refuseOutside) rfl rfl rfl (by decide +kernel) ⟨Nat.le_of_ble_eq_true rfl, Nat.le_of_ble_eq_true rfl⟩) ⟨fun _ U g mk q => by obtain ⟨q0, q1, qP, qK, qD, qZ⟩ := q; exact ⟨q0, q1, qP, va_K.moved (u := U) (U := U.calling g mk _) (Vm.Alike.refl U.vm) qK, qD, ZX.calling qZ⟩, fun U hU hW => ⟨rfl, by rw [hU], by rw [hU]; exact hP, va_K.moved hW.alike hK, hD.weaken (fun _ _ _ _ => trivial), ZX.call hZ hS hFc hW hU⟩⟩ rfl rfl hl.1 rfl (lv_room (Nat.le_of_ble_eq_true rfl)) dX4_least_4 ⟨Nat.le_of_ble_eq_true rfl, Nat.le_of_ble_eq_true rfl⟩) hS (fun q _ h => hFc q h) hFc (fun q _ h => hFc q h) (fun E4 ce q9 u9 t9 H1 locs ht hvm hp hB hz1 hk1 hS hcell hcv hcl => ?_) (fun u9 t9 H1 locs ht hvm hw hB hz1 hk1 hS => ?_)
  · obtain ⟨rfl, hP1, hK1, hD1⟩ := hB
    rw [ht] at hP1
    have hD := hD1.weaken (fun k q _ h => hFc q.1 h)
    exact vx_out (fun x h => (hEx x h).elim) hlocks hcell hcv hcl (fun t8 ht2 hal => ⟨_, (by simp [thr, hp.1, hp.2, ]), ⟨rfl, by rw [ht2]; exact hP1, va_K.moved hal hK, hD⟩, hS.F ht2⟩) hS.2.2 (by decide) (by decide)
  · obtain ⟨ok4, rfl⟩ := hw
    obtain ⟨hP, hK1, hD1⟩ := hB
    rw [ht] at hP
    have hD := hD1.weaken (fun k q _ h => hFc q.1 h)
    clear hFc hk1 hD1 hK1
    generalize H1 = H at hP hS ⊢
    have hP : va_P (dC, dI) clA (wA cI cZ a v g) H := hP
    have hD : va_D A (wA cI cZ a v g) := hD
    refine lv_aload_n hx hb dX4_least_7 rfl (lv_at hl 0 rfl) ?_
    refine va_get (D := (dC, dI)) (ci := 4) (v := .ref (a 17)) (C := RX4) (T := TX4) (N := 9) hx hb hts (fun w h => List.mem_cons_of_mem _ (iw_X4 w h)) hown hK hP 0 rfl rfl 3 (by decide) (hts _ (List.mem_cons_of_mem _ fl_X4_secrecy)) (fun _ h9 => h9) rfl dX4_least_8 ?_
    refine lv_iload_n hx hb dX4_least_11 rfl (lv_at hl 1 rfl) ?_
    have hFc := va_free (wc := (wA cI cZ a v g)) hD hS hA [0, 1, 2, 3, 4, 5, 6, 7, 8, 9, 10, 11, 12, 13, 14, 15, 16, 17, 18, 19] rfl
    refine va_callv (va_runV (As := [.int x]) (rest := []) ⟨hx, hb, hml, hown, hts⟩ (c_setLeast l dC dI cI cZ cJ a v g H.size x) (cwV 1 hts (gd_V ml_X4_X2_setLeast im_X2_setLeast se_X2_setLeast in_X2 kX2_setLeast) rfl rfl rfl (by decide +kernel) ⟨Nat.le_of_ble_eq_true rfl, Nat.le_of_ble_eq_true rfl⟩) ⟨fun _ U g mk q => by obtain ⟨q0, q1, qP, qK, qD⟩ := q; exact ⟨q0, q1, qP, va_K.moved (u := U) (U := U.calling g mk _) (Vm.Alike.refl U.vm) qK, qD⟩, va_recv hK hP (ci := 2) (q0 := 17) rfl rfl, fun U hU hW => ⟨rfl, by rw [hU], by rw [hU]; exact hP, va_K.moved hW.alike hK, hD.weaken (fun _ _ _ _ => trivial)⟩⟩ rfl rfl hl.1 rfl (lv_room (Nat.le_of_ble_eq_true rfl)) dX4_least_12 ⟨Nat.le_of_ble_eq_true rfl, Nat.le_of_ble_eq_true rfl⟩) hS (fun q _ h => hFc q h) hFc (fun u9 t9 H1 locs ht hvm hw hB hz1 hk1 hS => ?_)
    subst hw
    obtain ⟨hP, hK1, hD1⟩ := hB
    rw [ht] at hP
    have hD := hD1.weaken (fun k q _ h => hFc q.1 h)
    clear hFc hk1 hD1 hK1
    generalize H1 = H at hP hS ⊢
    have hP : va_P (dC, dI) clA (wA cI cZ a (upd v 7 x) g) H := hP
    have hD : va_D A (wA cI cZ a (upd v 7 x) g) := hD
    exact vx_ret (W.vret hx hb hr (fun t9 ht hW => ⟨⟨((upd v 7 x), g), rfl, ⟨ok4, rfl⟩, ⟨by rw [ht]; exact hP, va_K.moved hW.alike hK, hD⟩⟩, hS.F ht⟩) hS.2.2 dX4_least_15)
set_option maxHeartbeats 4000000 in
set_option maxRecDepth 100000 in
theorem c_shown (l : Launch) (hl9 : l.stackTraces = false) (dC : Nat → ClassId) (dI : Nat → Nat → Nat) (cI cZ cJ : ClassId) (a : Nat → Nat) (tx : Nat → Nat) (v : Nat → Int32) (g : Nat → Nat → Int32) (sz : Nat) (n : Nat) (hn : v 5 = nI n) (hn2 : n ≤ 200) (ar : Int32) : vx_Met l yX4_shown wsX4_shown ({ frames := 9, cells := 1, slots := 6, locals := 141 }) (va_Pc [.ref (a 0), .int ar] (fun U => U.heap.size = sz ∧ va_P (dC, dI) clA (wA cI cZ a v g) U.heap ∧ va_K (dC, dI) clA (tyA cI cZ cJ) U ∧ va_D (fun _ => True) (wA cI cZ a v g) ∧ ZX tx (va_A (wA cI cZ a v g) sz) U U.heap)) (va_Qi (fun (r : Int32) (u : StA) => r = (if (joinS v g (v 0) (v 1) n).2 14 ar.toNatClampNeg = 0 then (joinS v g (v 0) (v 1) n).2 13 ar.toNatClampNeg else -1) ∧ (inU ar 10) ∧ u = ((joinS v g (v 0) (v 1) n).1, (joinS v g (v 0) (v 1) n).2)) (atA dC dI cI cZ cJ a (va_A (wA cI cZ a v g) sz)) (va_A (wA cI cZ a v g) sz)) (vx_X (fun E : String => thr E "java/lang/IllegalArgumentException" (¬ inU ar 10) "" (False) "" (False)) (fun E1 E t => E1 = E ∧ atA dC dI cI cZ cJ a (va_A (wA cI cZ a v g) sz) (v, g) t) (va_A (wA cI cZ a v g) sz)) 1 6 (va_A (wA cI cZ a v g) sz) := by
  refine vx_ofW (cc := cX4_shown) (maxL := 2) (ret := (some .int)) (by decide) rfl ?_
  intro p e s m args below meth c s₁ B hml hEx hv
  obtain ⟨rfl, hsz, hP, hK, hD0, hZ⟩ := hv
  have hx := B.exec
  have hb := B.bytes
  have hr := B.returns
  have hts := atoms_spec (ws := wsX4_shown) B.pre
  have hown : s.vm.findClass RX4 = some m.cls := findClass_of_methodNamed B.named
  have hlocks := B.notSynchronized
  subst hsz
  have hD := hD0.self (sz := s.heap.size)
  generalize hAe : va_A (wA cI cZ a v g) s.heap.size = A at hD hZ ⊢
  have hA : ∀ q : Nat, s.heap.size ≤ q → A q := fun q h => by rw [← hAe]; exact Or.inr h
  have hS : va_S A s.heap s.heap [] := va_S.rf
  have hP : va_P (dC, dI) clA (wA cI cZ a v g) s.heap := hP
  have hl := lv_entry ([.ref (a 0), .int ar]) (n := 2) (Nat.le_of_ble_eq_true rfl)
  rw [lg_entry_eq]
  generalize (lg_sl ([.ref (a 0), .int ar]) ++ List.replicate (2 - (lg_sl ([.ref (a 0), .int ar])).length) Slot.unset).toArray = ls at hl ⊢
  have hl : lv_has ls 2 [(0, .ref (a 0)), (1, .int ar)] := hl
  refine lv_iload_n hx hb dX4_shown_0 rfl (lv_at hl 1 rfl) ?_
  refine lv_bipush (v := 10) hx hb dX4_shown_1 (by decide) ?_
  have hFc := va_free (wc := (wA cI cZ a v g)) hD hS hA [0, 1, 2, 3, 4, 5, 6, 7, 8, 9, 10, 11, 12, 13, 14, 15, 16, 17, 18, 19] rfl
  refine vx_callv (vx_runS (As := [.int ar, .int 10]) (rest := []) ⟨hx, hb, hml, hown, hts⟩ (c_refU l hl9 dC dI cI cZ cJ a tx v g s.heap.size ar 10) (cwS 2 hts (gd_S ml_X4_X4_refuseUnknown sm_X4_refuseUnknown in_X4 kX4_refuseUnknown) rfl rfl rfl (by decide +kernel) ⟨Nat.le_of_ble_eq_true rfl, Nat.le_of_ble_eq_true rfl⟩) ⟨fun _ U g mk q => by obtain ⟨q0, q1, qP, qK, qD, qZ⟩ := q; exact ⟨q0, q1, qP, va_K.moved (u := U) (U := U.calling g mk _) (Vm.Alike.refl U.vm) qK, qD, ZX.calling qZ⟩, fun U hU hW => ⟨rfl, by rw [hU], by rw [hU]; exact hP, va_K.moved hW.alike hK, hD.weaken (fun _ _ _ _ => trivial), ZX.call hZ hS hFc hW hU⟩⟩ rfl rfl hl.1 rfl (lv_room (Nat.le_of_ble_eq_true rfl)) dX4_shown_3 ⟨Nat.le_of_ble_eq_true rfl, Nat.le_of_ble_eq_true rfl⟩) hS (fun q _ h => hFc q h) hFc (fun q _ h => hFc q h) (fun E3 ce q9 u9 t9 H1 locs ht hvm hp hB hz1 hk1 hS hcell hcv hcl => ?_) (fun u9 t9 H1 locs ht hvm hw hB hz1 hk1 hS => ?_)
  · obtain ⟨rfl, hP1, hK1, hD1⟩ := hB
    rw [ht] at hP1
    have hD := hD1.weaken (fun k q _ h => hFc q.1 h)
    exact vx_out (fun x h => (hEx x h).elim) hlocks hcell hcv hcl (fun t8 ht2 hal => ⟨_, (by simp [thr, hp.1, hp.2, ]), ⟨rfl, by rw [ht2]; exact hP1, va_K.moved hal hK, hD⟩, hS.F ht2⟩) hS.2.2 (by decide) (by decide)
  · obtain ⟨ok3, rfl⟩ := hw
    obtain ⟨hP, hK1, hD1⟩ := hB
    rw [ht] at hP
    have hD := hD1.weaken (fun k q _ h => hFc q.1 h)
    clear hFc hk1 hD1 hK1
    generalize H1 = H at hP hS ⊢
    have hP : va_P (dC, dI) clA (wA cI cZ a v g) H := hP
    have hD : va_D A (wA cI cZ a v g) := hD
    have okw := ok3
    obtain ⟨kw, hkw, rfl⟩ := inU_nat (n := 10) (by decide) ok3
    refine lv_aload_n hx hb dX4_shown_6 rfl (lv_at hl 0 rfl) ?_
    refine va_get (D := (dC, dI)) (ci := 4) (v := .ref (a 17)) (C := RX4) (T := TX4) (N := 9) hx hb hts (fun w h => List.mem_cons_of_mem _ (iw_X4 w h)) hown hK hP 0 rfl rfl 3 (by decide) (hts _ (List.mem_cons_of_mem _ fl_X4_secrecy)) (fun _ h9 => h9) rfl dX4_shown_7 ?_
    refine lv_aload_n hx hb dX4_shown_10 rfl (lv_at hl 0 rfl) ?_
    refine va_get (D := (dC, dI)) (ci := 4) (v := .ref (a 5)) (C := RX4) (T := TX4) (N := 9) hx hb hts (fun w h => List.mem_cons_of_mem _ (iw_X4 w h)) hown hK hP 0 rfl rfl 1 (by decide) (hts _ (List.mem_cons_of_mem _ fl_X4_incidents)) (fun _ h9 => h9) rfl dX4_shown_11 ?_
    refine lv_aload_n hx hb dX4_shown_14 rfl (lv_at hl 0 rfl) ?_
    refine va_get (D := (dC, dI)) (ci := 4) (v := .int (v 0)) (C := RX4) (T := TX4) (N := 9) hx hb hts (fun w h => List.mem_cons_of_mem _ (iw_X4 w h)) hown hK hP 0 rfl rfl 5 (by decide) (hts _ (List.mem_cons_of_mem _ fl_X4_askedFrom)) (fun _ h9 => h9) rfl dX4_shown_15 ?_
    refine lv_aload_n hx hb dX4_shown_18 rfl (lv_at hl 0 rfl) ?_
    refine va_get (D := (dC, dI)) (ci := 4) (v := .int (v 1)) (C := RX4) (T := TX4) (N := 9) hx hb hts (fun w h => List.mem_cons_of_mem _ (iw_X4 w h)) hown hK hP 0 rfl rfl 6 (by decide) (hts _ (List.mem_cons_of_mem _ fl_X4_askedTo)) (fun _ h9 => h9) rfl dX4_shown_19 ?_
    have hFc := va_free (wc := (wA cI cZ a v g)) hD hS hA [0, 1, 2, 3, 4, 5, 6, 7, 8, 9, 10, 11, 12, 13, 14, 15, 16, 17, 18, 19] rfl
    refine va_callv (va_runV (As := [.ref (a 5), .int (v 0), .int (v 1)]) (rest := []) ⟨hx, hb, hml, hown, hts⟩ (c_join l dC dI cI cZ cJ a v g H.size n hn hn2 (v 0) (v 1)) (cwV 3 hts (gd_V ml_X4_X2_join im_X2_join se_X2_join in_X2 kX2_join) rfl rfl rfl (by decide +kernel) ⟨Nat.le_of_ble_eq_true rfl, Nat.le_of_ble_eq_true rfl⟩) ⟨fun _ U g mk q => by obtain ⟨q0, q1, qP, qK, qD⟩ := q; exact ⟨q0, q1, qP, va_K.moved (u := U) (U := U.calling g mk _) (Vm.Alike.refl U.vm) qK, qD⟩, va_recv hK hP (ci := 2) (q0 := 17) rfl rfl, fun U hU hW => ⟨rfl, by rw [hU], by rw [hU]; exact hP, va_K.moved hW.alike hK, hD.weaken (fun _ _ _ _ => trivial)⟩⟩ rfl rfl hl.1 rfl (lv_room (Nat.le_of_ble_eq_true rfl)) dX4_shown_22 ⟨Nat.le_of_ble_eq_true rfl, Nat.le_of_ble_eq_true rfl⟩) hS (fun q _ h => hFc q h) hFc (fun u9 t9 H1 locs ht hvm hw hB hz1 hk1 hS => ?_)
    subst hw
    obtain ⟨hP, hK1, hD1⟩ := hB
    rw [ht] at hP
    have hD := hD1.weaken (fun k q _ h => hFc q.1 h)
    clear hFc hk1 hD1 hK1
    generalize H1 = H at hP hS ⊢
    have hP : va_P (dC, dI) clA (wA cI cZ a (joinS v g (v 0) (v 1) n).1 (joinS v g (v 0) (v 1) n).2) H := hP
    have hD : va_D A (wA cI cZ a (joinS v g (v 0) (v 1) n).1 (joinS v g (v 0) (v 1) n).2) := hD
    refine lv_aload_n hx hb dX4_shown_25 rfl (lv_at hl 0 rfl) ?_
    refine va_get (D := (dC, dI)) (ci := 4) (v := .ref (a 17)) (C := RX4) (T := TX4) (N := 9) hx hb hts (fun w h => List.mem_cons_of_mem _ (iw_X4 w h)) hown hK hP 0 rfl rfl 3 (by decide) (hts _ (List.mem_cons_of_mem _ fl_X4_secrecy)) (fun _ h9 => h9) rfl dX4_shown_26 ?_
    refine lv_iload_n hx hb dX4_shown_29 rfl (lv_at hl 1 rfl) ?_
    refine vp_callSi (W.runV (As := [.int (nI kw)]) (rest := []) ⟨hx, hb, hml, hown, hts⟩ (c_shownA l dC dI cI cZ cJ a (joinS v g (v 0) (v 1) n).1 (joinS v g (v 0) (v 1) n).2 kw (by omega)) (cwV 1 hts (gd_V ml_X4_X2_rowsShown im_X2_rowsShown se_X2_rowsShown in_X2 kX2_rowsShown) rfl rfl rfl (by decide +kernel) ⟨Nat.le_of_ble_eq_true rfl, Nat.le_of_ble_eq_true rfl⟩) ⟨fun _ U g mk q => by obtain ⟨q0, qP, qK⟩ := q; exact ⟨q0, qP, va_K.moved (u := U) (U := U.calling g mk _) (Vm.Alike.refl U.vm) qK⟩, va_recv hK hP (ci := 2) (q0 := 17) rfl rfl, fun U hU hW => ⟨rfl, by rw [hU]; exact hP, va_K.moved hW.alike hK⟩⟩ rfl rfl hl.1 rfl (lv_room (Nat.le_of_ble_eq_true rfl)) dX4_shown_30 ⟨Nat.le_of_ble_eq_true rfl, Nat.le_of_ble_eq_true rfl⟩) (fun r30 hr30 => ?_)
    subst hr30
    exact vx_ret (W.iret (v := if (joinS v g (v 0) (v 1) n).2 14 kw = 0 then (joinS v g (v 0) (v 1) n).2 13 kw else -1) hx hb hr (fun t9 ht hW => ⟨⟨_, ((joinS v g (v 0) (v 1) n).1, (joinS v g (v 0) (v 1) n).2), rfl, ⟨by rw [nI_clamp (by omega)], okw, rfl⟩, ⟨by rw [ht]; exact hP, va_K.moved hW.alike hK, hD⟩⟩, hS.F ht⟩) hS.2.2 dX4_shown_33)
set_option maxHeartbeats 4000000 in
set_option maxRecDepth 100000 in
theorem c_joined (l : Launch) (dC : Nat → ClassId) (dI : Nat → Nat → Nat) (cI cZ cJ : ClassId) (a : Nat → Nat) (v : Nat → Int32) (g : Nat → Nat → Int32) (sz : Nat) (n : Nat) (hn : v 5 = nI n) (hn2 : n ≤ 200) : Met l yX4_joined wsX4_joined ({ frames := 4, cells := 0, slots := 0, locals := 99 }) (va_Pc [.ref (a 0)] (fun U => U.heap.size = sz ∧ va_P (dC, dI) clA (wA cI cZ a v g) U.heap ∧ va_K (dC, dI) clA (tyA cI cZ cJ) U ∧ va_D (fun _ => True) (wA cI cZ a v g))) (va_Qi (fun (r : Int32) (u : StA) => r = (joinS v g (v 0) (v 1) n).1 8 ∧ u = ((joinS v g (v 0) (v 1) n).1, (joinS v g (v 0) (v 1) n).2)) (atA dC dI cI cZ cJ a (va_A (wA cI cZ a v g) sz)) (va_A (wA cI cZ a v g) sz))  0 0 (va_A (wA cI cZ a v g) sz) := by
  refine Met.ofW (cc := cX4_joined) (maxL := 1) (ret := (some .int)) (by decide) rfl ?_
  intro p e s m args below meth c s₁ B hml hv
  obtain ⟨rfl, hsz, hP, hK, hD0⟩ := hv
  have hx := B.exec
  have hb := B.bytes
  have hr := B.returns
  have hts := atoms_spec (ws := wsX4_joined) B.pre
  have hown : s.vm.findClass RX4 = some m.cls := findClass_of_methodNamed B.named
  have hlocks := B.notSynchronized
  subst hsz
  have hD := hD0.self (sz := s.heap.size)
  generalize hAe : va_A (wA cI cZ a v g) s.heap.size = A at hD ⊢
  have hA : ∀ q : Nat, s.heap.size ≤ q → A q := fun q h => by rw [← hAe]; exact Or.inr h
  have hS : va_S A s.heap s.heap [] := va_S.rf
  have hP : va_P (dC, dI) clA (wA cI cZ a v g) s.heap := hP
  have hl := lv_entry ([.ref (a 0)]) (n := 1) (Nat.le_of_ble_eq_true rfl)
  rw [lg_entry_eq]
  generalize (lg_sl ([.ref (a 0)]) ++ List.replicate (1 - (lg_sl ([.ref (a 0)])).length) Slot.unset).toArray = ls at hl ⊢
  have hl : lv_has ls 1 [(0, .ref (a 0))] := hl
  refine lv_aload_n hx hb dX4_joined_0 rfl (lv_at hl 0 rfl) ?_
  refine va_get (D := (dC, dI)) (ci := 4) (v := .ref (a 17)) (C := RX4) (T := TX4) (N := 9) hx hb hts (fun w h => List.mem_cons_of_mem _ (iw_X4 w h)) hown hK hP 0 rfl rfl 3 (by decide) (hts _ (List.mem_cons_of_mem _ fl_X4_secrecy)) (fun _ h9 => h9) rfl dX4_joined_1 ?_
  refine lv_aload_n hx hb dX4_joined_4 rfl (lv_at hl 0 rfl) ?_
  refine va_get (D := (dC, dI)) (ci := 4) (v := .ref (a 5)) (C := RX4) (T := TX4) (N := 9) hx hb hts (fun w h => List.mem_cons_of_mem _ (iw_X4 w h)) hown hK hP 0 rfl rfl 1 (by decide) (hts _ (List.mem_cons_of_mem _ fl_X4_incidents)) (fun _ h9 => h9) rfl dX4_joined_5 ?_
  refine lv_aload_n hx hb dX4_joined_8 rfl (lv_at hl 0 rfl) ?_
  refine va_get (D := (dC, dI)) (ci := 4) (v := .int (v 0)) (C := RX4) (T := TX4) (N := 9) hx hb hts (fun w h => List.mem_cons_of_mem _ (iw_X4 w h)) hown hK hP 0 rfl rfl 5 (by decide) (hts _ (List.mem_cons_of_mem _ fl_X4_askedFrom)) (fun _ h9 => h9) rfl dX4_joined_9 ?_
  refine lv_aload_n hx hb dX4_joined_12 rfl (lv_at hl 0 rfl) ?_
  refine va_get (D := (dC, dI)) (ci := 4) (v := .int (v 1)) (C := RX4) (T := TX4) (N := 9) hx hb hts (fun w h => List.mem_cons_of_mem _ (iw_X4 w h)) hown hK hP 0 rfl rfl 6 (by decide) (hts _ (List.mem_cons_of_mem _ fl_X4_askedTo)) (fun _ h9 => h9) rfl dX4_joined_13 ?_
  have hFc := va_free (wc := (wA cI cZ a v g)) hD hS hA [0, 1, 2, 3, 4, 5, 6, 7, 8, 9, 10, 11, 12, 13, 14, 15, 16, 17, 18, 19] rfl
  refine va_callv (va_runV (As := [.ref (a 5), .int (v 0), .int (v 1)]) (rest := []) ⟨hx, hb, hml, hown, hts⟩ (c_join l dC dI cI cZ cJ a v g s.heap.size n hn hn2 (v 0) (v 1)) (cwV 3 hts (gd_V ml_X4_X2_join im_X2_join se_X2_join in_X2 kX2_join) rfl rfl rfl (by decide +kernel) ⟨Nat.le_of_ble_eq_true rfl, Nat.le_of_ble_eq_true rfl⟩) ⟨fun _ U g mk q => by obtain ⟨q0, q1, qP, qK, qD⟩ := q; exact ⟨q0, q1, qP, va_K.moved (u := U) (U := U.calling g mk _) (Vm.Alike.refl U.vm) qK, qD⟩, va_recv hK hP (ci := 2) (q0 := 17) rfl rfl, fun U hU hW => ⟨rfl, by rw [hU], by rw [hU]; exact hP, va_K.moved hW.alike hK, hD.weaken (fun _ _ _ _ => trivial)⟩⟩ rfl rfl hl.1 rfl (lv_room (Nat.le_of_ble_eq_true rfl)) dX4_joined_16 ⟨Nat.le_of_ble_eq_true rfl, Nat.le_of_ble_eq_true rfl⟩) hS (fun q _ h => hFc q h) hFc (fun u9 t9 H1 locs ht hvm hw hB hz1 hk1 hS => ?_)
  subst hw
  obtain ⟨hP, hK1, hD1⟩ := hB
  rw [ht] at hP
  have hD := hD1.weaken (fun k q _ h => hFc q.1 h)
  clear hFc hk1 hD1 hK1
  generalize H1 = H at hP hS ⊢
  have hP : va_P (dC, dI) clA (wA cI cZ a (joinS v g (v 0) (v 1) n).1 (joinS v g (v 0) (v 1) n).2) H := hP
  have hD : va_D A (wA cI cZ a (joinS v g (v 0) (v 1) n).1 (joinS v g (v 0) (v 1) n).2) := hD
  refine lv_aload_n hx hb dX4_joined_19 rfl (lv_at hl 0 rfl) ?_
  refine va_get (D := (dC, dI)) (ci := 4) (v := .ref (a 17)) (C := RX4) (T := TX4) (N := 9) hx hb hts (fun w h => List.mem_cons_of_mem _ (iw_X4 w h)) hown hK hP 0 rfl rfl 3 (by decide) (hts _ (List.mem_cons_of_mem _ fl_X4_secrecy)) (fun _ h9 => h9) rfl dX4_joined_20 ?_
  refine vp_callSi (W.runV (As := []) (rest := []) ⟨hx, hb, hml, hown, hts⟩ (c_together l dC dI cI cZ cJ a (joinS v g (v 0) (v 1) n).1 (joinS v g (v 0) (v 1) n).2 ) (cwV 0 hts (gd_V ml_X4_X2_rowsTogether im_X2_rowsTogether se_X2_rowsTogether in_X2 kX2_rowsTogether) rfl rfl rfl (by decide +kernel) ⟨Nat.le_of_ble_eq_true rfl, Nat.le_of_ble_eq_true rfl⟩) ⟨fun _ U g mk q => by obtain ⟨q0, qP, qK⟩ := q; exact ⟨q0, qP, va_K.moved (u := U) (U := U.calling g mk _) (Vm.Alike.refl U.vm) qK⟩, va_recv hK hP (ci := 2) (q0 := 17) rfl rfl, fun U hU hW => ⟨rfl, by rw [hU]; exact hP, va_K.moved hW.alike hK⟩⟩ rfl rfl hl.1 rfl (lv_room (Nat.le_of_ble_eq_true rfl)) dX4_joined_23 ⟨Nat.le_of_ble_eq_true rfl, Nat.le_of_ble_eq_true rfl⟩) (fun r23 hr23 => ?_)
  subst hr23
  exact (W.iret (v := (joinS v g (v 0) (v 1) n).1 8) hx hb hr (fun t9 ht hW => ⟨⟨_, ((joinS v g (v 0) (v 1) n).1, (joinS v g (v 0) (v 1) n).2), rfl, ⟨rfl, rfl⟩, ⟨by rw [ht]; exact hP, va_K.moved hW.alike hK, hD⟩⟩, hS.F ht⟩) hS.2.2 dX4_joined_26)
set_option maxHeartbeats 4000000 in
set_option maxRecDepth 100000 in
theorem c_work (l : Launch) (hl9 : l.stackTraces = false) (dC : Nat → ClassId) (dI : Nat → Nat → Nat) (cI cZ cJ : ClassId) (a : Nat → Nat) (tx : Nat → Nat) (v : Nat → Int32) (g : Nat → Nat → Int32) (sz : Nat) (n : Nat) (hn : v 5 = nI n) (hn2 : n ≤ 200) (st w : Int32) : vx_Met l yX4_work wsX4_work ({ frames := 9, cells := 2, slots := 12, locals := 141 }) (va_Pc [.ref (a 0), .int st, .int w] (fun U => U.heap.size = sz ∧ va_P (dC, dI) clA (wA cI cZ a v g) U.heap ∧ va_K (dC, dI) clA (tyA cI cZ cJ) U ∧ va_D (fun _ => True) (wA cI cZ a v g) ∧ ZX tx (va_A (wA cI cZ a v g) sz) U U.heap)) (va_Qi (fun (r : Int32) (u : StA) => r = (if w = 0 then cnt (fun i => workB g i st (v 0) (v 1)) n else isum (fun i => if workB g i st (v 0) (v 1) = true then secs (g 9 i) + secs (g 10 i) else 0) n) ∧ (inU st 6 ∧ inU w 2) ∧ u = (v, g)) (atA dC dI cI cZ cJ a (va_A (wA cI cZ a v g) sz)) (va_A (wA cI cZ a v g) sz)) (vx_X (fun E : String => thr E "java/lang/IllegalArgumentException" (¬ inU st 6 ∨ ¬ inU w 2) "" (False) "" (False)) (fun E1 E t => E1 = E ∧ atA dC dI cI cZ cJ a (va_A (wA cI cZ a v g) sz) (v, g) t) (va_A (wA cI cZ a v g) sz)) 2 12 (va_A (wA cI cZ a v g) sz) := by
  refine vx_ofW (cc := cX4_work) (maxL := 3) (ret := (some .int)) (by decide) rfl ?_
  intro p e s m args below meth c s₁ B hml hEx hv
  obtain ⟨rfl, hsz, hP, hK, hD0, hZ⟩ := hv
  have hx := B.exec
  have hb := B.bytes
  have hr := B.returns
  have hts := atoms_spec (ws := wsX4_work) B.pre
  have hown : s.vm.findClass RX4 = some m.cls := findClass_of_methodNamed B.named
  have hlocks := B.notSynchronized
  subst hsz
  have hD := hD0.self (sz := s.heap.size)
  generalize hAe : va_A (wA cI cZ a v g) s.heap.size = A at hD hZ ⊢
  have hA : ∀ q : Nat, s.heap.size ≤ q → A q := fun q h => by rw [← hAe]; exact Or.inr h
  have hS : va_S A s.heap s.heap [] := va_S.rf
  have hP : va_P (dC, dI) clA (wA cI cZ a v g) s.heap := hP
  have hl := lv_entry ([.ref (a 0), .int st, .int w]) (n := 3) (Nat.le_of_ble_eq_true rfl)
  rw [lg_entry_eq]
  generalize (lg_sl ([.ref (a 0), .int st, .int w]) ++ List.replicate (3 - (lg_sl ([.ref (a 0), .int st, .int w])).length) Slot.unset).toArray = ls at hl ⊢
  have hl : lv_has ls 3 [(0, .ref (a 0)), (1, .int st), (2, .int w)] := hl
  refine lv_iload_n hx hb dX4_work_0 rfl (lv_at hl 1 rfl) ?_
  refine lv_bipush (v := 6) hx hb dX4_work_1 (by decide) ?_
  have hFc := va_free (wc := (wA cI cZ a v g)) hD hS hA [0, 1, 2, 3, 4, 5, 6, 7, 8, 9, 10, 11, 12, 13, 14, 15, 16, 17, 18, 19] rfl
  refine vx_callv (vx_runS (As := [.int st, .int 6]) (rest := []) ⟨hx, hb, hml, hown, hts⟩ (c_refU l hl9 dC dI cI cZ cJ a tx v g s.heap.size st 6) (cwS 2 hts (gd_S ml_X4_X4_refuseUnknown sm_X4_refuseUnknown in_X4 kX4_refuseUnknown) rfl rfl rfl (by decide +kernel) ⟨Nat.le_of_ble_eq_true rfl, Nat.le_of_ble_eq_true rfl⟩) ⟨fun _ U g mk q => by obtain ⟨q0, q1, qP, qK, qD, qZ⟩ := q; exact ⟨q0, q1, qP, va_K.moved (u := U) (U := U.calling g mk _) (Vm.Alike.refl U.vm) qK, qD, ZX.calling qZ⟩, fun U hU hW => ⟨rfl, by rw [hU], by rw [hU]; exact hP, va_K.moved hW.alike hK, hD.weaken (fun _ _ _ _ => trivial), ZX.call hZ hS hFc hW hU⟩⟩ rfl rfl hl.1 rfl (lv_room (Nat.le_of_ble_eq_true rfl)) dX4_work_3 ⟨Nat.le_of_ble_eq_true rfl, Nat.le_of_ble_eq_true rfl⟩) hS (fun q _ h => hFc q h) hFc (fun q _ h => hFc q h) (fun E3 ce q9 u9 t9 H1 locs ht hvm hp hB hz1 hk1 hS hcell hcv hcl => ?_) (fun u9 t9 H1 locs ht hvm hw hB hz1 hk1 hS => ?_)
  · obtain ⟨rfl, hP1, hK1, hD1⟩ := hB
    rw [ht] at hP1
    have hD := hD1.weaken (fun k q _ h => hFc q.1 h)
    exact vx_out (fun x h => (hEx x h).elim) hlocks hcell hcv hcl (fun t8 ht2 hal => ⟨_, (by simp [thr, hp.1, hp.2, ]), ⟨rfl, by rw [ht2]; exact hP1, va_K.moved hal hK, hD⟩, hS.F ht2⟩) hS.2.2 (by decide) (by decide)
  · obtain ⟨ok3, rfl⟩ := hw
    obtain ⟨hP, hK1, hD1⟩ := hB
    rw [ht] at hP
    have hD := hD1.weaken (fun k q _ h => hFc q.1 h)
    clear hFc hk1 hD1 hK1
    generalize H1 = H at hP hS ⊢
    have hP : va_P (dC, dI) clA (wA cI cZ a v g) H := hP
    have hD : va_D A (wA cI cZ a v g) := hD
    refine lv_iload_n hx hb dX4_work_6 rfl (lv_at hl 2 rfl) ?_
    refine lv_iconst (v := 2) hx hb dX4_work_7 (by decide) ?_
    have hFc := va_free (wc := (wA cI cZ a v g)) hD hS hA [0, 1, 2, 3, 4, 5, 6, 7, 8, 9, 10, 11, 12, 13, 14, 15, 16, 17, 18, 19] rfl
    refine vx_callv (vx_runS (As := [.int w, .int 2]) (rest := []) ⟨hx, hb, hml, hown, hts⟩ (c_refU l hl9 dC dI cI cZ cJ a tx v g H.size w 2) (cwS 2 hts (gd_S ml_X4_X4_refuseUnknown sm_X4_refuseUnknown in_X4 kX4_refuseUnknown) rfl rfl rfl (by decide +kernel) ⟨Nat.le_of_ble_eq_true rfl, Nat.le_of_ble_eq_true rfl⟩) ⟨fun _ U g mk q => by obtain ⟨q0, q1, qP, qK, qD, qZ⟩ := q; exact ⟨q0, q1, qP, va_K.moved (u := U) (U := U.calling g mk _) (Vm.Alike.refl U.vm) qK, qD, ZX.calling qZ⟩, fun U hU hW => ⟨rfl, by rw [hU], by rw [hU]; exact hP, va_K.moved hW.alike hK, hD.weaken (fun _ _ _ _ => trivial), ZX.call hZ hS hFc hW hU⟩⟩ rfl rfl hl.1 rfl (lv_room (Nat.le_of_ble_eq_true rfl)) dX4_work_8 ⟨Nat.le_of_ble_eq_true rfl, Nat.le_of_ble_eq_true rfl⟩) hS (fun q _ h => hFc q h) hFc (fun q _ h => hFc q h) (fun E8 ce q9 u9 t9 H1 locs ht hvm hp hB hz1 hk1 hS hcell hcv hcl => ?_) (fun u9 t9 H1 locs ht hvm hw hB hz1 hk1 hS => ?_)
    · obtain ⟨rfl, hP1, hK1, hD1⟩ := hB
      rw [ht] at hP1
      have hD := hD1.weaken (fun k q _ h => hFc q.1 h)
      exact vx_out (fun x h => (hEx x h).elim) hlocks hcell hcv hcl (fun t8 ht2 hal => ⟨_, (by simp [thr, hp.1, hp.2, ok3]), ⟨rfl, by rw [ht2]; exact hP1, va_K.moved hal hK, hD⟩, hS.F ht2⟩) hS.2.2 (by decide) (by decide)
    · obtain ⟨ok8, rfl⟩ := hw
      obtain ⟨hP, hK1, hD1⟩ := hB
      rw [ht] at hP
      have hD := hD1.weaken (fun k q _ h => hFc q.1 h)
      clear hFc hk1 hD1 hK1
      generalize H1 = H at hP hS ⊢
      have hP : va_P (dC, dI) clA (wA cI cZ a v g) H := hP
      have hD : va_D A (wA cI cZ a v g) := hD
      refine lv_iload_n hx hb dX4_work_11 rfl (lv_at hl 2 rfl) ?_
      refine lv_if_ne (tgt := 34) hx hb dX4_work_12 (by decide) (fun c12 => ?_) (fun c12 => ?_)
      · refine lv_aload_n hx hb dX4_work_34 rfl (lv_at hl 0 rfl) ?_
        refine va_get (D := (dC, dI)) (ci := 4) (v := .ref (a 5)) (C := RX4) (T := TX4) (N := 9) hx hb hts (fun w h => List.mem_cons_of_mem _ (iw_X4 w h)) hown hK hP 0 rfl rfl 1 (by decide) (hts _ (List.mem_cons_of_mem _ fl_X4_incidents)) (fun _ h9 => h9) rfl dX4_work_35 ?_
        refine lv_iload_n hx hb dX4_work_38 rfl (lv_at hl 1 rfl) ?_
        refine lv_aload_n hx hb dX4_work_39 rfl (lv_at hl 0 rfl) ?_
        refine va_get (D := (dC, dI)) (ci := 4) (v := .int (v 0)) (C := RX4) (T := TX4) (N := 9) hx hb hts (fun w h => List.mem_cons_of_mem _ (iw_X4 w h)) hown hK hP 0 rfl rfl 5 (by decide) (hts _ (List.mem_cons_of_mem _ fl_X4_askedFrom)) (fun _ h9 => h9) rfl dX4_work_40 ?_
        refine lv_aload_n hx hb dX4_work_43 rfl (lv_at hl 0 rfl) ?_
        refine va_get (D := (dC, dI)) (ci := 4) (v := .int (v 1)) (C := RX4) (T := TX4) (N := 9) hx hb hts (fun w h => List.mem_cons_of_mem _ (iw_X4 w h)) hown hK hP 0 rfl rfl 6 (by decide) (hts _ (List.mem_cons_of_mem _ fl_X4_askedTo)) (fun _ h9 => h9) rfl dX4_work_44 ?_
        refine vp_callSi (W.runV (As := [.int st, .int (v 0), .int (v 1)]) (rest := []) ⟨hx, hb, hml, hown, hts⟩ (c_secondsOfStation l dC dI cI cZ cJ a v g n hn hn2 st (v 0) (v 1)) (cwV 3 hts (gd_V ml_X4_X1_secondsOfStation im_X1_secondsOfStation se_X1_secondsOfStation in_X1 kX1_secondsOfStation) rfl rfl rfl (by decide +kernel) ⟨Nat.le_of_ble_eq_true rfl, Nat.le_of_ble_eq_true rfl⟩) ⟨fun _ U g mk q => by obtain ⟨q0, qP, qK⟩ := q; exact ⟨q0, qP, va_K.moved (u := U) (U := U.calling g mk _) (Vm.Alike.refl U.vm) qK⟩, va_recv hK hP (ci := 1) (q0 := 5) rfl rfl, fun U hU hW => ⟨rfl, by rw [hU]; exact hP, va_K.moved hW.alike hK⟩⟩ rfl rfl hl.1 rfl (lv_room (Nat.le_of_ble_eq_true rfl)) dX4_work_47 ⟨Nat.le_of_ble_eq_true rfl, Nat.le_of_ble_eq_true rfl⟩) (fun r47 hr47 => ?_)
        subst hr47
        exact vx_ret (W.iret (v := isum (fun i => if workB g i st (v 0) (v 1) = true then secs (g 9 i) + secs (g 10 i) else 0) n) hx hb hr (fun t9 ht hW => ⟨⟨_, (v, g), rfl, ⟨by simp [c12], ⟨ok3, ok8⟩, rfl⟩, ⟨by rw [ht]; exact hP, va_K.moved hW.alike hK, hD⟩⟩, hS.F ht⟩) hS.2.2 dX4_work_50)
      · refine lv_aload_n hx hb dX4_work_15 rfl (lv_at hl 0 rfl) ?_
        refine va_get (D := (dC, dI)) (ci := 4) (v := .ref (a 5)) (C := RX4) (T := TX4) (N := 9) hx hb hts (fun w h => List.mem_cons_of_mem _ (iw_X4 w h)) hown hK hP 0 rfl rfl 1 (by decide) (hts _ (List.mem_cons_of_mem _ fl_X4_incidents)) (fun _ h9 => h9) rfl dX4_work_16 ?_
        refine lv_iload_n hx hb dX4_work_19 rfl (lv_at hl 1 rfl) ?_
        refine lv_aload_n hx hb dX4_work_20 rfl (lv_at hl 0 rfl) ?_
        refine va_get (D := (dC, dI)) (ci := 4) (v := .int (v 0)) (C := RX4) (T := TX4) (N := 9) hx hb hts (fun w h => List.mem_cons_of_mem _ (iw_X4 w h)) hown hK hP 0 rfl rfl 5 (by decide) (hts _ (List.mem_cons_of_mem _ fl_X4_askedFrom)) (fun _ h9 => h9) rfl dX4_work_21 ?_
        refine lv_aload_n hx hb dX4_work_24 rfl (lv_at hl 0 rfl) ?_
        refine va_get (D := (dC, dI)) (ci := 4) (v := .int (v 1)) (C := RX4) (T := TX4) (N := 9) hx hb hts (fun w h => List.mem_cons_of_mem _ (iw_X4 w h)) hown hK hP 0 rfl rfl 6 (by decide) (hts _ (List.mem_cons_of_mem _ fl_X4_askedTo)) (fun _ h9 => h9) rfl dX4_work_25 ?_
        refine vp_callSi (W.runV (As := [.int st, .int (v 0), .int (v 1)]) (rest := []) ⟨hx, hb, hml, hown, hts⟩ (c_ofStation l dC dI cI cZ cJ a v g n hn hn2 st (v 0) (v 1)) (cwV 3 hts (gd_V ml_X4_X1_ofStation im_X1_ofStation se_X1_ofStation in_X1 kX1_ofStation) rfl rfl rfl (by decide +kernel) ⟨Nat.le_of_ble_eq_true rfl, Nat.le_of_ble_eq_true rfl⟩) ⟨fun _ U g mk q => by obtain ⟨q0, qP, qK⟩ := q; exact ⟨q0, qP, va_K.moved (u := U) (U := U.calling g mk _) (Vm.Alike.refl U.vm) qK⟩, va_recv hK hP (ci := 1) (q0 := 5) rfl rfl, fun U hU hW => ⟨rfl, by rw [hU]; exact hP, va_K.moved hW.alike hK⟩⟩ rfl rfl hl.1 rfl (lv_room (Nat.le_of_ble_eq_true rfl)) dX4_work_28 ⟨Nat.le_of_ble_eq_true rfl, Nat.le_of_ble_eq_true rfl⟩) (fun r28 hr28 => ?_)
        subst hr28
        refine lv_goto (tgt := 50) hx hb dX4_work_31 (by decide) ?_
        exact vx_ret (W.iret (v := cnt (fun i => workB g i st (v 0) (v 1)) n) hx hb hr (fun t9 ht hW => ⟨⟨_, (v, g), rfl, ⟨by simp [c12], ⟨ok3, ok8⟩, rfl⟩, ⟨by rw [ht]; exact hP, va_K.moved hW.alike hK, hD⟩⟩, hS.F ht⟩) hS.2.2 dX4_work_50)
