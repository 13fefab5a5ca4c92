
theorem inR_nat {x : Int32} {a b : Nat} (hb : b < 2 ^ 31) (ha : a < 2 ^ 31) (h : inR x (nI a) (nI b)) : ∃ k : Nat, a ≤ k ∧ k ≤ b ∧ x = nI k := by
  have h0 : ¬ x < 0 := Int32.not_lt.mpr (Int32.le_trans (nI_pos' ha) h.1)
  obtain ⟨j, hj, rfl⟩ := nI_of h0
  exact ⟨j, (nI_leI ha hj).mp h.1, (nI_leI hj hb).mp h.2, rfl⟩
/-- the counts of the first k periods -/
def trG (v : Nat → Int32) (g : Nat → Nat → Int32) (fr dy : Int32) (n : Nat) : Nat → Nat → Nat → Int32
  | 0 => g
  | k + 1 => upg (trG v g fr dy n k) 12 k (cnt (fun i => askB (trG v g fr dy n k) i (fr + nI k * dy) (fr + nI k * dy + dy - 1) (v 2) (v 3)) n)
noncomputable def trA (g : Nat → Nat → Int32) (np : Nat) (w : Int32) : Int32 := if w = 0 then sumI g np else lowT (if w = 1 then ordI g np np 0 0 (sumI g np) else facI np) (ordI g np np 0 0 (sumI g np)) (facI np)

set_option maxHeartbeats 4000000 in
set_option maxRecDepth 100000 in
theorem c_trend (l : Launch) (hl9 : l.stackTraces = false) (dC : Nat → ClassId) (dI : Nat → Nat → Nat) (cI cZ cJ : ClassId) (a : Nat → Nat) (tx : Nat → Nat) (v : Nat → Int32) (g : Nat → Nat → Int32) (sz : Nat) (n : Nat) (hn : v 5 = nI n) (hn2 : n ≤ 200) (fr dy pr w : Int32) : vx_Met l yX4_trend wsX4_trend ({ frames := 10, cells := 4, slots := 24, locals := 277 }) (va_Pc [.ref (a 0), .int fr, .int dy, .int pr, .int w] (fun U => U.heap.size = sz ∧ va_P (dC, dI) clA (wA cI cZ a v g) U.heap ∧ va_K (dC, dI) clA (tyA cI cZ cJ) U ∧ va_D (fun _ => True) (wA cI cZ a v g) ∧ ZX tx (va_A (wA cI cZ a v g) sz) U U.heap)) (va_Qi (fun (r : Int32) (u : StA) => r = trA (trG v g fr dy n pr.toNatClampNeg) pr.toNatClampNeg w ∧ (inU w 3 ∧ inR pr 2 6 ∧ inR dy 1 1000 ∧ inR fr 0 (10000 - dy * pr)) ∧ u = (upd v 6 pr, trG v g fr dy n pr.toNatClampNeg)) (atA dC dI cI cZ cJ a (va_A (wA cI cZ a v g) sz)) (va_A (wA cI cZ a v g) sz)) (vx_X (fun E : String => thr E "java/lang/IllegalArgumentException" (¬ inU w 3) "java/lang/IndexOutOfBoundsException" (¬ inR pr 2 6 ∨ ¬ inR dy 1 1000 ∨ ¬ inR fr 0 (10000 - dy * pr)) "" (False)) (fun E1 E t => E1 = E ∧ atA dC dI cI cZ cJ a (va_A (wA cI cZ a v g) sz) (v, g) t) (va_A (wA cI cZ a v g) sz)) 4 24 (va_A (wA cI cZ a v g) sz) := by
  refine vx_ofW (cc := cX4_trend) (maxL := 7) (ret := (some .int)) (by decide) rfl ?_
  intro p e s m args below meth c s₁ B hml hEx hv
  obtain ⟨rfl, hsz, hP, hK, hD0, hZ⟩ := hv
  have hx := B.exec
  have hb := B.bytes
  have hr := B.returns
  have hts := atoms_spec (ws := wsX4_trend) B.pre
  have hown : s.vm.findClass RX4 = some m.cls := findClass_of_methodNamed B.named
  have hlocks := B.notSynchronized
  subst hsz
  have hD := hD0.self (sz := s.heap.size)
  generalize hAe : va_A (wA cI cZ a v g) s.heap.size = A at hD hZ ⊢
  have hA : ∀ q : Nat, s.heap.size ≤ q → A q := fun q h => by rw [← hAe]; exact Or.inr h
  have hS : va_S A s.heap s.heap [] := va_S.rf
  have hP : va_P (dC, dI) clA (wA cI cZ a v g) s.heap := hP
  have hl := lv_entry ([.ref (a 0), .int fr, .int dy, .int pr, .int w]) (n := 7) (Nat.le_of_ble_eq_true rfl)
  rw [lg_entry_eq]
  generalize (lg_sl ([.ref (a 0), .int fr, .int dy, .int pr, .int w]) ++ List.replicate (7 - (lg_sl ([.ref (a 0), .int fr, .int dy, .int pr, .int w])).length) Slot.unset).toArray = ls at hl ⊢
  have hl : lv_has ls 7 [(0, .ref (a 0)), (1, .int fr), (2, .int dy), (3, .int pr), (4, .int w)] := hl
  refine lv_iload hx hb dX4_trend_0 (lv_at hl 4 rfl) ?_
  refine lv_iconst (v := 3) hx hb dX4_trend_2 (by decide) ?_
  have hFc := va_free (wc := (wA cI cZ a v g)) hD hS hA [0, 1, 2, 3, 4, 5, 6, 7, 8, 9, 10, 11, 12, 13, 14, 15, 16, 17, 18, 19] rfl
  refine vx_callv (vx_runS (As := [.int w, .int 3]) (rest := []) ⟨hx, hb, hml, hown, hts⟩ (c_refU l hl9 dC dI cI cZ cJ a tx v g s.heap.size w 3) (cwS 2 hts (gd_S ml_X4_X4_refuseUnknown sm_X4_refuseUnknown in_X4 kX4_refuseUnknown) rfl rfl rfl (by decide +kernel) ⟨Nat.le_of_ble_eq_true rfl, Nat.le_of_ble_eq_true rfl⟩) ⟨fun _ U g mk q => by obtain ⟨q0, q1, qP, qK, qD, qZ⟩ := q; exact ⟨q0, q1, qP, va_K.moved (u := U) (U := U.calling g mk _) (Vm.Alike.refl U.vm) qK, qD, ZX.calling qZ⟩, fun U hU hW => ⟨rfl, by rw [hU], by rw [hU]; exact hP, va_K.moved hW.alike hK, hD.weaken (fun _ _ _ _ => trivial), ZX.call hZ hS hFc hW hU⟩⟩ rfl rfl hl.1 rfl (lv_room (Nat.le_of_ble_eq_true rfl)) dX4_trend_3 ⟨Nat.le_of_ble_eq_true rfl, Nat.le_of_ble_eq_true rfl⟩) hS (fun q _ h => hFc q h) hFc (fun q _ h => hFc q h) (fun E3 ce q9 u9 t9 H1 locs ht hvm hp hB hz1 hk1 hS hcell hcv hcl => ?_) (fun u9 t9 H1 locs ht hvm hw hB hz1 hk1 hS => ?_)
  · obtain ⟨rfl, hP1, hK1, hD1⟩ := hB
    rw [ht] at hP1
    have hD := hD1.weaken (fun k q _ h => hFc q.1 h)
    exact vx_out (fun x h => (hEx x h).elim) hlocks hcell hcv hcl (fun t8 ht2 hal => ⟨_, (by simp [thr, hp.1, hp.2, ]), ⟨rfl, by rw [ht2]; exact hP1, va_K.moved hal hK, hD⟩, hS.F ht2⟩) hS.2.2 (by decide) (by decide)
  · obtain ⟨ok3, rfl⟩ := hw
    obtain ⟨hP, hK1, hD1⟩ := hB
    rw [ht] at hP
    have hD := hD1.weaken (fun k q _ h => hFc q.1 h)
    clear hFc hk1 hD1 hK1
    generalize H1 = H at hP hS ⊢
    have hP : va_P (dC, dI) clA (wA cI cZ a v g) H := hP
    have hD : va_D A (wA cI cZ a v g) := hD
    refine lv_iload_n hx hb dX4_trend_6 rfl (lv_at hl 3 rfl) ?_
    refine lv_iconst (v := 2) hx hb dX4_trend_7 (by decide) ?_
    refine lv_bipush (v := 6) hx hb dX4_trend_8 (by decide) ?_
    have hFc := va_free (wc := (wA cI cZ a v g)) hD hS hA [0, 1, 2, 3, 4, 5, 6, 7, 8, 9, 10, 11, 12, 13, 14, 15, 16, 17, 18, 19] rfl
    refine vx_callv (vx_runS (As := [.int pr, .int 2, .int 6]) (rest := []) ⟨hx, hb, hml, hown, hts⟩ (c_refO l hl9 dC dI cI cZ cJ a tx v g H.size pr 2 6) (cwS 3 hts (gd_S ml_X4_X4_refuseOutside sm_X4_refuseOutside in_X4 kX4_refuseOutside) rfl rfl rfl (by decide +kernel) ⟨Nat.le_of_ble_eq_true rfl, Nat.le_of_ble_eq_true rfl⟩) ⟨fun _ U g mk q => by obtain ⟨q0, q1, qP, qK, qD, qZ⟩ := q; exact ⟨q0, q1, qP, va_K.moved (u := U) (U := U.calling g mk _) (Vm.Alike.refl U.vm) qK, qD, ZX.calling qZ⟩, fun U hU hW => ⟨rfl, by rw [hU], by rw [hU]; exact hP, va_K.moved hW.alike hK, hD.weaken (fun _ _ _ _ => trivial), ZX.call hZ hS hFc hW hU⟩⟩ rfl rfl hl.1 rfl (lv_room (Nat.le_of_ble_eq_true rfl)) dX4_trend_10 ⟨Nat.le_of_ble_eq_true rfl, Nat.le_of_ble_eq_true rfl⟩) hS (fun q _ h => hFc q h) hFc (fun q _ h => hFc q h) (fun E10 ce q9 u9 t9 H1 locs ht hvm hp hB hz1 hk1 hS hcell hcv hcl => ?_) (fun u9 t9 H1 locs ht hvm hw hB hz1 hk1 hS => ?_)
    · obtain ⟨rfl, hP1, hK1, hD1⟩ := hB
      rw [ht] at hP1
      have hD := hD1.weaken (fun k q _ h => hFc q.1 h)
      exact vx_out (fun x h => (hEx x h).elim) hlocks hcell hcv hcl (fun t8 ht2 hal => ⟨_, (by simp [thr, hp.1, hp.2, ok3]), ⟨rfl, by rw [ht2]; exact hP1, va_K.moved hal hK, hD⟩, hS.F ht2⟩) hS.2.2 (by decide) (by decide)
    · obtain ⟨ok10, rfl⟩ := hw
      obtain ⟨hP, hK1, hD1⟩ := hB
      rw [ht] at hP
      have hD := hD1.weaken (fun k q _ h => hFc q.1 h)
      clear hFc hk1 hD1 hK1
      generalize H1 = H at hP hS ⊢
      have hP : va_P (dC, dI) clA (wA cI cZ a v g) H := hP
      have hD : va_D A (wA cI cZ a v g) := hD
      refine lv_iload_n hx hb dX4_trend_13 rfl (lv_at hl 2 rfl) ?_
      refine lv_iconst (v := 1) hx hb dX4_trend_14 (by decide) ?_
      refine lv_sipush (v := 1000) hx hb dX4_trend_15 (by decide) ?_
      have hFc := va_free (wc := (wA cI cZ a v g)) hD hS hA [0, 1, 2, 3, 4, 5, 6, 7, 8, 9, 10, 11, 12, 13, 14, 15, 16, 17, 18, 19] rfl
      refine vx_callv (vx_runS (As := [.int dy, .int 1, .int 1000]) (rest := []) ⟨hx, hb, hml, hown, hts⟩ (c_refO l hl9 dC dI cI cZ cJ a tx v g H.size dy 1 1000) (cwS 3 hts (gd_S ml_X4_X4_refuseOutside sm_X4_refuseOutside in_X4 kX4_refuseOutside) rfl rfl rfl (by decide +kernel) ⟨Nat.le_of_ble_eq_true rfl, Nat.le_of_ble_eq_true rfl⟩) ⟨fun _ U g mk q => by obtain ⟨q0, q1, qP, qK, qD, qZ⟩ := q; exact ⟨q0, q1, qP, va_K.moved (u := U) (U := U.calling g mk _) (Vm.Alike.refl U.vm) qK, qD, ZX.calling qZ⟩, fun U hU hW => ⟨rfl, by rw [hU], by rw [hU]; exact hP, va_K.moved hW.alike hK, hD.weaken (fun _ _ _ _ => trivial), ZX.call hZ hS hFc hW hU⟩⟩ rfl rfl hl.1 rfl (lv_room (Nat.le_of_ble_eq_true rfl)) dX4_trend_18 ⟨Nat.le_of_ble_eq_true rfl, Nat.le_of_ble_eq_true rfl⟩) hS (fun q _ h => hFc q h) hFc (fun q _ h => hFc q h) (fun E18 ce q9 u9 t9 H1 locs ht hvm hp hB hz1 hk1 hS hcell hcv hcl => ?_) (fun u9 t9 H1 locs ht hvm hw hB hz1 hk1 hS => ?_)
      · obtain ⟨rfl, hP1, hK1, hD1⟩ := hB
        rw [ht] at hP1
        have hD := hD1.weaken (fun k q _ h => hFc q.1 h)
        exact vx_out (fun x h => (hEx x h).elim) hlocks hcell hcv hcl (fun t8 ht2 hal => ⟨_, (by simp [thr, hp.1, hp.2, ok3, ok10]), ⟨rfl, by rw [ht2]; exact hP1, va_K.moved hal hK, hD⟩, hS.F ht2⟩) hS.2.2 (by decide) (by decide)
      · obtain ⟨ok18, rfl⟩ := hw
        obtain ⟨hP, hK1, hD1⟩ := hB
        rw [ht] at hP
        have hD := hD1.weaken (fun k q _ h => hFc q.1 h)
        clear hFc hk1 hD1 hK1
        generalize H1 = H at hP hS ⊢
        have hP : va_P (dC, dI) clA (wA cI cZ a v g) H := hP
        have hD : va_D A (wA cI cZ a v g) := hD
        refine lv_iload_n hx hb dX4_trend_21 rfl (lv_at hl 1 rfl) ?_
        refine lv_iconst (v := 0) hx hb dX4_trend_22 (by decide) ?_
        refine lv_sipush (v := 10000) hx hb dX4_trend_23 (by decide) ?_
        refine lv_iload_n hx hb dX4_trend_26 rfl (lv_at hl 2 rfl) ?_
        refine lv_iload_n hx hb dX4_trend_27 rfl (lv_at hl 3 rfl) ?_
        refine lv_imul hx hb dX4_trend_28 ?_
        refine lv_isub hx hb dX4_trend_29 ?_
        have hFc := va_free (wc := (wA cI cZ a v g)) hD hS hA [0, 1, 2, 3, 4, 5, 6, 7, 8, 9, 10, 11, 12, 13, 14, 15, 16, 17, 18, 19] rfl
        refine vx_callv (vx_runS (As := [.int fr, .int 0, .int (10000 - (dy * pr))]) (rest := []) ⟨hx, hb, hml, hown, hts⟩ (c_refO l hl9 dC dI cI cZ cJ a tx v g H.size fr 0 (10000 - (dy * pr))) (cwS 3 hts (gd_S ml_X4_X4_refuseOutside sm_X4_refuseOutside in_X4 kX4_refuseOutside) rfl rfl rfl (by decide +kernel) ⟨Nat.le_of_ble_eq_true rfl, Nat.le_of_ble_eq_true rfl⟩) ⟨fun _ U g mk q => by obtain ⟨q0, q1, qP, qK, qD, qZ⟩ := q; exact ⟨q0, q1, qP, va_K.moved (u := U) (U := U.calling g mk _) (Vm.Alike.refl U.vm) qK, qD, ZX.calling qZ⟩, fun U hU hW => ⟨rfl, by rw [hU], by rw [hU]; exact hP, va_K.moved hW.alike hK, hD.weaken (fun _ _ _ _ => trivial), ZX.call hZ hS hFc hW hU⟩⟩ rfl rfl hl.1 rfl (lv_room (Nat.le_of_ble_eq_true rfl)) dX4_trend_30 ⟨Nat.le_of_ble_eq_true rfl, Nat.le_of_ble_eq_true rfl⟩) hS (fun q _ h => hFc q h) hFc (fun q _ h => hFc q h) (fun E30 ce q9 u9 t9 H1 locs ht hvm hp hB hz1 hk1 hS hcell hcv hcl => ?_) (fun u9 t9 H1 locs ht hvm hw hB hz1 hk1 hS => ?_)
        · obtain ⟨rfl, hP1, hK1, hD1⟩ := hB
          rw [ht] at hP1
          have hD := hD1.weaken (fun k q _ h => hFc q.1 h)
          exact vx_out (fun x h => (hEx x h).elim) hlocks hcell hcv hcl (fun t8 ht2 hal => ⟨_, (by simp [thr, hp.1, hp.2, ok3, ok10, ok18]), ⟨rfl, by rw [ht2]; exact hP1, va_K.moved hal hK, hD⟩, hS.F ht2⟩) hS.2.2 (by decide) (by decide)
        · obtain ⟨ok30, rfl⟩ := hw
          obtain ⟨hP, hK1, hD1⟩ := hB
          rw [ht] at hP
          have hD := hD1.weaken (fun k q _ h => hFc q.1 h)
          clear hFc hk1 hD1 hK1
          generalize H1 = H at hP hS ⊢
          have hP : va_P (dC, dI) clA (wA cI cZ a v g) H := hP
          have hD : va_D A (wA cI cZ a v g) := hD
          have okp := ok10
          obtain ⟨np, hnp1, hnp2, rfl⟩ := inR_nat (a := 2) (b := 6) (by decide) (by decide) ok10
          refine lv_aload_n hx hb dX4_trend_33 rfl (lv_at hl 0 rfl) ?_
          refine va_get (D := (dC, dI)) (ci := 4) (v := .ref (a 15)) (C := RX4) (T := TX4) (N := 9) hx hb hts (fun w h => List.mem_cons_of_mem _ (iw_X4 w h)) hown hK hP 0 rfl rfl 2 (by decide) (hts _ (List.mem_cons_of_mem _ fl_X4_trendCounts)) (fun _ h9 => h9) rfl dX4_trend_34 ?_
          refine lv_iload_n hx hb dX4_trend_37 rfl (lv_at hl 3 rfl) ?_
          have hFc := va_free (wc := (wA cI cZ a v g)) hD hS hA [0, 1, 2, 3, 4, 5, 6, 7, 8, 9, 10, 11, 12, 13, 14, 15, 16, 17, 18, 19] rfl
          refine va_callv (va_runV (As := [.int (nI np)]) (rest := []) ⟨hx, hb, hml, hown, hts⟩ (c_start l dC dI cI cZ cJ a v g H.size (nI np) np rfl hnp2) (cwV 1 hts (gd_V ml_X4_X3_start im_X3_start se_X3_start in_X3 kX3_start) rfl rfl rfl (by decide +kernel) ⟨Nat.le_of_ble_eq_true rfl, Nat.le_of_ble_eq_true rfl⟩) ⟨fun _ U g mk q => by obtain ⟨q0, q1, qP, qK, qD⟩ := q; exact ⟨q0, q1, qP, va_K.moved (u := U) (U := U.calling g mk _) (Vm.Alike.refl U.vm) qK, qD⟩, va_recv hK hP (ci := 3) (q0 := 15) rfl rfl, fun U hU hW => ⟨rfl, by rw [hU], by rw [hU]; exact hP, va_K.moved hW.alike hK, hD.weaken (fun _ _ _ _ => trivial)⟩⟩ rfl rfl hl.1 rfl (lv_room (Nat.le_of_ble_eq_true rfl)) dX4_trend_38 ⟨Nat.le_of_ble_eq_true rfl, Nat.le_of_ble_eq_true rfl⟩) hS (fun q _ h => hFc q h) hFc (fun u9 t9 H1 locs ht hvm hw hB hz1 hk1 hS => ?_)
          subst hw
          obtain ⟨hP, hK1, hD1⟩ := hB
          rw [ht] at hP
          have hD := hD1.weaken (fun k q _ h => hFc q.1 h)
          clear hFc hk1 hD1 hK1
          generalize H1 = H at hP hS ⊢
          have hP : va_P (dC, dI) clA (wA cI cZ a (upd v 6 (nI np)) g) H := hP
          have hD : va_D A (wA cI cZ a (upd v 6 (nI np)) g) := hD
          refine lv_iconst (v := 0) hx hb dX4_trend_41 (by decide) ?_
          refine lv_istore (lv' := [(5, .int 0), (0, .ref (a 0)), (1, .int fr), (2, .int dy), (3, .int (nI np)), (4, .int w)]) hx hb dX4_trend_42 hl (by decide) rfl (fun ls hl => ?_)
          have lp : ∀ (d k : Nat), k ≤ np → np + 1 ≤ k + d → ∀ (H : Heap) (locs : List Loc), va_P (dC, dI) clA (wA cI cZ a (upd v 6 (nI np)) (trG v g fr dy n k)) H → va_D A (wA cI cZ a (upd v 6 (nI np)) (trG v g fr dy n k)) → va_S A s.heap H locs → ∀ (ls : Array Slot), lv_has ls 7 [(5, .int (nI k)), (0, .ref (a 0)), (1, .int fr), (2, .int dy), (3, .int (nI np)), (4, .int w)] → W p l e (headSpec wsX4_trend ({ frames := 10, cells := 4, slots := 24, locals := 277 })).room s m ([.ref (a 0), .int fr, .int dy, .int (nI np), .int w] : List Value).toArray below meth c H locs 4 24 (vx_MQ below (va_Qi (fun (r : Int32) (u : StA) => r = trA (trG v g fr dy n (nI np).toNatClampNeg) (nI np).toNatClampNeg w ∧ (inU w 3 ∧ inR (nI np) 2 6 ∧ inR dy 1 1000 ∧ inR fr 0 (10000 - dy * (nI np))) ∧ u = (upd v 6 (nI np), trG v g fr dy n (nI np).toNatClampNeg)) (atA dC dI cI cZ cJ a A) A) (vx_X (fun E : String => thr E "java/lang/IllegalArgumentException" (¬ inU w 3) "java/lang/IndexOutOfBoundsException" (¬ inR (nI np) 2 6 ∨ ¬ inR dy 1 1000 ∨ ¬ inR fr 0 (10000 - dy * (nI np))) "" (False)) (fun E1 E t => E1 = E ∧ atA dC dI cI cZ cJ a A (v, g) t) A) ([.ref (a 0), .int fr, .int dy, .int (nI np), .int w] : List Value).toArray s 4 24 A) (F0 m 44 ls []) := by
            intro d
            induction d with
            | zero => intro k h1 h2; exact absurd h2 (by omega)
            | succ d ih =>
              intro k hkn hkd H locs hP hD hS ls hl
              refine lv_iload hx hb dX4_trend_44 (lv_at hl 0 rfl) ?_
              refine lv_iload_n hx hb dX4_trend_46 rfl (lv_at hl 4 rfl) ?_
              refine lv_icmp_ge (tgt := 96) hx hb dX4_trend_47 (by decide) (fun c47 => ?_) (fun c47 => ?_)
              · have n47 := Int32.not_lt.mpr c47
                have hkn2 : k = np := Nat.le_antisymm hkn ((nI_leI (by omega) (by omega)).mp c47)
                refine lv_iload hx hb dX4_trend_96 (lv_at hl 5 rfl) ?_
                refine lv_if_ne (tgt := 109) hx hb dX4_trend_98 (by decide) (fun c98 => ?_) (fun c98 => ?_)
                · refine lv_aload_n hx hb dX4_trend_109 rfl (lv_at hl 1 rfl) ?_
                  refine va_get (D := (dC, dI)) (ci := 4) (v := .ref (a 15)) (C := RX4) (T := TX4) (N := 9) hx hb hts (fun w h => List.mem_cons_of_mem _ (iw_X4 w h)) hown hK hP 0 rfl rfl 2 (by decide) (hts _ (List.mem_cons_of_mem _ fl_X4_trendCounts)) (fun _ h9 => h9) rfl dX4_trend_110 ?_
                  refine lv_aload_n hx hb dX4_trend_113 rfl (lv_at hl 1 rfl) ?_
                  refine va_get (D := (dC, dI)) (ci := 4) (v := .ref (a 15)) (C := RX4) (T := TX4) (N := 9) hx hb hts (fun w h => List.mem_cons_of_mem _ (iw_X4 w h)) hown hK hP 0 rfl rfl 2 (by decide) (hts _ (List.mem_cons_of_mem _ fl_X4_trendCounts)) (fun _ h9 => h9) rfl dX4_trend_114 ?_
                  refine vp_callSi (W.runV (As := []) (rest := [.ref (a 15)]) ⟨hx, hb, hml, hown, hts⟩ (c_tsum l dC dI cI cZ cJ a (upd v 6 (nI np)) (trG v g fr dy n k) np rfl hnp2) (cwV 0 hts (gd_V ml_X4_X3_sum im_X3_sum se_X3_sum in_X3 kX3_sum) rfl rfl rfl (by decide +kernel) ⟨Nat.le_of_ble_eq_true rfl, Nat.le_of_ble_eq_true rfl⟩) ⟨fun _ U g mk q => by obtain ⟨q0, qP, qK⟩ := q; exact ⟨q0, qP, va_K.moved (u := U) (U := U.calling g mk _) (Vm.Alike.refl U.vm) qK⟩, va_recv hK hP (ci := 3) (q0 := 15) rfl rfl, fun U hU hW => ⟨rfl, by rw [hU]; exact hP, va_K.moved hW.alike hK⟩⟩ rfl rfl hl.1 rfl (lv_room (Nat.le_of_ble_eq_true rfl)) dX4_trend_117 ⟨Nat.le_of_ble_eq_true rfl, Nat.le_of_ble_eq_true rfl⟩) (fun r117 hr117 => ?_)
                  subst hr117
                  refine vp_callSi (W.runV (As := [.int (sumI (trG v g fr dy n k) np)]) (rest := []) ⟨hx, hb, hml, hown, hts⟩ (c_notBelow l dC dI cI cZ cJ a (upd v 6 (nI np)) (trG v g fr dy n k) np rfl hnp2 (sumI (trG v g fr dy n k) np)) (cwV 1 hts (gd_V ml_X4_X3_ordersNotBelow im_X3_ordersNotBelow se_X3_ordersNotBelow in_X3 kX3_ordersNotBelow) rfl rfl rfl (by decide +kernel) ⟨Nat.le_of_ble_eq_true rfl, Nat.le_of_ble_eq_true rfl⟩) ⟨fun _ U g mk q => by obtain ⟨q0, qP, qK⟩ := q; exact ⟨q0, qP, va_K.moved (u := U) (U := U.calling g mk _) (Vm.Alike.refl U.vm) qK⟩, va_recv hK hP (ci := 3) (q0 := 15) rfl rfl, fun U hU hW => ⟨rfl, by rw [hU]; exact hP, va_K.moved hW.alike hK⟩⟩ rfl rfl hl.1 rfl (lv_room (Nat.le_of_ble_eq_true rfl)) dX4_trend_120 ⟨Nat.le_of_ble_eq_true rfl, Nat.le_of_ble_eq_true rfl⟩) (fun r120 hr120 => ?_)
                  subst hr120
                  refine lv_istore (lv' := [(5, .int (ordI (trG v g fr dy n k) np np 0 0 (sumI (trG v g fr dy n k) np))), (0, .ref (a 0)), (1, .int fr), (2, .int dy), (3, .int (nI np)), (4, .int w)]) hx hb dX4_trend_123 hl (by decide) rfl (fun ls hl => ?_)
                  refine lv_aload_n hx hb dX4_trend_125 rfl (lv_at hl 1 rfl) ?_
                  refine va_get (D := (dC, dI)) (ci := 4) (v := .ref (a 15)) (C := RX4) (T := TX4) (N := 9) hx hb hts (fun w h => List.mem_cons_of_mem _ (iw_X4 w h)) hown hK hP 0 rfl rfl 2 (by decide) (hts _ (List.mem_cons_of_mem _ fl_X4_trendCounts)) (fun _ h9 => h9) rfl dX4_trend_126 ?_
                  refine vp_callSi (W.runV (As := []) (rest := []) ⟨hx, hb, hml, hown, hts⟩ (c_orders l dC dI cI cZ cJ a (upd v 6 (nI np)) (trG v g fr dy n k) np rfl hnp2 (by omega)) (cwV 0 hts (gd_V ml_X4_X3_orders im_X3_orders se_X3_orders in_X3 kX3_orders) rfl rfl rfl (by decide +kernel) ⟨Nat.le_of_ble_eq_true rfl, Nat.le_of_ble_eq_true rfl⟩) ⟨fun _ U g mk q => by obtain ⟨q0, qP, qK⟩ := q; exact ⟨q0, qP, va_K.moved (u := U) (U := U.calling g mk _) (Vm.Alike.refl U.vm) qK⟩, va_recv hK hP (ci := 3) (q0 := 15) rfl rfl, fun U hU hW => ⟨rfl, by rw [hU]; exact hP, va_K.moved hW.alike hK⟩⟩ rfl rfl hl.1 rfl (lv_room (Nat.le_of_ble_eq_true rfl)) dX4_trend_129 ⟨Nat.le_of_ble_eq_true rfl, Nat.le_of_ble_eq_true rfl⟩) (fun r129 hr129 => ?_)
                  subst hr129
                  refine lv_istore (lv' := [(6, .int (facI np)), (5, .int (ordI (trG v g fr dy n k) np np 0 0 (sumI (trG v g fr dy n k) np))), (0, .ref (a 0)), (1, .int fr), (2, .int dy), (3, .int (nI np)), (4, .int w)]) hx hb dX4_trend_132 hl (by decide) rfl (fun ls hl => ?_)
                  refine lv_iload hx hb dX4_trend_134 (lv_at hl 6 rfl) ?_
                  refine lv_iconst (v := 1) hx hb dX4_trend_136 (by decide) ?_
                  refine lv_icmp_ne (tgt := 145) hx hb dX4_trend_137 (by decide) (fun c137 => ?_) (fun c137 => ?_)
                  · refine lv_iload hx hb dX4_trend_145 (lv_at hl 0 rfl) ?_
                    refine lv_iload hx hb dX4_trend_147 (lv_at hl 1 rfl) ?_
                    refine lv_iload hx hb dX4_trend_149 (lv_at hl 0 rfl) ?_
                    refine vp_callSi (W.runS (As := [.int (facI np), .int (ordI (trG v g fr dy n k) np np 0 0 (sumI (trG v g fr dy n k) np)), .int (facI np)]) (rest := []) ⟨hx, hb, hml, hown, hts⟩ (c_lowest l dC dI cI cZ cJ a (upd v 6 (nI np)) (trG v g fr dy n k) (facI np) (ordI (trG v g fr dy n k) np np 0 0 (sumI (trG v g fr dy n k) np)) (facI np)) (cwS 3 hts (gd_S ml_X4_X4_inLowestTerms sm_X4_inLowestTerms in_X4 kX4_inLowestTerms) rfl rfl rfl (by decide +kernel) ⟨Nat.le_of_ble_eq_true rfl, Nat.le_of_ble_eq_true rfl⟩) ⟨fun _ U g mk q => by obtain ⟨q0, qP, qK⟩ := q; exact ⟨q0, qP, va_K.moved (u := U) (U := U.calling g mk _) (Vm.Alike.refl U.vm) qK⟩, fun U hU hW => ⟨rfl, by rw [hU]; exact hP, va_K.moved hW.alike hK⟩⟩ rfl rfl hl.1 rfl (lv_room (Nat.le_of_ble_eq_true rfl)) dX4_trend_151 ⟨Nat.le_of_ble_eq_true rfl, Nat.le_of_ble_eq_true rfl⟩) (fun r151 hr151 => ?_)
                    subst hr151
                    exact vx_ret (W.iret (v := lowT (facI np) (ordI (trG v g fr dy n k) np np 0 0 (sumI (trG v g fr dy n k) np)) (facI np)) hx hb hr (fun t9 ht hW => ⟨⟨_, ((upd v 6 (nI np)), (trG v g fr dy n k)), rfl, ⟨by subst hkn2; rw [nI_clamp (by omega)]; simp [trA, c47, n47, c98, c137], ⟨ok3, okp, ok18, ok30⟩, by subst hkn2; rw [nI_clamp (by omega)]⟩, ⟨by rw [ht]; exact hP, va_K.moved hW.alike hK, hD⟩⟩, hS.F ht⟩) hS.2.2 dX4_trend_154)
                  · refine lv_iload hx hb dX4_trend_140 (lv_at hl 1 rfl) ?_
                    refine lv_goto (tgt := 147) hx hb dX4_trend_142 (by decide) ?_
                    refine lv_iload hx hb dX4_trend_147 (lv_at hl 1 rfl) ?_
                    refine lv_iload hx hb dX4_trend_149 (lv_at hl 0 rfl) ?_
                    refine vp_callSi (W.runS (As := [.int (ordI (trG v g fr dy n k) np np 0 0 (sumI (trG v g fr dy n k) np)), .int (ordI (trG v g fr dy n k) np np 0 0 (sumI (trG v g fr dy n k) np)), .int (facI np)]) (rest := []) ⟨hx, hb, hml, hown, hts⟩ (c_lowest l dC dI cI cZ cJ a (upd v 6 (nI np)) (trG v g fr dy n k) (ordI (trG v g fr dy n k) np np 0 0 (sumI (trG v g fr dy n k) np)) (ordI (trG v g fr dy n k) np np 0 0 (sumI (trG v g fr dy n k) np)) (facI np)) (cwS 3 hts (gd_S ml_X4_X4_inLowestTerms sm_X4_inLowestTerms in_X4 kX4_inLowestTerms) rfl rfl rfl (by decide +kernel) ⟨Nat.le_of_ble_eq_true rfl, Nat.le_of_ble_eq_true rfl⟩) ⟨fun _ U g mk q => by obtain ⟨q0, qP, qK⟩ := q; exact ⟨q0, qP, va_K.moved (u := U) (U := U.calling g mk _) (Vm.Alike.refl U.vm) qK⟩, fun U hU hW => ⟨rfl, by rw [hU]; exact hP, va_K.moved hW.alike hK⟩⟩ rfl rfl hl.1 rfl (lv_room (Nat.le_of_ble_eq_true rfl)) dX4_trend_151 ⟨Nat.le_of_ble_eq_true rfl, Nat.le_of_ble_eq_true rfl⟩) (fun r151 hr151 => ?_)
                    subst hr151
                    exact vx_ret (W.iret (v := lowT (ordI (trG v g fr dy n k) np np 0 0 (sumI (trG v g fr dy n k) np)) (ordI (trG v g fr dy n k) np np 0 0 (sumI (trG v g fr dy n k) np)) (facI np)) hx hb hr (fun t9 ht hW => ⟨⟨_, ((upd v 6 (nI np)), (trG v g fr dy n k)), rfl, ⟨by subst hkn2; rw [nI_clamp (by omega)]; simp [trA, c47, n47, c98, c137], ⟨ok3, okp, ok18, ok30⟩, by subst hkn2; rw [nI_clamp (by omega)]⟩, ⟨by rw [ht]; exact hP, va_K.moved hW.alike hK, hD⟩⟩, hS.F ht⟩) hS.2.2 dX4_trend_154)
                · refine lv_aload_n hx hb dX4_trend_101 rfl (lv_at hl 1 rfl) ?_
                  refine va_get (D := (dC, dI)) (ci := 4) (v := .ref (a 15)) (C := RX4) (T := TX4) (N := 9) hx hb hts (fun w h => List.mem_cons_of_mem _ (iw_X4 w h)) hown hK hP 0 rfl rfl 2 (by decide) (hts _ (List.mem_cons_of_mem _ fl_X4_trendCounts)) (fun _ h9 => h9) rfl dX4_trend_102 ?_
                  refine vp_callSi (W.runV (As := []) (rest := []) ⟨hx, hb, hml, hown, hts⟩ (c_tsum l dC dI cI cZ cJ a (upd v 6 (nI np)) (trG v g fr dy n k) np rfl hnp2) (cwV 0 hts (gd_V ml_X4_X3_sum im_X3_sum se_X3_sum in_X3 kX3_sum) rfl rfl rfl (by decide +kernel) ⟨Nat.le_of_ble_eq_true rfl, Nat.le_of_ble_eq_true rfl⟩) ⟨fun _ U g mk q => by obtain ⟨q0, qP, qK⟩ := q; exact ⟨q0, qP, va_K.moved (u := U) (U := U.calling g mk _) (Vm.Alike.refl U.vm) qK⟩, va_recv hK hP (ci := 3) (q0 := 15) rfl rfl, fun U hU hW => ⟨rfl, by rw [hU]; exact hP, va_K.moved hW.alike hK⟩⟩ rfl rfl hl.1 rfl (lv_room (Nat.le_of_ble_eq_true rfl)) dX4_trend_105 ⟨Nat.le_of_ble_eq_true rfl, Nat.le_of_ble_eq_true rfl⟩) (fun r105 hr105 => ?_)
                  subst hr105
                  exact vx_ret (W.iret (v := sumI (trG v g fr dy n k) np) hx hb hr (fun t9 ht hW => ⟨⟨_, ((upd v 6 (nI np)), (trG v g fr dy n k)), rfl, ⟨by subst hkn2; rw [nI_clamp (by omega)]; simp [trA, c47, n47, c98], ⟨ok3, okp, ok18, ok30⟩, by subst hkn2; rw [nI_clamp (by omega)]⟩, ⟨by rw [ht]; exact hP, va_K.moved hW.alike hK, hD⟩⟩, hS.F ht⟩) hS.2.2 dX4_trend_108)
              · have n47 := Int32.not_le.mp c47
                have hk : k < np := Nat.lt_of_not_le (fun h => c47 (nI_le h (by omega)))
                refine lv_iload_n hx hb dX4_trend_50 rfl (lv_at hl 2 rfl) ?_
                refine lv_iload hx hb dX4_trend_51 (lv_at hl 0 rfl) ?_
                refine lv_iload_n hx hb dX4_trend_53 rfl (lv_at hl 3 rfl) ?_
                refine lv_imul hx hb dX4_trend_54 ?_
                refine lv_iadd hx hb dX4_trend_55 ?_
                refine lv_istore (lv' := [(6, .int (fr + ((nI k) * dy))), (5, .int (nI k)), (0, .ref (a 0)), (1, .int fr), (2, .int dy), (3, .int (nI np)), (4, .int w)]) hx hb dX4_trend_56 hl (by decide) rfl (fun ls hl => ?_)
                refine lv_aload_n hx hb dX4_trend_58 rfl (lv_at hl 2 rfl) ?_
                refine va_get (D := (dC, dI)) (ci := 4) (v := .ref (a 15)) (C := RX4) (T := TX4) (N := 9) hx hb hts (fun w h => List.mem_cons_of_mem _ (iw_X4 w h)) hown hK hP 0 rfl rfl 2 (by decide) (hts _ (List.mem_cons_of_mem _ fl_X4_trendCounts)) (fun _ h9 => h9) rfl dX4_trend_59 ?_
                refine lv_iload hx hb dX4_trend_62 (lv_at hl 1 rfl) ?_
                refine lv_aload_n hx hb dX4_trend_64 rfl (lv_at hl 2 rfl) ?_
                refine va_get (D := (dC, dI)) (ci := 4) (v := .ref (a 5)) (C := RX4) (T := TX4) (N := 9) hx hb hts (fun w h => List.mem_cons_of_mem _ (iw_X4 w h)) hown hK hP 0 rfl rfl 1 (by decide) (hts _ (List.mem_cons_of_mem _ fl_X4_incidents)) (fun _ h9 => h9) rfl dX4_trend_65 ?_
                refine lv_iload hx hb dX4_trend_68 (lv_at hl 0 rfl) ?_
                refine lv_iload hx hb dX4_trend_70 (lv_at hl 0 rfl) ?_
                refine lv_iload_n hx hb dX4_trend_72 rfl (lv_at hl 4 rfl) ?_
                refine lv_iadd hx hb dX4_trend_73 ?_
                refine lv_iconst (v := 1) hx hb dX4_trend_74 (by decide) ?_
                refine lv_isub hx hb dX4_trend_75 ?_
                refine lv_aload_n hx hb dX4_trend_76 rfl (lv_at hl 2 rfl) ?_
                refine va_get (D := (dC, dI)) (ci := 4) (v := .int (v 2)) (C := RX4) (T := TX4) (N := 9) hx hb hts (fun w h => List.mem_cons_of_mem _ (iw_X4 w h)) hown hK hP 0 rfl rfl 7 (by decide) (hts _ (List.mem_cons_of_mem _ fl_X4_askedKind)) (fun _ h9 => h9) rfl dX4_trend_77 ?_
                refine lv_aload_n hx hb dX4_trend_80 rfl (lv_at hl 2 rfl) ?_
                refine va_get (D := (dC, dI)) (ci := 4) (v := .int (v 3)) (C := RX4) (T := TX4) (N := 9) hx hb hts (fun w h => List.mem_cons_of_mem _ (iw_X4 w h)) hown hK hP 0 rfl rfl 8 (by decide) (hts _ (List.mem_cons_of_mem _ fl_X4_askedArea)) (fun _ h9 => h9) rfl dX4_trend_81 ?_
                refine vp_callSi (W.runV (As := [.int (fr + ((nI k) * dy)), .int (((fr + ((nI k) * dy)) + dy) - 1), .int (v 2), .int (v 3)]) (rest := [.int (nI k), .ref (a 15)]) ⟨hx, hb, hml, hown, hts⟩ (c_number l dC dI cI cZ cJ a (upd v 6 (nI np)) (trG v g fr dy n k) n hn hn2 (fr + ((nI k) * dy)) (((fr + ((nI k) * dy)) + dy) - 1) (v 2) (v 3)) (cwV 4 hts (gd_V ml_X4_X1_number im_X1_number se_X1_number in_X1 kX1_number) rfl rfl rfl (by decide +kernel) ⟨Nat.le_of_ble_eq_true rfl, Nat.le_of_ble_eq_true rfl⟩) ⟨fun _ U g mk q => by obtain ⟨q0, qP, qK⟩ := q; exact ⟨q0, qP, va_K.moved (u := U) (U := U.calling g mk _) (Vm.Alike.refl U.vm) qK⟩, va_recv hK hP (ci := 1) (q0 := 5) rfl rfl, fun U hU hW => ⟨rfl, by rw [hU]; exact hP, va_K.moved hW.alike hK⟩⟩ rfl rfl hl.1 rfl (lv_room (Nat.le_of_ble_eq_true rfl)) dX4_trend_84 ⟨Nat.le_of_ble_eq_true rfl, Nat.le_of_ble_eq_true rfl⟩) (fun r84 hr84 => ?_)
                subst hr84
                have hFc := va_free (wc := (wA cI cZ a (upd v 6 (nI np)) (trG v g fr dy n k))) hD hS hA [0, 1, 2, 3, 4, 5, 6, 7, 8, 9, 10, 11, 12, 13, 14, 15, 16, 17, 18, 19] rfl
                refine va_callv (va_runV (As := [.int (nI k), .int (cnt (fun i => askB (trG v g fr dy n k) i (fr + ((nI k) * dy)) (((fr + ((nI k) * dy)) + dy) - 1) (v 2) (v 3)) n)]) (rest := []) ⟨hx, hb, hml, hown, hts⟩ (c_setCount l dC dI cI cZ cJ a (upd v 6 (nI np)) (trG v g fr dy n k) H.size np rfl hnp2 k (by omega) (cnt (fun i => askB (trG v g fr dy n k) i (fr + ((nI k) * dy)) (((fr + ((nI k) * dy)) + dy) - 1) (v 2) (v 3)) n)) (cwV 2 hts (gd_V ml_X4_X3_setCount im_X3_setCount se_X3_setCount in_X3 kX3_setCount) rfl rfl rfl (by decide +kernel) ⟨Nat.le_of_ble_eq_true rfl, Nat.le_of_ble_eq_true rfl⟩) ⟨fun _ U g mk q => by obtain ⟨q0, q1, qP, qK, qD⟩ := q; exact ⟨q0, q1, qP, va_K.moved (u := U) (U := U.calling g mk _) (Vm.Alike.refl U.vm) qK, qD⟩, va_recv hK hP (ci := 3) (q0 := 15) rfl rfl, fun U hU hW => ⟨rfl, by rw [hU], by rw [hU]; exact hP, va_K.moved hW.alike hK, hD.weaken (fun _ _ _ _ => trivial)⟩⟩ rfl rfl hl.1 rfl (lv_room (Nat.le_of_ble_eq_true rfl)) dX4_trend_87 ⟨Nat.le_of_ble_eq_true rfl, Nat.le_of_ble_eq_true rfl⟩) hS (fun q _ h => hFc q h) hFc (fun u9 t9 H1 locs ht hvm hw hB hz1 hk1 hS => ?_)
                subst hw
                obtain ⟨hP, hK1, hD1⟩ := hB
                rw [ht] at hP
                have hD := hD1.weaken (fun k q _ h => hFc q.1 h)
                clear hFc hk1 hD1 hK1
                generalize H1 = H at hP hS ⊢
                have hP : va_P (dC, dI) clA (wA cI cZ a (upd v 6 (nI np)) (upg (trG v g fr dy n k) 12 k (cnt (fun i => askB (trG v g fr dy n k) i (fr + ((nI k) * dy)) (((fr + ((nI k) * dy)) + dy) - 1) (v 2) (v 3)) n))) H := hP
                have hD : va_D A (wA cI cZ a (upd v 6 (nI np)) (upg (trG v g fr dy n k) 12 k (cnt (fun i => askB (trG v g fr dy n k) i (fr + ((nI k) * dy)) (((fr + ((nI k) * dy)) + dy) - 1) (v 2) (v 3)) n))) := hD
                refine lv_iinc (v := nI (k + 1)) (lv' := [(5, .int (nI (k + 1))), (6, .int (fr + ((nI k) * dy))), (0, .ref (a 0)), (1, .int fr), (2, .int dy), (3, .int (nI np)), (4, .int w)]) hx hb dX4_trend_90 hl (k := 1) rfl (nI_1 k) (by decide) rfl (fun ls hl => ?_)
                refine lv_goto (tgt := 44) hx hb dX4_trend_93 (by decide) ?_
                have eG : (trG v g fr dy n (k + 1)) = (upg (trG v g fr dy n k) 12 k (cnt (fun i => askB (trG v g fr dy n k) i (fr + ((nI k) * dy)) (((fr + ((nI k) * dy)) + dy) - 1) (v 2) (v 3)) n)) := rfl
                exact ih (k + 1) (by omega) (by omega) _ _ (by rw [eG]; exact hP) (by rw [eG]; exact hD) hS ls (lv_sub hl [0, 2, 3, 4, 5, 6] rfl)
          exact lp (np + 1) 0 (by omega) (by omega) _ _ hP hD hS ls (lv_sub hl [0, 1, 2, 3, 4, 5] rfl)
