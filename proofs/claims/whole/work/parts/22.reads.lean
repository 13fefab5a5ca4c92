
def sumI (g : Nat → Nat → Int32) (np : Nat) : Int32 := isum (fun j => gainI g np j (msk j)) np
/-- ways to go on behind the periods taken, and end not below the goal -/
def ordI (g : Nat → Nat → Int32) (np : Nat) : Nat → Int32 → Int32 → Int32 → Int32
  | 0, _, sm, gl => if gl ≤ sm then 1 else 0
  | o + 1, tk, sm, gl => isum (fun i => if takB (nI i) tk = true then 0 else ordI g np o (tk ||| ((1 : Int32) <<< (nI i &&& 31))) (sm + gainI g np i tk) gl) np

set_option maxHeartbeats 4000000 in
set_option maxRecDepth 100000 in
theorem c_tsum (l : Launch) (dC : Nat → ClassId) (dI : Nat → Nat → Nat) (cI cZ cJ : ClassId) (a : Nat → Nat) (v : Nat → Int32) (g : Nat → Nat → Int32)  (np : Nat) (hnp : v 6 = nI np) (hnp2 : np ≤ 6)  : Met l yX3_sum wsX3_sum ({ frames := 2, cells := 0, slots := 0, locals := 46 }) (va_Pc [.ref (a 15)] (fun U => va_P (dC, dI) clA (wA cI cZ a v g) U.heap ∧ va_K (dC, dI) clA (tyA cI cZ cJ) U)) (vp_Si (fun r => r = sumI g np)) 0 0 (fun _ => False) := by
  refine Met.ofW (cc := cX3_sum) (maxL := 4) (ret := (some .int)) (by decide) rfl ?_
  intro p e s m args below meth c s₁ B hml hv
  obtain ⟨rfl, hP, hK⟩ := hv
  have hx := B.exec
  have hb := B.bytes
  have hr := B.returns
  have hts := atoms_spec (ws := wsX3_sum) B.pre
  have hown : s.vm.findClass RX3 = some m.cls := findClass_of_methodNamed B.named
  have hlocks := B.notSynchronized
  have hl := lv_entry ([.ref (a 15)]) (n := 4) (Nat.le_of_ble_eq_true rfl)
  rw [lg_entry_eq]
  generalize (lg_sl ([.ref (a 15)]) ++ List.replicate (4 - (lg_sl ([.ref (a 15)])).length) Slot.unset).toArray = ls at hl ⊢
  have hl : lv_has ls 4 [(0, .ref (a 15))] := hl
  refine lv_iconst (v := 0) hx hb dX3_sum_0 (by decide) ?_
  refine lv_istore_n (lv' := [(1, .int 0), (0, .ref (a 15))]) hx hb dX3_sum_1 rfl hl (by decide) rfl (fun ls hl => ?_)
  refine lv_iconst (v := 0) hx hb dX3_sum_2 (by decide) ?_
  refine lv_istore_n (lv' := [(2, .int 0), (1, .int 0), (0, .ref (a 15))]) hx hb dX3_sum_3 rfl hl (by decide) rfl (fun ls hl => ?_)
  refine lv_iconst (v := 0) hx hb dX3_sum_4 (by decide) ?_
  refine lv_istore_n (lv' := [(3, .int 0), (2, .int 0), (1, .int 0), (0, .ref (a 15))]) hx hb dX3_sum_5 rfl hl (by decide) rfl (fun ls hl => ?_)
  have lp : ∀ (d k : Nat), 0 ≤ k → k ≤ np → np + 1 ≤ k + d → ∀ (acc er : Int32), acc = isum (fun j => gainI g np j (msk j)) k → er = msk k → ∀ (ls : Array Slot), lv_has ls 4 [(3, .int (nI k)), (1, .int acc), (2, .int er), (0, .ref (a 15))] → W p l e (headSpec wsX3_sum ({ frames := 2, cells := 0, slots := 0, locals := 46 })).room s m ([.ref (a 15)] : List Value).toArray below meth c s.heap [] 0 0 (MQ below (vp_Si (fun r => r = sumI g np)) ([.ref (a 15)] : List Value).toArray s 0 0 (fun _ => False)) (F0 m 6 ls []) := by
    intro d
    induction d with
    | zero => intro k h0 h1 h2; exact absurd h2 (by omega)
    | succ d ih =>
      intro k hk0 hkn hkd acc er ea_acc ea_er ls hl
      subst ea_acc ea_er
      refine lv_iload_n hx hb dX3_sum_6 rfl (lv_at hl 0 rfl) ?_
      refine lv_aload_n hx hb dX3_sum_7 rfl (lv_at hl 3 rfl) ?_
      refine va_get (D := (dC, dI)) (ci := 3) (v := .int (v 6)) (C := RX3) (T := TX3) (N := 2) hx hb hts (fun w h => List.mem_cons_of_mem _ (iw_X3 w h)) hown hK hP 15 rfl rfl 1 (by decide) (hts _ (List.mem_cons_of_mem _ fl_X3_periods)) (fun _ h9 => h9) rfl dX3_sum_8 ?_
      refine lv_icmp_ge (tgt := 42) hx hb dX3_sum_11 (by decide) (fun c11 => ?_) (fun c11 => ?_)
      · have n11 := Int32.not_lt.mpr c11
        rw [hnp] at c11
        have hkn2 : k = np := Nat.le_antisymm hkn ((nI_leI (by omega) (by omega)).mp c11)
        refine lv_iload_n hx hb dX3_sum_42 rfl (lv_at hl 1 rfl) ?_
        exact W.iret (v := isum (fun j => gainI g np j (msk j)) k) hx hb hr (fun t ht hW => ⟨_, rfl, (by subst hkn2; rfl), ht⟩) (fun _ h => absurd h List.not_mem_nil) dX3_sum_43
      · have n11 := Int32.not_le.mp c11
        rw [hnp] at c11
        have hk : k < np := Nat.lt_of_not_le (fun h => c11 (nI_le h (by omega)))
        refine lv_iload_n hx hb dX3_sum_14 rfl (lv_at hl 1 rfl) ?_
        refine lv_aload_n hx hb dX3_sum_15 rfl (lv_at hl 3 rfl) ?_
        refine va_get (D := (dC, dI)) (ci := 3) (v := .ref (a 16)) (C := RX3) (T := TX3) (N := 2) hx hb hts (fun w h => List.mem_cons_of_mem _ (iw_X3 w h)) hown hK hP 15 rfl rfl 0 (by decide) (hts _ (List.mem_cons_of_mem _ fl_X3_counts)) (fun _ h9 => h9) rfl dX3_sum_16 ?_
        refine lv_aload_n hx hb dX3_sum_19 rfl (lv_at hl 3 rfl) ?_
        refine va_get (D := (dC, dI)) (ci := 3) (v := .int (v 6)) (C := RX3) (T := TX3) (N := 2) hx hb hts (fun w h => List.mem_cons_of_mem _ (iw_X3 w h)) hown hK hP 15 rfl rfl 1 (by decide) (hts _ (List.mem_cons_of_mem _ fl_X3_periods)) (fun _ h9 => h9) rfl dX3_sum_20 ?_
        refine lv_iload_n hx hb dX3_sum_23 rfl (lv_at hl 0 rfl) ?_
        refine lv_iload_n hx hb dX3_sum_24 rfl (lv_at hl 2 rfl) ?_
        refine vp_callSi (W.runS (As := [.ref (a 16), .int (v 6), .int (nI k), .int (msk k)]) (rest := [.int (isum (fun j => gainI g np j (msk j)) k)]) ⟨hx, hb, hml, hown, hts⟩ (c_gain l dC dI cI cZ cJ a v g (v 6) np hnp hnp2 k (msk k) (by omega)) (cwS 4 hts (gd_S ml_X3_X3_gain sm_X3_gain in_X3 kX3_gain) rfl rfl rfl (by decide +kernel) ⟨Nat.le_of_ble_eq_true rfl, Nat.le_of_ble_eq_true rfl⟩) ⟨fun _ U g mk q => by obtain ⟨q0, qP, qK⟩ := q; exact ⟨q0, qP, va_K.moved (u := U) (U := U.calling g mk _) (Vm.Alike.refl U.vm) qK⟩, fun U hU hW => ⟨rfl, by rw [hU]; exact hP, va_K.moved hW.alike hK⟩⟩ rfl rfl hl.1 rfl (lv_room (Nat.le_of_ble_eq_true rfl)) dX3_sum_25 ⟨Nat.zero_le _, Nat.zero_le _⟩) (fun r25 hr25 => ?_)
        subst hr25
        refine lv_iadd hx hb dX3_sum_28 ?_
        refine lv_istore_n (lv' := [(1, .int ((isum (fun j => gainI g np j (msk j)) k) + (gainI g np k (msk k)))), (3, .int (nI k)), (2, .int (msk k)), (0, .ref (a 15))]) hx hb dX3_sum_29 rfl hl (by decide) rfl (fun ls hl => ?_)
        refine lv_iload_n hx hb dX3_sum_30 rfl (lv_at hl 2 rfl) ?_
        refine lv_iconst (v := 1) hx hb dX3_sum_31 (by decide) ?_
        refine lv_iload_n hx hb dX3_sum_32 rfl (lv_at hl 1 rfl) ?_
        refine lv_ishl hx hb dX3_sum_33 ?_
        refine lv_ior hx hb dX3_sum_34 ?_
        refine lv_istore_n (lv' := [(2, .int ((msk k) ||| (1 <<< ((nI k) &&& 31)))), (1, .int ((isum (fun j => gainI g np j (msk j)) k) + (gainI g np k (msk k)))), (3, .int (nI k)), (0, .ref (a 15))]) hx hb dX3_sum_35 rfl hl (by decide) rfl (fun ls hl => ?_)
        refine lv_iinc (v := nI (k + 1)) (lv' := [(3, .int (nI (k + 1))), (2, .int ((msk k) ||| (1 <<< ((nI k) &&& 31)))), (1, .int ((isum (fun j => gainI g np j (msk j)) k) + (gainI g np k (msk k)))), (0, .ref (a 15))]) hx hb dX3_sum_36 hl (k := 2) rfl (nI_1 k) (by decide) rfl (fun ls hl => ?_)
        refine lv_goto (tgt := 6) hx hb dX3_sum_39 (by decide) ?_
        exact ih (k + 1) (by omega) (by omega) (by omega) _ _ (by simp [isum_s, msk, c11, n11]) (by simp [isum_s, msk, c11, n11]) ls (lv_sub hl [0, 2, 1, 3] rfl)
  exact lp (np + 1) 0 (by omega) (by omega) (by omega) _ _ (rfl) (rfl) ls (lv_sub hl [0, 2, 1, 3] rfl)
set_option maxHeartbeats 4000000 in
set_option maxRecDepth 100000 in
theorem c_orders (l : Launch) (dC : Nat → ClassId) (dI : Nat → Nat → Nat) (cI cZ cJ : ClassId) (a : Nat → Nat) (v : Nat → Int32) (g : Nat → Nat → Int32) (np : Nat) (hnp : v 6 = nI np) (hnp2 : np ≤ 6) (hnp1 : 1 ≤ np) : Met l yX3_orders wsX3_orders ({ frames := 0, cells := 0, slots := 0, locals := 0 }) (va_Pc [.ref (a 15)] (fun U => va_P (dC, dI) clA (wA cI cZ a v g) U.heap ∧ va_K (dC, dI) clA (tyA cI cZ cJ) U)) (vp_Si (fun r => r = facI np)) 0 0 (fun _ => False) := by
  refine Met.ofW (cc := cX3_orders) (maxL := 3) (ret := (some .int)) (by decide) rfl ?_
  intro p e s m args below meth c s₁ B hml hv
  obtain ⟨rfl, hP, hK⟩ := hv
  have hx := B.exec
  have hb := B.bytes
  have hr := B.returns
  have hts := atoms_spec (ws := wsX3_orders) B.pre
  have hown : s.vm.findClass RX3 = some m.cls := findClass_of_methodNamed B.named
  have hlocks := B.notSynchronized
  have hl := lv_entry ([.ref (a 15)]) (n := 3) (Nat.le_of_ble_eq_true rfl)
  rw [lg_entry_eq]
  generalize (lg_sl ([.ref (a 15)]) ++ List.replicate (3 - (lg_sl ([.ref (a 15)])).length) Slot.unset).toArray = ls at hl ⊢
  have hl : lv_has ls 3 [(0, .ref (a 15))] := hl
  refine lv_iconst (v := 1) hx hb dX3_orders_0 (by decide) ?_
  refine lv_istore_n (lv' := [(1, .int 1), (0, .ref (a 15))]) hx hb dX3_orders_1 rfl hl (by decide) rfl (fun ls hl => ?_)
  refine lv_iconst (v := 2) hx hb dX3_orders_2 (by decide) ?_
  refine lv_istore_n (lv' := [(2, .int 2), (1, .int 1), (0, .ref (a 15))]) hx hb dX3_orders_3 rfl hl (by decide) rfl (fun ls hl => ?_)
  have lp : ∀ (d k : Nat), 2 ≤ k → k ≤ (np + 1) → (np + 1) + 1 ≤ k + d → ∀ (acc : Int32), acc = facI (k - 1) → ∀ (ls : Array Slot), lv_has ls 3 [(2, .int (nI k)), (1, .int acc), (0, .ref (a 15))] → W p l e (headSpec wsX3_orders ({ frames := 0, cells := 0, slots := 0, locals := 0 })).room s m ([.ref (a 15)] : List Value).toArray below meth c s.heap [] 0 0 (MQ below (vp_Si (fun r => r = facI np)) ([.ref (a 15)] : List Value).toArray s 0 0 (fun _ => False)) (F0 m 4 ls []) := by
    intro d
    induction d with
    | zero => intro k h0 h1 h2; exact absurd h2 (by omega)
    | succ d ih =>
      intro k hk0 hkn hkd acc ea_acc ls hl
      subst ea_acc
      refine lv_iload_n hx hb dX3_orders_4 rfl (lv_at hl 0 rfl) ?_
      refine lv_aload_n hx hb dX3_orders_5 rfl (lv_at hl 2 rfl) ?_
      refine va_get (D := (dC, dI)) (ci := 3) (v := .int (v 6)) (C := RX3) (T := TX3) (N := 2) hx hb hts (fun w h => List.mem_cons_of_mem _ (iw_X3 w h)) hown hK hP 15 rfl rfl 1 (by decide) (hts _ (List.mem_cons_of_mem _ fl_X3_periods)) (fun _ h9 => h9) rfl dX3_orders_6 ?_
      refine lv_icmp_gt (tgt := 22) hx hb dX3_orders_9 (by decide) (fun c9 => ?_) (fun c9 => ?_)
      · have n9 := Int32.not_le.mpr c9
        rw [hnp] at c9
        have hkn2 : k = np + 1 := Nat.le_antisymm hkn ((nI_ltI (by omega) (by omega)).mp c9)
        refine lv_iload_n hx hb dX3_orders_22 rfl (lv_at hl 1 rfl) ?_
        exact W.iret (v := facI (k - 1)) hx hb hr (fun t ht hW => ⟨_, rfl, (by subst hkn2; rfl), ht⟩) (fun _ h => absurd h List.not_mem_nil) dX3_orders_23
      · have n9 := Int32.not_lt.mp c9
        rw [hnp] at c9
        have hk : k < np + 1 := Nat.lt_of_not_le (fun h => c9 (nI_lt h (by omega)))
        refine lv_iload_n hx hb dX3_orders_12 rfl (lv_at hl 1 rfl) ?_
        refine lv_iload_n hx hb dX3_orders_13 rfl (lv_at hl 0 rfl) ?_
        refine lv_imul hx hb dX3_orders_14 ?_
        refine lv_istore_n (lv' := [(1, .int ((facI (k - 1)) * (nI k))), (2, .int (nI k)), (0, .ref (a 15))]) hx hb dX3_orders_15 rfl hl (by decide) rfl (fun ls hl => ?_)
        refine lv_iinc (v := nI (k + 1)) (lv' := [(2, .int (nI (k + 1))), (1, .int ((facI (k - 1)) * (nI k))), (0, .ref (a 15))]) hx hb dX3_orders_16 hl (k := 1) rfl (nI_1 k) (by decide) rfl (fun ls hl => ?_)
        refine lv_goto (tgt := 4) hx hb dX3_orders_19 (by decide) ?_
        exact ih (k + 1) (by omega) (by omega) (by omega) _ (by obtain ⟨m, rfl⟩ : ∃ m, k = m + 2 := ⟨k - 2, by omega⟩; rfl) ls (lv_sub hl [0, 1, 2] rfl)
  exact lp ((np + 1) + 1) 2 (by omega) (by omega) (by omega) _ (rfl) ls (lv_sub hl [0, 1, 2] rfl)
set_option maxHeartbeats 4000000 in
set_option maxRecDepth 100000 in
theorem c_ord0 (l : Launch) (dC : Nat → ClassId) (dI : Nat → Nat → Nat) (cI cZ cJ : ClassId) (a : Nat → Nat) (v : Nat → Int32) (g : Nat → Nat → Int32) (pr : Int32) (np : Nat) (hnp : pr = nI np) (hnp2 : np ≤ 6) (tk op sm gl : Int32) (hop : op = nI 0) : Met l yX3_ordersBehind wsX3_ordersBehind ({ frames := 0 + 2, cells := 0, slots := 0, locals := 28 * 0 + 60 }) (va_Pc [.ref (a 16), .int pr, .int tk, .int op, .int sm, .int gl] (fun U => va_P (dC, dI) clA (wA cI cZ a v g) U.heap ∧ va_K (dC, dI) clA (tyA cI cZ cJ) U)) (vp_Si (fun r => r = ordI g np 0 tk sm gl)) 0 0 (fun _ => False) := by
  refine Met.ofW (cc := cX3_ordersBehind) (maxL := 9) (ret := (some .int)) (by decide) rfl ?_
  intro p e s m args below meth c s₁ B hml hv
  obtain ⟨rfl, hP, hK⟩ := hv
  have hx := B.exec
  have hb := B.bytes
  have hr := B.returns
  have hts := atoms_spec (ws := wsX3_ordersBehind) B.pre
  have hown : s.vm.findClass RX3 = some m.cls := findClass_of_methodNamed B.named
  have hlocks := B.notSynchronized
  have hl := lv_entry ([.ref (a 16), .int pr, .int tk, .int op, .int sm, .int gl]) (n := 9) (Nat.le_of_ble_eq_true rfl)
  rw [lg_entry_eq]
  generalize (lg_sl ([.ref (a 16), .int pr, .int tk, .int op, .int sm, .int gl]) ++ List.replicate (9 - (lg_sl ([.ref (a 16), .int pr, .int tk, .int op, .int sm, .int gl])).length) Slot.unset).toArray = ls at hl ⊢
  have hl : lv_has ls 9 [(0, .ref (a 16)), (1, .int pr), (2, .int tk), (3, .int op), (4, .int sm), (5, .int gl)] := hl
  refine lv_iload_n hx hb dX3_ordersBehind_0 rfl (lv_at hl 3 rfl) ?_
  refine lv_if_gt (tgt := 17) hx hb dX3_ordersBehind_1 (by decide) (fun c1 => ?_) (fun c1 => ?_)
  · exact absurd c1 (by rw [hop]; decide)
  · refine lv_iload hx hb dX3_ordersBehind_4 (lv_at hl 4 rfl) ?_
    refine lv_iload hx hb dX3_ordersBehind_6 (lv_at hl 5 rfl) ?_
    refine lv_icmp_lt (tgt := 15) hx hb dX3_ordersBehind_8 (by decide) (fun c8 => ?_) (fun c8 => ?_)
    · have n8 := Int32.not_le.mpr c8
      refine lv_iconst (v := 0) hx hb dX3_ordersBehind_15 (by decide) ?_
      exact W.iret (v := 0) hx hb hr (fun t ht hW => ⟨_, rfl, (by simp [ordI, c8, n8]), ht⟩) (fun _ h => absurd h List.not_mem_nil) dX3_ordersBehind_16
    · have n8 := Int32.not_lt.mp c8
      refine lv_iconst (v := 1) hx hb dX3_ordersBehind_11 (by decide) ?_
      refine lv_goto (tgt := 16) hx hb dX3_ordersBehind_12 (by decide) ?_
      exact W.iret (v := 1) hx hb hr (fun t ht hW => ⟨_, rfl, (by simp [ordI, c8, n8]), ht⟩) (fun _ h => absurd h List.not_mem_nil) dX3_ordersBehind_16
set_option maxHeartbeats 4000000 in
set_option maxRecDepth 100000 in
theorem c_ordS (l : Launch) (dC : Nat → ClassId) (dI : Nat → Nat → Nat) (cI cZ cJ : ClassId) (a : Nat → Nat) (v : Nat → Int32) (g : Nat → Nat → Int32) (pr : Int32) (np : Nat) (hnp : pr = nI np) (hnp2 : np ≤ 6) (o : Nat) (ho : o ≤ 6) (IH : ∀ (tk op sm gl : Int32), op = nI o → Met l yX3_ordersBehind wsX3_ordersBehind ({ frames := o + 2, cells := 0, slots := 0, locals := 28 * o + 60 }) (va_Pc [.ref (a 16), .int pr, .int tk, .int op, .int sm, .int gl] (fun U => va_P (dC, dI) clA (wA cI cZ a v g) U.heap ∧ va_K (dC, dI) clA (tyA cI cZ cJ) U)) (vp_Si (fun r => r = ordI g np o tk sm gl)) 0 0 (fun _ => False)) (tk op sm gl : Int32) (hop : op = nI (o + 1)) : Met l yX3_ordersBehind wsX3_ordersBehind ({ frames := (o + 1) + 2, cells := 0, slots := 0, locals := 28 * (o + 1) + 60 }) (va_Pc [.ref (a 16), .int pr, .int tk, .int op, .int sm, .int gl] (fun U => va_P (dC, dI) clA (wA cI cZ a v g) U.heap ∧ va_K (dC, dI) clA (tyA cI cZ cJ) U)) (vp_Si (fun r => r = ordI g np (o + 1) tk sm gl)) 0 0 (fun _ => False) := by
  refine Met.ofW (cc := cX3_ordersBehind) (maxL := 9) (ret := (some .int)) (by decide) rfl ?_
  intro p e s m args below meth c s₁ B hml hv
  obtain ⟨rfl, hP, hK⟩ := hv
  have hx := B.exec
  have hb := B.bytes
  have hr := B.returns
  have hts := atoms_spec (ws := wsX3_ordersBehind) B.pre
  have hown : s.vm.findClass RX3 = some m.cls := findClass_of_methodNamed B.named
  have hlocks := B.notSynchronized
  have hl := lv_entry ([.ref (a 16), .int pr, .int tk, .int op, .int sm, .int gl]) (n := 9) (Nat.le_of_ble_eq_true rfl)
  rw [lg_entry_eq]
  generalize (lg_sl ([.ref (a 16), .int pr, .int tk, .int op, .int sm, .int gl]) ++ List.replicate (9 - (lg_sl ([.ref (a 16), .int pr, .int tk, .int op, .int sm, .int gl])).length) Slot.unset).toArray = ls at hl ⊢
  have hl : lv_has ls 9 [(0, .ref (a 16)), (1, .int pr), (2, .int tk), (3, .int op), (4, .int sm), (5, .int gl)] := hl
  refine lv_iload_n hx hb dX3_ordersBehind_0 rfl (lv_at hl 3 rfl) ?_
  refine lv_if_gt (tgt := 17) hx hb dX3_ordersBehind_1 (by decide) (fun c1 => ?_) (fun c1 => ?_)
  · refine lv_iconst (v := 0) hx hb dX3_ordersBehind_17 (by decide) ?_
    refine lv_istore (lv' := [(6, .int 0), (0, .ref (a 16)), (1, .int pr), (2, .int tk), (3, .int op), (4, .int sm), (5, .int gl)]) hx hb dX3_ordersBehind_18 hl (by decide) rfl (fun ls hl => ?_)
    refine lv_iconst (v := 0) hx hb dX3_ordersBehind_20 (by decide) ?_
    refine lv_istore (lv' := [(7, .int 0), (6, .int 0), (0, .ref (a 16)), (1, .int pr), (2, .int tk), (3, .int op), (4, .int sm), (5, .int gl)]) hx hb dX3_ordersBehind_21 hl (by decide) rfl (fun ls hl => ?_)
    have lp : ∀ (d k : Nat), 0 ≤ k → k ≤ np → np + 1 ≤ k + d → ∀ (acc : Int32), acc = isum (fun i => if takB (nI i) tk = true then 0 else ordI g np o (tk ||| ((1 : Int32) <<< (nI i &&& 31))) (sm + gainI g np i tk) gl) k → ∀ (ls : Array Slot), lv_has ls 9 [(7, .int (nI k)), (6, .int acc), (0, .ref (a 16)), (1, .int pr), (2, .int tk), (3, .int op), (4, .int sm), (5, .int gl)] → W p l e (headSpec wsX3_ordersBehind ({ frames := (o + 1) + 2, cells := 0, slots := 0, locals := 28 * (o + 1) + 60 })).room s m ([.ref (a 16), .int pr, .int tk, .int op, .int sm, .int gl] : List Value).toArray below meth c s.heap [] 0 0 (MQ below (vp_Si (fun r => r = ordI g np (o + 1) tk sm gl)) ([.ref (a 16), .int pr, .int tk, .int op, .int sm, .int gl] : List Value).toArray s 0 0 (fun _ => False)) (F0 m 23 ls []) := by
      intro d
      induction d with
      | zero => intro k h0 h1 h2; exact absurd h2 (by omega)
      | succ d ih =>
        intro k hk0 hkn hkd acc ea_acc ls hl
        subst ea_acc
        refine lv_iload hx hb dX3_ordersBehind_23 (lv_at hl 0 rfl) ?_
        refine lv_iload_n hx hb dX3_ordersBehind_25 rfl (lv_at hl 3 rfl) ?_
        refine lv_icmp_ge (tgt := 80) hx hb dX3_ordersBehind_26 (by decide) (fun c26 => ?_) (fun c26 => ?_)
        · have n26 := Int32.not_lt.mpr c26
          rw [hnp] at c26
          have hkn2 : k = np := Nat.le_antisymm hkn ((nI_leI (by omega) (by omega)).mp c26)
          refine lv_iload hx hb dX3_ordersBehind_80 (lv_at hl 1 rfl) ?_
          exact W.iret (v := isum (fun i => if takB (nI i) tk = true then 0 else ordI g np o (tk ||| ((1 : Int32) <<< (nI i &&& 31))) (sm + gainI g np i tk) gl) k) hx hb hr (fun t ht hW => ⟨_, rfl, (by subst hkn2; rfl), ht⟩) (fun _ h => absurd h List.not_mem_nil) dX3_ordersBehind_82
        · have n26 := Int32.not_le.mp c26
          rw [hnp] at c26
          have hk : k < np := Nat.lt_of_not_le (fun h => c26 (nI_le h (by omega)))
          refine lv_iload hx hb dX3_ordersBehind_29 (lv_at hl 0 rfl) ?_
          refine lv_iload_n hx hb dX3_ordersBehind_31 rfl (lv_at hl 4 rfl) ?_
          refine vp_callSi (W.runS (As := [.int (nI k), .int tk]) (rest := []) ⟨hx, hb, hml, hown, hts⟩ (c_taken l dC dI cI cZ cJ a v g (nI k) tk) (cwS 2 hts (gd_S ml_X3_X3_isTaken sm_X3_isTaken in_X3 kX3_isTaken) rfl rfl rfl (by decide +kernel) ⟨(by show 0 + 1 ≤ (o + 1) + 2; omega), (by show 8 + (2 + 11) + 0 ≤ 28 * (o + 1) + 60; omega)⟩) ⟨fun _ U g mk q => by obtain ⟨q0, qP, qK⟩ := q; exact ⟨q0, qP, va_K.moved (u := U) (U := U.calling g mk _) (Vm.Alike.refl U.vm) qK⟩, fun U hU hW => ⟨rfl, by rw [hU]; exact hP, va_K.moved hW.alike hK⟩⟩ rfl rfl hl.1 rfl (lv_room (Nat.le_of_ble_eq_true rfl)) dX3_ordersBehind_32 ⟨Nat.zero_le _, Nat.zero_le _⟩) (fun r32 hr32 => ?_)
          subst hr32
          refine lv_if_ne (tgt := 74) hx hb dX3_ordersBehind_35 (by decide) (fun c35 => ?_) (fun c35 => ?_)
          · have c35 := bI_n0.mp c35
            refine lv_iinc (v := nI (k + 1)) (lv' := [(7, .int (nI (k + 1))), (6, .int (isum (fun i => if takB (nI i) tk = true then 0 else ordI g np o (tk ||| ((1 : Int32) <<< (nI i &&& 31))) (sm + gainI g np i tk) gl) k)), (0, .ref (a 16)), (1, .int pr), (2, .int tk), (3, .int op), (4, .int sm), (5, .int gl)]) hx hb dX3_ordersBehind_74 hl (k := 0) rfl (nI_1 k) (by decide) rfl (fun ls hl => ?_)
            refine lv_goto (tgt := 23) hx hb dX3_ordersBehind_77 (by decide) ?_
            exact ih (k + 1) (by omega) (by omega) (by omega) _ (by simp [isum_s, c26, n26, c35]) ls (lv_sub hl [0, 1, 2, 3, 4, 5, 6, 7] rfl)
          · have c35 := bI_0.mp c35
            refine lv_iload hx hb dX3_ordersBehind_38 (lv_at hl 6 rfl) ?_
            refine lv_aload_n hx hb dX3_ordersBehind_40 rfl (lv_at hl 2 rfl) ?_
            refine lv_iload_n hx hb dX3_ordersBehind_41 rfl (lv_at hl 3 rfl) ?_
            refine lv_iload hx hb dX3_ordersBehind_42 (lv_at hl 0 rfl) ?_
            refine lv_iload_n hx hb dX3_ordersBehind_44 rfl (lv_at hl 4 rfl) ?_
            refine vp_callSi (W.runS (As := [.ref (a 16), .int pr, .int (nI k), .int tk]) (rest := [.int sm]) ⟨hx, hb, hml, hown, hts⟩ (c_gain l dC dI cI cZ cJ a v g pr np hnp hnp2 k tk (by omega)) (cwS 4 hts (gd_S ml_X3_X3_gain sm_X3_gain in_X3 kX3_gain) rfl rfl rfl (by decide +kernel) ⟨(by show 1 + 1 ≤ (o + 1) + 2; omega), (by show 8 + (6 + 11) + 21 ≤ 28 * (o + 1) + 60; omega)⟩) ⟨fun _ U g mk q => by obtain ⟨q0, qP, qK⟩ := q; exact ⟨q0, qP, va_K.moved (u := U) (U := U.calling g mk _) (Vm.Alike.refl U.vm) qK⟩, fun U hU hW => ⟨rfl, by rw [hU]; exact hP, va_K.moved hW.alike hK⟩⟩ rfl rfl hl.1 rfl (lv_room (Nat.le_of_ble_eq_true rfl)) dX3_ordersBehind_45 ⟨Nat.zero_le _, Nat.zero_le _⟩) (fun r45 hr45 => ?_)
            subst hr45
            refine lv_iadd hx hb dX3_ordersBehind_48 ?_
            refine lv_istore (lv' := [(8, .int (sm + (gainI g np k tk))), (7, .int (nI k)), (6, .int (isum (fun i => if takB (nI i) tk = true then 0 else ordI g np o (tk ||| ((1 : Int32) <<< (nI i &&& 31))) (sm + gainI g np i tk) gl) k)), (0, .ref (a 16)), (1, .int pr), (2, .int tk), (3, .int op), (4, .int sm), (5, .int gl)]) hx hb dX3_ordersBehind_49 hl (by decide) rfl (fun ls hl => ?_)
            refine lv_iload hx hb dX3_ordersBehind_51 (lv_at hl 2 rfl) ?_
            refine lv_aload_n hx hb dX3_ordersBehind_53 rfl (lv_at hl 3 rfl) ?_
            refine lv_iload_n hx hb dX3_ordersBehind_54 rfl (lv_at hl 4 rfl) ?_
            refine lv_iload_n hx hb dX3_ordersBehind_55 rfl (lv_at hl 5 rfl) ?_
            refine lv_iconst (v := 1) hx hb dX3_ordersBehind_56 (by decide) ?_
            refine lv_iload hx hb dX3_ordersBehind_57 (lv_at hl 1 rfl) ?_
            refine lv_ishl hx hb dX3_ordersBehind_59 ?_
            refine lv_ior hx hb dX3_ordersBehind_60 ?_
            refine lv_iload_n hx hb dX3_ordersBehind_61 rfl (lv_at hl 6 rfl) ?_
            refine lv_iconst (v := 1) hx hb dX3_ordersBehind_62 (by decide) ?_
            refine lv_isub hx hb dX3_ordersBehind_63 ?_
            refine lv_iload hx hb dX3_ordersBehind_64 (lv_at hl 0 rfl) ?_
            refine lv_iload hx hb dX3_ordersBehind_66 (lv_at hl 8 rfl) ?_
            refine vp_callSi (W.runS (As := [.ref (a 16), .int pr, .int (tk ||| (1 <<< ((nI k) &&& 31))), .int (op - 1), .int (sm + (gainI g np k tk)), .int gl]) (rest := [.int (isum (fun i => if takB (nI i) tk = true then 0 else ordI g np o (tk ||| ((1 : Int32) <<< (nI i &&& 31))) (sm + gainI g np i tk) gl) k)]) ⟨hx, hb, hml, hown, hts⟩ (IH (tk ||| (1 <<< ((nI k) &&& 31))) (op - 1) (sm + (gainI g np k tk)) gl (by rw [hop]; exact nI_pred o)) (cwS 6 hts (gd_S ml_X3_X3_ordersBehind sm_X3_ordersBehind in_X3 kX3_ordersBehind) rfl rfl rfl (by decide +kernel) ⟨(by show (o + 2) + 1 ≤ (o + 1) + 2; omega), (by show 8 + (9 + 11) + (28 * o + 60) ≤ 28 * (o + 1) + 60; omega)⟩) ⟨fun _ U g mk q => by obtain ⟨q0, qP, qK⟩ := q; exact ⟨q0, qP, va_K.moved (u := U) (U := U.calling g mk _) (Vm.Alike.refl U.vm) qK⟩, fun U hU hW => ⟨rfl, by rw [hU]; exact hP, va_K.moved hW.alike hK⟩⟩ rfl rfl hl.1 rfl (lv_room (Nat.le_of_ble_eq_true rfl)) dX3_ordersBehind_68 ⟨Nat.zero_le _, Nat.zero_le _⟩) (fun r68 hr68 => ?_)
            subst hr68
            refine lv_iadd hx hb dX3_ordersBehind_71 ?_
            refine lv_topi (fun x71 e71 => ?_)
            refine lv_istore (lv' := [(6, .int x71), (8, .int (sm + (gainI g np k tk))), (7, .int (nI k)), (0, .ref (a 16)), (1, .int pr), (2, .int tk), (3, .int op), (4, .int sm), (5, .int gl)]) hx hb dX3_ordersBehind_72 hl (by decide) rfl (fun ls hl => ?_)
            refine lv_iinc (v := nI (k + 1)) (lv' := [(7, .int (nI (k + 1))), (6, .int x71), (8, .int (sm + (gainI g np k tk))), (0, .ref (a 16)), (1, .int pr), (2, .int tk), (3, .int op), (4, .int sm), (5, .int gl)]) hx hb dX3_ordersBehind_74 hl (k := 2) rfl (nI_1 k) (by decide) rfl (fun ls hl => ?_)
            refine lv_goto (tgt := 23) hx hb dX3_ordersBehind_77 (by decide) ?_
            exact ih (k + 1) (by omega) (by omega) (by omega) _ (by simp [isum_s, c26, n26, c35, e71]) ls (lv_sub hl [0, 1, 3, 4, 5, 6, 7, 8] rfl)
    exact lp (np + 1) 0 (by omega) (by omega) (by omega) _ (rfl) ls (lv_sub hl [0, 1, 2, 3, 4, 5, 6, 7] rfl)
  · exact absurd (by rw [hop]; exact nI_lt (a := 0) (b := o + 1) (by omega) (by omega)) c1
theorem c_ord (l : Launch) (dC : Nat → ClassId) (dI : Nat → Nat → Nat) (cI cZ cJ : ClassId) (a : Nat → Nat) (v : Nat → Int32) (g : Nat → Nat → Int32) (pr : Int32) (np : Nat) (hnp : pr = nI np) (hnp2 : np ≤ 6) : ∀ (o : Nat), o ≤ 6 → ∀ (tk op sm gl : Int32), op = nI o → Met l yX3_ordersBehind wsX3_ordersBehind ({ frames := o + 2, cells := 0, slots := 0, locals := 28 * o + 60 }) (va_Pc [.ref (a 16), .int pr, .int tk, .int op, .int sm, .int gl] (fun U => va_P (dC, dI) clA (wA cI cZ a v g) U.heap ∧ va_K (dC, dI) clA (tyA cI cZ cJ) U)) (vp_Si (fun r => r = ordI g np o tk sm gl)) 0 0 (fun _ => False) := by
  intro o
  induction o with
  | zero => intro _ tk op sm gl hop; exact c_ord0 l dC dI cI cZ cJ a v g pr np hnp hnp2 tk op sm gl hop
  | succ o IH => intro ho tk op sm gl hop; exact c_ordS l dC dI cI cZ cJ a v g pr np hnp hnp2 o (by omega) (IH (by omega)) tk op sm gl hop
theorem c_ordR (l : Launch) (dC : Nat → ClassId) (dI : Nat → Nat → Nat) (cI cZ cJ : ClassId) (a : Nat → Nat) (v : Nat → Int32) (g : Nat → Nat → Int32) (pr : Int32) (np : Nat) (hnp : pr = nI np) (hnp2 : np ≤ 6) (tk op sm gl : Int32) (hop : op = nI np) : Met l yX3_ordersBehind wsX3_ordersBehind ({ frames := np + 2, cells := 0, slots := 0, locals := 28 * np + 60 }) (va_Pc [.ref (a 16), .int pr, .int tk, .int op, .int sm, .int gl] (fun U => va_P (dC, dI) clA (wA cI cZ a v g) U.heap ∧ va_K (dC, dI) clA (tyA cI cZ cJ) U)) (vp_Si (fun r => r = ordI g np np tk sm gl)) 0 0 (fun _ => False) := c_ord l dC dI cI cZ cJ a v g pr np hnp hnp2 np hnp2 tk op sm gl hop
set_option maxHeartbeats 4000000 in
set_option maxRecDepth 100000 in
theorem c_notBelow (l : Launch) (dC : Nat → ClassId) (dI : Nat → Nat → Nat) (cI cZ cJ : ClassId) (a : Nat → Nat) (v : Nat → Int32) (g : Nat → Nat → Int32) (np : Nat) (hnp : v 6 = nI np) (hnp2 : np ≤ 6) (gl : Int32) : Met l yX3_ordersNotBelow wsX3_ordersNotBelow ({ frames := 9, cells := 0, slots := 0, locals := 256 }) (va_Pc [.ref (a 15), .int gl] (fun U => va_P (dC, dI) clA (wA cI cZ a v g) U.heap ∧ va_K (dC, dI) clA (tyA cI cZ cJ) U)) (vp_Si (fun r => r = ordI g np np 0 0 gl)) 0 0 (fun _ => False) := by
  refine Met.ofW (cc := cX3_ordersNotBelow) (maxL := 2) (ret := (some .int)) (by decide) rfl ?_
  intro p e s m args below meth c s₁ B hml hv
  obtain ⟨rfl, hP, hK⟩ := hv
  have hx := B.exec
  have hb := B.bytes
  have hr := B.returns
  have hts := atoms_spec (ws := wsX3_ordersNotBelow) B.pre
  have hown : s.vm.findClass RX3 = some m.cls := findClass_of_methodNamed B.named
  have hlocks := B.notSynchronized
  have hl := lv_entry ([.ref (a 15), .int gl]) (n := 2) (Nat.le_of_ble_eq_true rfl)
  rw [lg_entry_eq]
  generalize (lg_sl ([.ref (a 15), .int gl]) ++ List.replicate (2 - (lg_sl ([.ref (a 15), .int gl])).length) Slot.unset).toArray = ls at hl ⊢
  have hl : lv_has ls 2 [(0, .ref (a 15)), (1, .int gl)] := hl
  refine lv_aload_n hx hb dX3_ordersNotBelow_0 rfl (lv_at hl 0 rfl) ?_
  refine va_get (D := (dC, dI)) (ci := 3) (v := .ref (a 16)) (C := RX3) (T := TX3) (N := 2) hx hb hts (fun w h => List.mem_cons_of_mem _ (iw_X3 w h)) hown hK hP 15 rfl rfl 0 (by decide) (hts _ (List.mem_cons_of_mem _ fl_X3_counts)) (fun _ h9 => h9) rfl dX3_ordersNotBelow_1 ?_
  refine lv_aload_n hx hb dX3_ordersNotBelow_4 rfl (lv_at hl 0 rfl) ?_
  refine va_get (D := (dC, dI)) (ci := 3) (v := .int (v 6)) (C := RX3) (T := TX3) (N := 2) hx hb hts (fun w h => List.mem_cons_of_mem _ (iw_X3 w h)) hown hK hP 15 rfl rfl 1 (by decide) (hts _ (List.mem_cons_of_mem _ fl_X3_periods)) (fun _ h9 => h9) rfl dX3_ordersNotBelow_5 ?_
  refine lv_iconst (v := 0) hx hb dX3_ordersNotBelow_8 (by decide) ?_
  refine lv_aload_n hx hb dX3_ordersNotBelow_9 rfl (lv_at hl 0 rfl) ?_
  refine va_get (D := (dC, dI)) (ci := 3) (v := .int (v 6)) (C := RX3) (T := TX3) (N := 2) hx hb hts (fun w h => List.mem_cons_of_mem _ (iw_X3 w h)) hown hK hP 15 rfl rfl 1 (by decide) (hts _ (List.mem_cons_of_mem _ fl_X3_periods)) (fun _ h9 => h9) rfl dX3_ordersNotBelow_10 ?_
  refine lv_iconst (v := 0) hx hb dX3_ordersNotBelow_13 (by decide) ?_
  refine lv_iload_n hx hb dX3_ordersNotBelow_14 rfl (lv_at hl 1 rfl) ?_
  refine vp_callSi (W.runS (As := [.ref (a 16), .int (v 6), .int 0, .int (v 6), .int 0, .int gl]) (rest := []) ⟨hx, hb, hml, hown, hts⟩ (c_ordR l dC dI cI cZ cJ a v g (v 6) np hnp hnp2 0 (v 6) 0 gl hnp) (cwS 6 hts (gd_S ml_X3_X3_ordersBehind sm_X3_ordersBehind in_X3 kX3_ordersBehind) rfl rfl rfl (by decide +kernel) ⟨(by show (np + 2) + 1 ≤ 9; omega), (by show 8 + (9 + 11) + (28 * np + 60) ≤ 256; omega)⟩) ⟨fun _ U g mk q => by obtain ⟨q0, qP, qK⟩ := q; exact ⟨q0, qP, va_K.moved (u := U) (U := U.calling g mk _) (Vm.Alike.refl U.vm) qK⟩, fun U hU hW => ⟨rfl, by rw [hU]; exact hP, va_K.moved hW.alike hK⟩⟩ rfl rfl hl.1 rfl (lv_room (Nat.le_of_ble_eq_true rfl)) dX3_ordersNotBelow_15 ⟨Nat.zero_le _, Nat.zero_le _⟩) (fun r15 hr15 => ?_)
  subst hr15
  exact W.iret (v := ordI g np np 0 0 gl) hx hb hr (fun t ht hW => ⟨_, rfl, rfl, ht⟩) (fun _ h => absurd h List.not_mem_nil) dX3_ordersNotBelow_18
set_option maxHeartbeats 4000000 in
set_option maxRecDepth 100000 in
theorem c_fewest (l : Launch) (dC : Nat → ClassId) (dI : Nat → Nat → Nat) (cI cZ cJ : ClassId) (a : Nat → Nat) (v : Nat → Int32) (g : Nat → Nat → Int32)  : Met l yX2_areaOfFewest wsX2_areaOfFewest ({ frames := 0, cells := 0, slots := 0, locals := 0 }) (va_Pc [.ref (a 17)] (fun U => va_P (dC, dI) clA (wA cI cZ a v g) U.heap ∧ va_K (dC, dI) clA (tyA cI cZ cJ) U)) (vp_Si (fun r => r = fewest g)) 0 0 (fun _ => False) := by
  refine Met.ofW (cc := cX2_areaOfFewest) (maxL := 4) (ret := (some .int)) (by decide) rfl ?_
  intro p e s m args below meth c s₁ B hml hv
  obtain ⟨rfl, hP, hK⟩ := hv
  have hx := B.exec
  have hb := B.bytes
  have hr := B.returns
  have hts := atoms_spec (ws := wsX2_areaOfFewest) B.pre
  have hown : s.vm.findClass RX2 = some m.cls := findClass_of_methodNamed B.named
  have hlocks := B.notSynchronized
  have hl := lv_entry ([.ref (a 17)]) (n := 4) (Nat.le_of_ble_eq_true rfl)
  rw [lg_entry_eq]
  generalize (lg_sl ([.ref (a 17)]) ++ List.replicate (4 - (lg_sl ([.ref (a 17)])).length) Slot.unset).toArray = ls at hl ⊢
  have hl : lv_has ls 4 [(0, .ref (a 17))] := hl
  refine lv_iconst (v := (-1)) hx hb dX2_areaOfFewest_0 (by decide) ?_
  refine lv_istore_n (lv' := [(1, .int (-1)), (0, .ref (a 17))]) hx hb dX2_areaOfFewest_1 rfl hl (by decide) rfl (fun ls hl => ?_)
  refine lv_iconst (v := 0) hx hb dX2_areaOfFewest_2 (by decide) ?_
  refine lv_istore_n (lv' := [(2, .int 0), (1, .int (-1)), (0, .ref (a 17))]) hx hb dX2_areaOfFewest_3 rfl hl (by decide) rfl (fun ls hl => ?_)
  have lp : ∀ (d k : Nat), 0 ≤ k → k ≤ 10 → 10 + 1 ≤ k + d → ∀ (acc : Int32), acc = fewI g k → ∀ (ls : Array Slot), lv_has ls 4 [(2, .int (nI k)), (1, .int acc), (0, .ref (a 17))] → W p l e (headSpec wsX2_areaOfFewest ({ frames := 0, cells := 0, slots := 0, locals := 0 })).room s m ([.ref (a 17)] : List Value).toArray below meth c s.heap [] 0 0 (MQ below (vp_Si (fun r => r = fewest g)) ([.ref (a 17)] : List Value).toArray s 0 0 (fun _ => False)) (F0 m 4 ls []) := by
    intro d
    induction d with
    | zero => intro k h0 h1 h2; exact absurd h2 (by omega)
    | succ d ih =>
      intro k hk0 hkn hkd acc ea_acc ls hl
      subst ea_acc
      refine lv_iload_n hx hb dX2_areaOfFewest_4 rfl (lv_at hl 0 rfl) ?_
      refine lv_bipush (v := 10) hx hb dX2_areaOfFewest_5 (by decide) ?_
      refine lv_icmp_ge (tgt := 65) hx hb dX2_areaOfFewest_7 (by decide) (fun c7 => ?_) (fun c7 => ?_)
      · have n7 := Int32.not_lt.mpr c7
        have hkn2 : k = 10 := Nat.le_antisymm hkn ((nI_leI (a := 10) (b := k) (by decide) (by omega)).mp c7)
        refine lv_iload_n hx hb dX2_areaOfFewest_65 rfl (lv_at hl 1 rfl) ?_
        exact W.iret (v := fewI g k) hx hb hr (fun t ht hW => ⟨_, rfl, (fewI_10 g hkn2), ht⟩) (fun _ h => absurd h List.not_mem_nil) dX2_areaOfFewest_66
      · have n7 := Int32.not_le.mp c7
        have hk : k < 10 := Nat.lt_of_not_le (fun h => c7 (nI_le (a := 10) h (by omega)))
        refine lv_aload_n hx hb dX2_areaOfFewest_10 rfl (lv_at hl 2 rfl) ?_
        refine va_get (D := (dC, dI)) (ci := 2) (v := .ref (a 19)) (C := RX2) (T := TX2) (N := 4) hx hb hts (fun w h => List.mem_cons_of_mem _ (iw_X2 w h)) hown hK hP 17 rfl rfl 1 (by decide) (hts _ (List.mem_cons_of_mem _ fl_X2_isJoined)) (fun _ h9 => h9) rfl dX2_areaOfFewest_11 ?_
        refine lv_iload_n hx hb dX2_areaOfFewest_14 rfl (lv_at hl 0 rfl) ?_
        refine wz_ald hx hb hK hP 19 1 rfl rfl (k := k) (by omega) (by decide) dX2_areaOfFewest_15 ?_
        refine lv_if_ne (tgt := 32) hx hb dX2_areaOfFewest_16 (by decide) (fun c16 => ?_) (fun c16 => ?_)
        · refine lv_iconst (v := 0) hx hb dX2_areaOfFewest_32 (by decide) ?_
          refine lv_istore_n (lv' := [(3, .int 0), (2, .int (nI k)), (1, .int (fewI g k)), (0, .ref (a 17))]) hx hb dX2_areaOfFewest_33 rfl hl (by decide) rfl (fun ls hl => ?_)
          refine lv_iload_n hx hb dX2_areaOfFewest_34 rfl (lv_at hl 0 rfl) ?_
          refine lv_if_eq (tgt := 59) hx hb dX2_areaOfFewest_35 (by decide) (fun c35 => ?_) (fun c35 => ?_)
          · refine lv_iinc (v := nI (k + 1)) (lv' := [(2, .int (nI (k + 1))), (3, .int 0), (1, .int (fewI g k)), (0, .ref (a 17))]) hx hb dX2_areaOfFewest_59 hl (k := 1) rfl (nI_1 k) (by decide) rfl (fun ls hl => ?_)
            refine lv_goto (tgt := 4) hx hb dX2_areaOfFewest_62 (by decide) ?_
            exact ih (k + 1) (by omega) (by omega) (by omega) _ (by simp [fewI, canB, c7, n7, c16]) ls (lv_sub hl [0, 2, 3] rfl)
          · exact absurd c35 (by decide)
        · refine lv_aload_n hx hb dX2_areaOfFewest_19 rfl (lv_at hl 2 rfl) ?_
          refine va_get (D := (dC, dI)) (ci := 2) (v := .ref (a 18)) (C := RX2) (T := TX2) (N := 4) hx hb hts (fun w h => List.mem_cons_of_mem _ (iw_X2 w h)) hown hK hP 17 rfl rfl 0 (by decide) (hts _ (List.mem_cons_of_mem _ fl_X2_rowsOfArea)) (fun _ h9 => h9) rfl dX2_areaOfFewest_20 ?_
          refine lv_iload_n hx hb dX2_areaOfFewest_23 rfl (lv_at hl 0 rfl) ?_
          refine wi_ald hx hb hK hP 18 0 rfl rfl (k := k) (by omega) (by decide) dX2_areaOfFewest_24 ?_
          refine lv_if_le (tgt := 32) hx hb dX2_areaOfFewest_25 (by decide) (fun c25 => ?_) (fun c25 => ?_)
          · have n25 := Int32.not_lt.mpr c25
            refine lv_iconst (v := 0) hx hb dX2_areaOfFewest_32 (by decide) ?_
            refine lv_istore_n (lv' := [(3, .int 0), (2, .int (nI k)), (1, .int (fewI g k)), (0, .ref (a 17))]) hx hb dX2_areaOfFewest_33 rfl hl (by decide) rfl (fun ls hl => ?_)
            refine lv_iload_n hx hb dX2_areaOfFewest_34 rfl (lv_at hl 0 rfl) ?_
            refine lv_if_eq (tgt := 59) hx hb dX2_areaOfFewest_35 (by decide) (fun c35 => ?_) (fun c35 => ?_)
            · refine lv_iinc (v := nI (k + 1)) (lv' := [(2, .int (nI (k + 1))), (3, .int 0), (1, .int (fewI g k)), (0, .ref (a 17))]) hx hb dX2_areaOfFewest_59 hl (k := 1) rfl (nI_1 k) (by decide) rfl (fun ls hl => ?_)
              refine lv_goto (tgt := 4) hx hb dX2_areaOfFewest_62 (by decide) ?_
              exact ih (k + 1) (by omega) (by omega) (by omega) _ (by simp [fewI, canB, c7, n7, c16, c25, n25]) ls (lv_sub hl [0, 2, 3] rfl)
            · exact absurd c35 (by decide)
          · have n25 := Int32.not_le.mp c25
            refine lv_iconst (v := 1) hx hb dX2_areaOfFewest_28 (by decide) ?_
            refine lv_goto (tgt := 33) hx hb dX2_areaOfFewest_29 (by decide) ?_
            refine lv_istore_n (lv' := [(3, .int 1), (2, .int (nI k)), (1, .int (fewI g k)), (0, .ref (a 17))]) hx hb dX2_areaOfFewest_33 rfl hl (by decide) rfl (fun ls hl => ?_)
            refine lv_iload_n hx hb dX2_areaOfFewest_34 rfl (lv_at hl 0 rfl) ?_
            refine lv_if_eq (tgt := 59) hx hb dX2_areaOfFewest_35 (by decide) (fun c35 => ?_) (fun c35 => ?_)
            · exact absurd c35 (by decide)
            · refine lv_iload_n hx hb dX2_areaOfFewest_38 rfl (lv_at hl 2 rfl) ?_
              refine lv_if_lt (tgt := 57) hx hb dX2_areaOfFewest_39 (by decide) (fun c39 => ?_) (fun c39 => ?_)
              · have n39 := Int32.not_le.mpr c39
                refine lv_iload_n hx hb dX2_areaOfFewest_57 rfl (lv_at hl 1 rfl) ?_
                refine lv_istore_n (lv' := [(1, .int (nI k)), (3, .int 1), (2, .int (nI k)), (0, .ref (a 17))]) hx hb dX2_areaOfFewest_58 rfl hl (by decide) rfl (fun ls hl => ?_)
                refine lv_iinc (v := nI (k + 1)) (lv' := [(2, .int (nI (k + 1))), (1, .int (nI k)), (3, .int 1), (0, .ref (a 17))]) hx hb dX2_areaOfFewest_59 hl (k := 2) rfl (nI_1 k) (by decide) rfl (fun ls hl => ?_)
                refine lv_goto (tgt := 4) hx hb dX2_areaOfFewest_62 (by decide) ?_
                exact ih (k + 1) (by omega) (by omega) (by omega) _ (by simp [fewI, canB, c7, n7, c16, c25, n25, c39, n39]) ls (lv_sub hl [0, 1, 3] rfl)
              · have n39 := Int32.not_lt.mp c39
                refine lv_aload_n hx hb dX2_areaOfFewest_42 rfl (lv_at hl 3 rfl) ?_
                refine va_get (D := (dC, dI)) (ci := 2) (v := .ref (a 18)) (C := RX2) (T := TX2) (N := 4) hx hb hts (fun w h => List.mem_cons_of_mem _ (iw_X2 w h)) hown hK hP 17 rfl rfl 0 (by decide) (hts _ (List.mem_cons_of_mem _ fl_X2_rowsOfArea)) (fun _ h9 => h9) rfl dX2_areaOfFewest_43 ?_
                refine lv_iload_n hx hb dX2_areaOfFewest_46 rfl (lv_at hl 1 rfl) ?_
                refine wi_ald hx hb hK hP 18 0 rfl rfl (k := k) (by omega) (by decide) dX2_areaOfFewest_47 ?_
                refine lv_aload_n hx hb dX2_areaOfFewest_48 rfl (lv_at hl 3 rfl) ?_
                refine va_get (D := (dC, dI)) (ci := 2) (v := .ref (a 18)) (C := RX2) (T := TX2) (N := 4) hx hb hts (fun w h => List.mem_cons_of_mem _ (iw_X2 w h)) hown hK hP 17 rfl rfl 0 (by decide) (hts _ (List.mem_cons_of_mem _ fl_X2_rowsOfArea)) (fun _ h9 => h9) rfl dX2_areaOfFewest_49 ?_
                refine lv_iload_n hx hb dX2_areaOfFewest_52 rfl (lv_at hl 2 rfl) ?_
                refine va_iald hx hb hK hP 18 0 rfl rfl (fewI_at g hkn c39) dX2_areaOfFewest_53 ?_
                refine lv_icmp_ge (tgt := 59) hx hb dX2_areaOfFewest_54 (by decide) (fun c54 => ?_) (fun c54 => ?_)
                · have n54 := Int32.not_lt.mpr c54
                  refine lv_iinc (v := nI (k + 1)) (lv' := [(2, .int (nI (k + 1))), (3, .int 1), (1, .int (fewI g k)), (0, .ref (a 17))]) hx hb dX2_areaOfFewest_59 hl (k := 1) rfl (nI_1 k) (by decide) rfl (fun ls hl => ?_)
                  refine lv_goto (tgt := 4) hx hb dX2_areaOfFewest_62 (by decide) ?_
                  exact ih (k + 1) (by omega) (by omega) (by omega) _ (by simp [fewI, canB, c7, n7, c16, c25, n25, c39, n39, c54, n54]) ls (lv_sub hl [0, 2, 3] rfl)
                · have n54 := Int32.not_le.mp c54
                  refine lv_iload_n hx hb dX2_areaOfFewest_57 rfl (lv_at hl 1 rfl) ?_
                  refine lv_istore_n (lv' := [(1, .int (nI k)), (3, .int 1), (2, .int (nI k)), (0, .ref (a 17))]) hx hb dX2_areaOfFewest_58 rfl hl (by decide) rfl (fun ls hl => ?_)
                  refine lv_iinc (v := nI (k + 1)) (lv' := [(2, .int (nI (k + 1))), (1, .int (nI k)), (3, .int 1), (0, .ref (a 17))]) hx hb dX2_areaOfFewest_59 hl (k := 2) rfl (nI_1 k) (by decide) rfl (fun ls hl => ?_)
                  refine lv_goto (tgt := 4) hx hb dX2_areaOfFewest_62 (by decide) ?_
                  exact ih (k + 1) (by omega) (by omega) (by omega) _ (by simp [fewI, canB, c7, n7, c16, c25, n25, c39, n39, c54, n54]) ls (lv_sub hl [0, 1, 3] rfl)
  exact lp (10 + 1) 0 (by omega) (by omega) (by omega) _ (rfl) ls (lv_sub hl [0, 1, 2] rfl)
set_option maxHeartbeats 4000000 in
set_option maxRecDepth 100000 in
theorem c_together (l : Launch) (dC : Nat → ClassId) (dI : Nat → Nat → Nat) (cI cZ cJ : ClassId) (a : Nat → Nat) (v : Nat → Int32) (g : Nat → Nat → Int32)  : Met l yX2_rowsTogether wsX2_rowsTogether ({ frames := 0, cells := 0, slots := 0, locals := 0 }) (va_Pc [.ref (a 17)] (fun U => va_P (dC, dI) clA (wA cI cZ a v g) U.heap ∧ va_K (dC, dI) clA (tyA cI cZ cJ) U)) (vp_Si (fun r => r = v 8)) 0 0 (fun _ => False) := by
  refine Met.ofW (cc := cX2_rowsTogether) (maxL := 1) (ret := (some .int)) (by decide) rfl ?_
  intro p e s m args below meth c s₁ B hml hv
  obtain ⟨rfl, hP, hK⟩ := hv
  have hx := B.exec
  have hb := B.bytes
  have hr := B.returns
  have hts := atoms_spec (ws := wsX2_rowsTogether) B.pre
  have hown : s.vm.findClass RX2 = some m.cls := findClass_of_methodNamed B.named
  have hlocks := B.notSynchronized
  have hl := lv_entry ([.ref (a 17)]) (n := 1) (Nat.le_of_ble_eq_true rfl)
  rw [lg_entry_eq]
  generalize (lg_sl ([.ref (a 17)]) ++ List.replicate (1 - (lg_sl ([.ref (a 17)])).length) Slot.unset).toArray = ls at hl ⊢
  have hl : lv_has ls 1 [(0, .ref (a 17))] := hl
  refine lv_aload_n hx hb dX2_rowsTogether_0 rfl (lv_at hl 0 rfl) ?_
  refine va_get (D := (dC, dI)) (ci := 2) (v := .int (v 8)) (C := RX2) (T := TX2) (N := 4) hx hb hts (fun w h => List.mem_cons_of_mem _ (iw_X2 w h)) hown hK hP 17 rfl rfl 3 (by decide) (hts _ (List.mem_cons_of_mem _ fl_X2_together)) (fun _ h9 => h9) rfl dX2_rowsTogether_1 ?_
  exact W.iret (v := v 8) hx hb hr (fun t ht hW => ⟨_, rfl, rfl, ht⟩) (fun _ h => absurd h List.not_mem_nil) dX2_rowsTogether_4
set_option maxHeartbeats 4000000 in
set_option maxRecDepth 100000 in
theorem c_shownA (l : Launch) (dC : Nat → ClassId) (dI : Nat → Nat → Nat) (cI cZ cJ : ClassId) (a : Nat → Nat) (v : Nat → Int32) (g : Nat → Nat → Int32) (j : Nat) (hj : j < 10) : Met l yX2_rowsShown wsX2_rowsShown ({ frames := 0, cells := 0, slots := 0, locals := 0 }) (va_Pc [.ref (a 17), .int (nI j)] (fun U => va_P (dC, dI) clA (wA cI cZ a v g) U.heap ∧ va_K (dC, dI) clA (tyA cI cZ cJ) U)) (vp_Si (fun r => r = (if g 14 j = 0 then g 13 j else -1))) 0 0 (fun _ => False) := by
  refine Met.ofW (cc := cX2_rowsShown) (maxL := 2) (ret := (some .int)) (by decide) rfl ?_
  intro p e s m args below meth c s₁ B hml hv
  obtain ⟨rfl, hP, hK⟩ := hv
  have hx := B.exec
  have hb := B.bytes
  have hr := B.returns
  have hts := atoms_spec (ws := wsX2_rowsShown) B.pre
  have hown : s.vm.findClass RX2 = some m.cls := findClass_of_methodNamed B.named
  have hlocks := B.notSynchronized
  have hl := lv_entry ([.ref (a 17), .int (nI j)]) (n := 2) (Nat.le_of_ble_eq_true rfl)
  rw [lg_entry_eq]
  generalize (lg_sl ([.ref (a 17), .int (nI j)]) ++ List.replicate (2 - (lg_sl ([.ref (a 17), .int (nI j)])).length) Slot.unset).toArray = ls at hl ⊢
  have hl : lv_has ls 2 [(0, .ref (a 17)), (1, .int (nI j))] := hl
  refine lv_iload_n hx hb dX2_rowsShown_0 rfl (lv_at hl 1 rfl) ?_
  refine lv_if_lt (tgt := 19) hx hb dX2_rowsShown_1 (by decide) (fun c1 => ?_) (fun c1 => ?_)
  · exact absurd c1 (nI_pos (by omega))
  · refine lv_iload_n hx hb dX2_rowsShown_4 rfl (lv_at hl 1 rfl) ?_
    refine lv_bipush (v := 10) hx hb dX2_rowsShown_5 (by decide) ?_
    refine lv_icmp_ge (tgt := 19) hx hb dX2_rowsShown_7 (by decide) (fun c7 => ?_) (fun c7 => ?_)
    · exact absurd c7 (nI_ge (a := j) (b := 10) hj (by decide))
    · refine lv_aload_n hx hb dX2_rowsShown_10 rfl (lv_at hl 0 rfl) ?_
      refine va_get (D := (dC, dI)) (ci := 2) (v := .ref (a 19)) (C := RX2) (T := TX2) (N := 4) hx hb hts (fun w h => List.mem_cons_of_mem _ (iw_X2 w h)) hown hK hP 17 rfl rfl 1 (by decide) (hts _ (List.mem_cons_of_mem _ fl_X2_isJoined)) (fun _ h9 => h9) rfl dX2_rowsShown_11 ?_
      refine lv_iload_n hx hb dX2_rowsShown_14 rfl (lv_at hl 1 rfl) ?_
      refine wz_ald hx hb hK hP 19 1 rfl rfl (k := j) (by omega) (by decide) dX2_rowsShown_15 ?_
      refine lv_if_eq (tgt := 21) hx hb dX2_rowsShown_16 (by decide) (fun c16 => ?_) (fun c16 => ?_)
      · refine lv_aload_n hx hb dX2_rowsShown_21 rfl (lv_at hl 0 rfl) ?_
        refine va_get (D := (dC, dI)) (ci := 2) (v := .ref (a 18)) (C := RX2) (T := TX2) (N := 4) hx hb hts (fun w h => List.mem_cons_of_mem _ (iw_X2 w h)) hown hK hP 17 rfl rfl 0 (by decide) (hts _ (List.mem_cons_of_mem _ fl_X2_rowsOfArea)) (fun _ h9 => h9) rfl dX2_rowsShown_22 ?_
        refine lv_iload_n hx hb dX2_rowsShown_25 rfl (lv_at hl 1 rfl) ?_
        refine wi_ald hx hb hK hP 18 0 rfl rfl (k := j) (by omega) (by decide) dX2_rowsShown_26 ?_
        exact W.iret (v := g 13 j) hx hb hr (fun t ht hW => ⟨_, rfl, (by simp [c16]), ht⟩) (fun _ h => absurd h List.not_mem_nil) dX2_rowsShown_27
      · refine lv_iconst (v := (-1)) hx hb dX2_rowsShown_19 (by decide) ?_
        exact W.iret (v := -1) hx hb hr (fun t ht hW => ⟨_, rfl, (by simp [c16]), ht⟩) (fun _ h => absurd h List.not_mem_nil) dX2_rowsShown_20
set_option maxHeartbeats 4000000 in
set_option maxRecDepth 100000 in
theorem c_gcd (l : Launch) (dC : Nat → ClassId) (dI : Nat → Nat → Nat) (cI cZ cJ : ClassId) (a : Nat → Nat) (v : Nat → Int32) (g : Nat → Nat → Int32) (x y : Int32) : Met l yX4_commonDivisor wsX4_commonDivisor ({ frames := 0, cells := 0, slots := 0, locals := 0 }) (va_Pc [.int x, .int y] (fun U => va_P (dC, dI) clA (wA cI cZ a v g) U.heap ∧ va_K (dC, dI) clA (tyA cI cZ cJ) U)) (vp_Si (fun r => r = gcdI x y)) 0 0 (fun _ => False) := by
  refine Met.ofW (cc := cX4_commonDivisor) (maxL := 6) (ret := (some .int)) (by decide) rfl ?_
  intro p e s m args below meth c s₁ B hml hv
  obtain ⟨rfl, hP, hK⟩ := hv
  have hx := B.exec
  have hb := B.bytes
  have hr := B.returns
  have hts := atoms_spec (ws := wsX4_commonDivisor) B.pre
  have hown : s.vm.findClass RX4 = some m.cls := findClass_of_methodNamed B.named
  have hlocks := B.notSynchronized
  have hl := lv_entry ([.int x, .int y]) (n := 6) (Nat.le_of_ble_eq_true rfl)
  rw [lg_entry_eq]
  generalize (lg_sl ([.int x, .int y]) ++ List.replicate (6 - (lg_sl ([.int x, .int y])).length) Slot.unset).toArray = ls at hl ⊢
  have hl : lv_has ls 6 [(0, .int x), (1, .int y)] := hl
  refine lv_iload_n hx hb dX4_commonDivisor_0 rfl (lv_at hl 0 rfl) ?_
  refine lv_istore_n (lv' := [(2, .int x), (0, .int x), (1, .int y)]) hx hb dX4_commonDivisor_1 rfl hl (by decide) rfl (fun ls hl => ?_)
  refine lv_iload_n hx hb dX4_commonDivisor_2 rfl (lv_at hl 2 rfl) ?_
  refine lv_istore_n (lv' := [(3, .int y), (2, .int x), (0, .int x), (1, .int y)]) hx hb dX4_commonDivisor_3 rfl hl (by decide) rfl (fun ls hl => ?_)
  refine lv_iconst (v := 0) hx hb dX4_commonDivisor_4 (by decide) ?_
  refine lv_istore (lv' := [(4, .int 0), (3, .int y), (2, .int x), (0, .int x), (1, .int y)]) hx hb dX4_commonDivisor_5 hl (by decide) rfl (fun ls hl => ?_)
  have lp : ∀ (d k : Nat), 0 ≤ k → k ≤ 64 → 64 + 1 ≤ k + d → ∀ (gr re : Int32), gr = (eu x y k).1 → re = (eu x y k).2 → ∀ (ls : Array Slot), lv_has ls 6 [(4, .int (nI k)), (2, .int gr), (3, .int re), (0, .int x), (1, .int y)] → W p l e (headSpec wsX4_commonDivisor ({ frames := 0, cells := 0, slots := 0, locals := 0 })).room s m ([.int x, .int y] : List Value).toArray below meth c s.heap [] 0 0 (MQ below (vp_Si (fun r => r = gcdI x y)) ([.int x, .int y] : List Value).toArray s 0 0 (fun _ => False)) (F0 m 7 ls []) := by
    intro d
    induction d with
    | zero => intro k h0 h1 h2; exact absurd h2 (by omega)
    | succ d ih =>
      intro k hk0 hkn hkd gr re ea_gr ea_re ls hl
      subst ea_gr ea_re
      refine lv_iload hx hb dX4_commonDivisor_7 (lv_at hl 0 rfl) ?_
      refine lv_bipush (v := 64) hx hb dX4_commonDivisor_9 (by decide) ?_
      refine lv_icmp_ge (tgt := 34) hx hb dX4_commonDivisor_11 (by decide) (fun c11 => ?_) (fun c11 => ?_)
      · have n11 := Int32.not_lt.mpr c11
        have hkn2 : k = 64 := Nat.le_antisymm hkn ((nI_leI (a := 64) (b := k) (by decide) (by omega)).mp c11)
        refine lv_iload_n hx hb dX4_commonDivisor_34 rfl (lv_at hl 1 rfl) ?_
        exact W.iret (v := (eu x y k).1) hx hb hr (fun t ht hW => ⟨_, rfl, (eu_64 x y hkn2), ht⟩) (fun _ h => absurd h List.not_mem_nil) dX4_commonDivisor_35
      · have n11 := Int32.not_le.mp c11
        have hk : k < 64 := Nat.lt_of_not_le (fun h => c11 (nI_le (a := 64) h (by omega)))
        refine lv_iload_n hx hb dX4_commonDivisor_14 rfl (lv_at hl 2 rfl) ?_
        refine lv_if_eq (tgt := 34) hx hb dX4_commonDivisor_15 (by decide) (fun c15 => ?_) (fun c15 => ?_)
        · refine lv_iload_n hx hb dX4_commonDivisor_34 rfl (lv_at hl 1 rfl) ?_
          exact W.iret (v := (eu x y k).1) hx hb hr (fun t ht hW => ⟨_, rfl, (eu_end x y hkn c15), ht⟩) (fun _ h => absurd h List.not_mem_nil) dX4_commonDivisor_35
        · refine lv_iload_n hx hb dX4_commonDivisor_18 rfl (lv_at hl 1 rfl) ?_
          refine lv_iload_n hx hb dX4_commonDivisor_19 rfl (lv_at hl 2 rfl) ?_
          refine lv_irem hx hb dX4_commonDivisor_20 c15 ?_
          refine lv_istore (lv' := [(5, .int (((eu x y k).1) - ((eu x y k).1) / ((eu x y k).2) * ((eu x y k).2))), (4, .int (nI k)), (2, .int ((eu x y k).1)), (3, .int ((eu x y k).2)), (0, .int x), (1, .int y)]) hx hb dX4_commonDivisor_21 hl (by decide) rfl (fun ls hl => ?_)
          refine lv_iload_n hx hb dX4_commonDivisor_23 rfl (lv_at hl 3 rfl) ?_
          refine lv_istore_n (lv' := [(2, .int ((eu x y k).2)), (5, .int (((eu x y k).1) - ((eu x y k).1) / ((eu x y k).2) * ((eu x y k).2))), (4, .int (nI k)), (3, .int ((eu x y k).2)), (0, .int x), (1, .int y)]) hx hb dX4_commonDivisor_24 rfl hl (by decide) rfl (fun ls hl => ?_)
          refine lv_iload hx hb dX4_commonDivisor_25 (lv_at hl 1 rfl) ?_
          refine lv_istore_n (lv' := [(3, .int (((eu x y k).1) - ((eu x y k).1) / ((eu x y k).2) * ((eu x y k).2))), (2, .int ((eu x y k).2)), (5, .int (((eu x y k).1) - ((eu x y k).1) / ((eu x y k).2) * ((eu x y k).2))), (4, .int (nI k)), (0, .int x), (1, .int y)]) hx hb dX4_commonDivisor_27 rfl hl (by decide) rfl (fun ls hl => ?_)
          refine lv_iinc (v := nI (k + 1)) (lv' := [(4, .int (nI (k + 1))), (3, .int (((eu x y k).1) - ((eu x y k).1) / ((eu x y k).2) * ((eu x y k).2))), (2, .int ((eu x y k).2)), (5, .int (((eu x y k).1) - ((eu x y k).1) / ((eu x y k).2) * ((eu x y k).2))), (0, .int x), (1, .int y)]) hx hb dX4_commonDivisor_28 hl (k := 3) rfl (nI_1 k) (by decide) rfl (fun ls hl => ?_)
          refine lv_goto (tgt := 7) hx hb dX4_commonDivisor_31 (by decide) ?_
          exact ih (k + 1) (by omega) (by omega) (by omega) _ _ (by simp [eu, c11, n11, c15]) (by simp [eu, c11, n11, c15]) ls (lv_sub hl [0, 2, 1, 4, 5] rfl)
  exact lp (64 + 1) 0 (by omega) (by omega) (by omega) _ _ (rfl) (rfl) ls (lv_sub hl [0, 2, 1, 3, 4] rfl)
set_option maxHeartbeats 4000000 in
set_option maxRecDepth 100000 in
theorem c_lowest (l : Launch) (dC : Nat → ClassId) (dI : Nat → Nat → Nat) (cI cZ cJ : ClassId) (a : Nat → Nat) (v : Nat → Int32) (g : Nat → Nat → Int32) (z x y : Int32) : Met l yX4_inLowestTerms wsX4_inLowestTerms ({ frames := 1, cells := 0, slots := 0, locals := 25 }) (va_Pc [.int z, .int x, .int y] (fun U => va_P (dC, dI) clA (wA cI cZ a v g) U.heap ∧ va_K (dC, dI) clA (tyA cI cZ cJ) U)) (vp_Si (fun r => r = lowT z x y)) 0 0 (fun _ => False) := by
  refine Met.ofW (cc := cX4_inLowestTerms) (maxL := 4) (ret := (some .int)) (by decide) rfl ?_
  intro p e s m args below meth c s₁ B hml hv
  obtain ⟨rfl, hP, hK⟩ := hv
  have hx := B.exec
  have hb := B.bytes
  have hr := B.returns
  have hts := atoms_spec (ws := wsX4_inLowestTerms) B.pre
  have hown : s.vm.findClass RX4 = some m.cls := findClass_of_methodNamed B.named
  have hlocks := B.notSynchronized
  have hl := lv_entry ([.int z, .int x, .int y]) (n := 4) (Nat.le_of_ble_eq_true rfl)
  rw [lg_entry_eq]
  generalize (lg_sl ([.int z, .int x, .int y]) ++ List.replicate (4 - (lg_sl ([.int z, .int x, .int y])).length) Slot.unset).toArray = ls at hl ⊢
  have hl : lv_has ls 4 [(0, .int z), (1, .int x), (2, .int y)] := hl
  refine lv_iload_n hx hb dX4_inLowestTerms_0 rfl (lv_at hl 1 rfl) ?_
  refine lv_iload_n hx hb dX4_inLowestTerms_1 rfl (lv_at hl 2 rfl) ?_
  refine vp_callSi (W.runS (As := [.int x, .int y]) (rest := []) ⟨hx, hb, hml, hown, hts⟩ (c_gcd l dC dI cI cZ cJ a v g x y) (cwS 2 hts (gd_S ml_X4_X4_commonDivisor sm_X4_commonDivisor in_X4 kX4_commonDivisor) rfl rfl rfl (by decide +kernel) ⟨Nat.le_of_ble_eq_true rfl, Nat.le_of_ble_eq_true rfl⟩) ⟨fun _ U g mk q => by obtain ⟨q0, qP, qK⟩ := q; exact ⟨q0, qP, va_K.moved (u := U) (U := U.calling g mk _) (Vm.Alike.refl U.vm) qK⟩, fun U hU hW => ⟨rfl, by rw [hU]; exact hP, va_K.moved hW.alike hK⟩⟩ rfl rfl hl.1 rfl (lv_room (Nat.le_of_ble_eq_true rfl)) dX4_inLowestTerms_2 ⟨Nat.zero_le _, Nat.zero_le _⟩) (fun r2 hr2 => ?_)
  subst hr2
  refine lv_istore_n (lv' := [(3, .int (gcdI x y)), (0, .int z), (1, .int x), (2, .int y)]) hx hb dX4_inLowestTerms_5 rfl hl (by decide) rfl (fun ls hl => ?_)
  refine lv_iload_n hx hb dX4_inLowestTerms_6 rfl (lv_at hl 0 rfl) ?_
  refine lv_if_le (tgt := 16) hx hb dX4_inLowestTerms_7 (by decide) (fun c7 => ?_) (fun c7 => ?_)
  · have n7 := Int32.not_lt.mpr c7
    refine lv_iload_n hx hb dX4_inLowestTerms_16 rfl (lv_at hl 1 rfl) ?_
    exact W.iret (v := z) hx hb hr (fun t ht hW => ⟨_, rfl, (by simp [lowT, c7, n7]), ht⟩) (fun _ h => absurd h List.not_mem_nil) dX4_inLowestTerms_17
  · have n7 := Int32.not_le.mp c7
    refine lv_iload_n hx hb dX4_inLowestTerms_10 rfl (lv_at hl 1 rfl) ?_
    refine lv_iload_n hx hb dX4_inLowestTerms_11 rfl (lv_at hl 0 rfl) ?_
    refine lv_idiv hx hb dX4_inLowestTerms_12 (fun h => c7 (by rw [h]; decide)) ?_
    refine lv_goto (tgt := 17) hx hb dX4_inLowestTerms_13 (by decide) ?_
    exact W.iret (v := z / (gcdI x y)) hx hb hr (fun t ht hW => ⟨_, rfl, (by simp [lowT, c7, n7]), ht⟩) (fun _ h => absurd h List.not_mem_nil) dX4_inLowestTerms_17
set_option maxHeartbeats 4000000 in
set_option maxRecDepth 100000 in
theorem c_askedTotal (l : Launch) (dC : Nat → ClassId) (dI : Nat → Nat → Nat) (cI cZ cJ : ClassId) (a : Nat → Nat) (v : Nat → Int32) (g : Nat → Nat → Int32) (n : Nat) (hn : v 5 = nI n) (hn2 : n ≤ 200) (nd : Nat) (hnd : v 4 = nI nd) (hnd2 : nd ≤ 6) (w f t : Int32) : Met l yX4_askedTotal wsX4_askedTotal ({ frames := 5, cells := 0, slots := 0, locals := 116 }) (va_Pc [.ref (a 0), .int w, .int f, .int t] (fun U => va_P (dC, dI) clA (wA cI cZ a v g) U.heap ∧ va_K (dC, dI) clA (tyA cI cZ cJ) U)) (vp_Si (fun r => r = totI g n nd w f t (v 2) (v 3))) 0 0 (fun _ => False) := by
  refine Met.ofW (cc := cX4_askedTotal) (maxL := 4) (ret := (some .int)) (by decide) rfl ?_
  intro p e s m args below meth c s₁ B hml hv
  obtain ⟨rfl, hP, hK⟩ := hv
  have hx := B.exec
  have hb := B.bytes
  have hr := B.returns
  have hts := atoms_spec (ws := wsX4_askedTotal) B.pre
  have hown : s.vm.findClass RX4 = some m.cls := findClass_of_methodNamed B.named
  have hlocks := B.notSynchronized
  have hl := lv_entry ([.ref (a 0), .int w, .int f, .int t]) (n := 4) (Nat.le_of_ble_eq_true rfl)
  rw [lg_entry_eq]
  generalize (lg_sl ([.ref (a 0), .int w, .int f, .int t]) ++ List.replicate (4 - (lg_sl ([.ref (a 0), .int w, .int f, .int t])).length) Slot.unset).toArray = ls at hl ⊢
  have hl : lv_has ls 4 [(0, .ref (a 0)), (1, .int w), (2, .int f), (3, .int t)] := hl
  refine lv_aload_n hx hb dX4_askedTotal_0 rfl (lv_at hl 0 rfl) ?_
  refine va_get (D := (dC, dI)) (ci := 4) (v := .ref (a 5)) (C := RX4) (T := TX4) (N := 9) hx hb hts (fun w h => List.mem_cons_of_mem _ (iw_X4 w h)) hown hK hP 0 rfl rfl 1 (by decide) (hts _ (List.mem_cons_of_mem _ fl_X4_incidents)) (fun _ h9 => h9) rfl dX4_askedTotal_1 ?_
  refine lv_iload_n hx hb dX4_askedTotal_4 rfl (lv_at hl 1 rfl) ?_
  refine lv_aload_n hx hb dX4_askedTotal_5 rfl (lv_at hl 0 rfl) ?_
  refine va_get (D := (dC, dI)) (ci := 4) (v := .ref (a 2)) (C := RX4) (T := TX4) (N := 9) hx hb hts (fun w h => List.mem_cons_of_mem _ (iw_X4 w h)) hown hK hP 0 rfl rfl 0 (by decide) (hts _ (List.mem_cons_of_mem _ fl_X4_definitions)) (fun _ h9 => h9) rfl dX4_askedTotal_6 ?_
  refine lv_iload_n hx hb dX4_askedTotal_9 rfl (lv_at hl 2 rfl) ?_
  refine lv_iload_n hx hb dX4_askedTotal_10 rfl (lv_at hl 3 rfl) ?_
  refine lv_aload_n hx hb dX4_askedTotal_11 rfl (lv_at hl 0 rfl) ?_
  refine va_get (D := (dC, dI)) (ci := 4) (v := .int (v 2)) (C := RX4) (T := TX4) (N := 9) hx hb hts (fun w h => List.mem_cons_of_mem _ (iw_X4 w h)) hown hK hP 0 rfl rfl 7 (by decide) (hts _ (List.mem_cons_of_mem _ fl_X4_askedKind)) (fun _ h9 => h9) rfl dX4_askedTotal_12 ?_
  refine lv_aload_n hx hb dX4_askedTotal_15 rfl (lv_at hl 0 rfl) ?_
  refine va_get (D := (dC, dI)) (ci := 4) (v := .int (v 3)) (C := RX4) (T := TX4) (N := 9) hx hb hts (fun w h => List.mem_cons_of_mem _ (iw_X4 w h)) hown hK hP 0 rfl rfl 8 (by decide) (hts _ (List.mem_cons_of_mem _ fl_X4_askedArea)) (fun _ h9 => h9) rfl dX4_askedTotal_16 ?_
  refine vp_callSi (W.runV (As := [.int w, .ref (a 2), .int f, .int t, .int (v 2), .int (v 3)]) (rest := []) ⟨hx, hb, hml, hown, hts⟩ (c_total l dC dI cI cZ cJ a v g n hn hn2 nd hnd hnd2 w f t (v 2) (v 3)) (cwV 6 hts (gd_V ml_X4_X1_total im_X1_total se_X1_total in_X1 kX1_total) rfl rfl rfl (by decide +kernel) ⟨Nat.le_of_ble_eq_true rfl, Nat.le_of_ble_eq_true rfl⟩) ⟨fun _ U g mk q => by obtain ⟨q0, qP, qK⟩ := q; exact ⟨q0, qP, va_K.moved (u := U) (U := U.calling g mk _) (Vm.Alike.refl U.vm) qK⟩, va_recv hK hP (ci := 1) (q0 := 5) rfl rfl, fun U hU hW => ⟨rfl, by rw [hU]; exact hP, va_K.moved hW.alike hK⟩⟩ rfl rfl hl.1 rfl (lv_room (Nat.le_of_ble_eq_true rfl)) dX4_askedTotal_19 ⟨Nat.zero_le _, Nat.zero_le _⟩) (fun r19 hr19 => ?_)
  subst hr19
  exact W.iret (v := totI g n nd w f t (v 2) (v 3)) hx hb hr (fun t ht hW => ⟨_, rfl, rfl, ht⟩) (fun _ h => absurd h List.not_mem_nil) dX4_askedTotal_22
set_option maxHeartbeats 4000000 in
set_option maxRecDepth 100000 in
theorem c_rowsWithin (l : Launch) (dC : Nat → ClassId) (dI : Nat → Nat → Nat) (cI cZ cJ : ClassId) (a : Nat → Nat) (v : Nat → Int32) (g : Nat → Nat → Int32) (n : Nat) (hn : v 5 = nI n) (hn2 : n ≤ 200) (nd : Nat) (hnd : v 4 = nI nd) (hnd2 : nd ≤ 6) (f t : Int32) : Met l yX4_rowsWithin wsX4_rowsWithin ({ frames := 6, cells := 0, slots := 0, locals := 139 }) (va_Pc [.ref (a 0), .int f, .int t] (fun U => va_P (dC, dI) clA (wA cI cZ a v g) U.heap ∧ va_K (dC, dI) clA (tyA cI cZ cJ) U)) (vp_Si (fun r => r = totI g n nd 2 f t (v 2) (v 3))) 0 0 (fun _ => False) := by
  refine Met.ofW (cc := cX4_rowsWithin) (maxL := 3) (ret := (some .int)) (by decide) rfl ?_
  intro p e s m args below meth c s₁ B hml hv
  obtain ⟨rfl, hP, hK⟩ := hv
  have hx := B.exec
  have hb := B.bytes
  have hr := B.returns
  have hts := atoms_spec (ws := wsX4_rowsWithin) B.pre
  have hown : s.vm.findClass RX4 = some m.cls := findClass_of_methodNamed B.named
  have hlocks := B.notSynchronized
  have hl := lv_entry ([.ref (a 0), .int f, .int t]) (n := 3) (Nat.le_of_ble_eq_true rfl)
  rw [lg_entry_eq]
  generalize (lg_sl ([.ref (a 0), .int f, .int t]) ++ List.replicate (3 - (lg_sl ([.ref (a 0), .int f, .int t])).length) Slot.unset).toArray = ls at hl ⊢
  have hl : lv_has ls 3 [(0, .ref (a 0)), (1, .int f), (2, .int t)] := hl
  refine lv_aload_n hx hb dX4_rowsWithin_0 rfl (lv_at hl 0 rfl) ?_
  refine lv_iconst (v := 2) hx hb dX4_rowsWithin_1 (by decide) ?_
  refine lv_iload_n hx hb dX4_rowsWithin_2 rfl (lv_at hl 1 rfl) ?_
  refine lv_iload_n hx hb dX4_rowsWithin_3 rfl (lv_at hl 2 rfl) ?_
  refine vp_callSi (W.runV (As := [.int 2, .int f, .int t]) (rest := []) ⟨hx, hb, hml, hown, hts⟩ (c_askedTotal l dC dI cI cZ cJ a v g n hn hn2 nd hnd hnd2 2 f t) (cwV 3 hts (gd_V ml_X4_X4_askedTotal im_X4_askedTotal se_X4_askedTotal in_X4 kX4_askedTotal) rfl rfl rfl (by decide +kernel) ⟨Nat.le_of_ble_eq_true rfl, Nat.le_of_ble_eq_true rfl⟩) ⟨fun _ U g mk q => by obtain ⟨q0, qP, qK⟩ := q; exact ⟨q0, qP, va_K.moved (u := U) (U := U.calling g mk _) (Vm.Alike.refl U.vm) qK⟩, va_recv hK hP (ci := 4) (q0 := 0) rfl rfl, fun U hU hW => ⟨rfl, by rw [hU]; exact hP, va_K.moved hW.alike hK⟩⟩ rfl rfl hl.1 rfl (lv_room (Nat.le_of_ble_eq_true rfl)) dX4_rowsWithin_4 ⟨Nat.zero_le _, Nat.zero_le _⟩) (fun r4 hr4 => ?_)
  subst hr4
  exact W.iret (v := totI g n nd 2 f t (v 2) (v 3)) hx hb hr (fun t ht hW => ⟨_, rfl, rfl, ht⟩) (fun _ h => absurd h List.not_mem_nil) dX4_rowsWithin_7
set_option maxHeartbeats 4000000 in
set_option maxRecDepth 100000 in
theorem c_rowsNot (l : Launch) (dC : Nat → ClassId) (dI : Nat → Nat → Nat) (cI cZ cJ : ClassId) (a : Nat → Nat) (v : Nat → Int32) (g : Nat → Nat → Int32) (n : Nat) (hn : v 5 = nI n) (hn2 : n ≤ 200) (nd : Nat) (hnd : v 4 = nI nd) (hnd2 : nd ≤ 6) (f t : Int32) : Met l yX4_rowsNotWithout wsX4_rowsNotWithout ({ frames := 6, cells := 0, slots := 0, locals := 139 }) (va_Pc [.ref (a 0), .int f, .int t] (fun U => va_P (dC, dI) clA (wA cI cZ a v g) U.heap ∧ va_K (dC, dI) clA (tyA cI cZ cJ) U)) (vp_Si (fun r => r = totI g n nd 0 f t (v 2) (v 3) - totI g n nd 3 f t (v 2) (v 3))) 0 0 (fun _ => False) := by
  refine Met.ofW (cc := cX4_rowsNotWithout) (maxL := 3) (ret := (some .int)) (by decide) rfl ?_
  intro p e s m args below meth c s₁ B hml hv
  obtain ⟨rfl, hP, hK⟩ := hv
  have hx := B.exec
  have hb := B.bytes
  have hr := B.returns
  have hts := atoms_spec (ws := wsX4_rowsNotWithout) B.pre
  have hown : s.vm.findClass RX4 = some m.cls := findClass_of_methodNamed B.named
  have hlocks := B.notSynchronized
  have hl := lv_entry ([.ref (a 0), .int f, .int t]) (n := 3) (Nat.le_of_ble_eq_true rfl)
  rw [lg_entry_eq]
  generalize (lg_sl ([.ref (a 0), .int f, .int t]) ++ List.replicate (3 - (lg_sl ([.ref (a 0), .int f, .int t])).length) Slot.unset).toArray = ls at hl ⊢
  have hl : lv_has ls 3 [(0, .ref (a 0)), (1, .int f), (2, .int t)] := hl
  refine lv_aload_n hx hb dX4_rowsNotWithout_0 rfl (lv_at hl 0 rfl) ?_
  refine lv_iconst (v := 0) hx hb dX4_rowsNotWithout_1 (by decide) ?_
  refine lv_iload_n hx hb dX4_rowsNotWithout_2 rfl (lv_at hl 1 rfl) ?_
  refine lv_iload_n hx hb dX4_rowsNotWithout_3 rfl (lv_at hl 2 rfl) ?_
  refine vp_callSi (W.runV (As := [.int 0, .int f, .int t]) (rest := []) ⟨hx, hb, hml, hown, hts⟩ (c_askedTotal l dC dI cI cZ cJ a v g n hn hn2 nd hnd hnd2 0 f t) (cwV 3 hts (gd_V ml_X4_X4_askedTotal im_X4_askedTotal se_X4_askedTotal in_X4 kX4_askedTotal) rfl rfl rfl (by decide +kernel) ⟨Nat.le_of_ble_eq_true rfl, Nat.le_of_ble_eq_true rfl⟩) ⟨fun _ U g mk q => by obtain ⟨q0, qP, qK⟩ := q; exact ⟨q0, qP, va_K.moved (u := U) (U := U.calling g mk _) (Vm.Alike.refl U.vm) qK⟩, va_recv hK hP (ci := 4) (q0 := 0) rfl rfl, fun U hU hW => ⟨rfl, by rw [hU]; exact hP, va_K.moved hW.alike hK⟩⟩ rfl rfl hl.1 rfl (lv_room (Nat.le_of_ble_eq_true rfl)) dX4_rowsNotWithout_4 ⟨Nat.zero_le _, Nat.zero_le _⟩) (fun r4 hr4 => ?_)
  subst hr4
  refine lv_aload_n hx hb dX4_rowsNotWithout_7 rfl (lv_at hl 0 rfl) ?_
  refine lv_iconst (v := 3) hx hb dX4_rowsNotWithout_8 (by decide) ?_
  refine lv_iload_n hx hb dX4_rowsNotWithout_9 rfl (lv_at hl 1 rfl) ?_
  refine lv_iload_n hx hb dX4_rowsNotWithout_10 rfl (lv_at hl 2 rfl) ?_
  refine vp_callSi (W.runV (As := [.int 3, .int f, .int t]) (rest := [.int (totI g n nd 0 f t (v 2) (v 3))]) ⟨hx, hb, hml, hown, hts⟩ (c_askedTotal l dC dI cI cZ cJ a v g n hn hn2 nd hnd hnd2 3 f t) (cwV 3 hts (gd_V ml_X4_X4_askedTotal im_X4_askedTotal se_X4_askedTotal in_X4 kX4_askedTotal) rfl rfl rfl (by decide +kernel) ⟨Nat.le_of_ble_eq_true rfl, Nat.le_of_ble_eq_true rfl⟩) ⟨fun _ U g mk q => by obtain ⟨q0, qP, qK⟩ := q; exact ⟨q0, qP, va_K.moved (u := U) (U := U.calling g mk _) (Vm.Alike.refl U.vm) qK⟩, va_recv hK hP (ci := 4) (q0 := 0) rfl rfl, fun U hU hW => ⟨rfl, by rw [hU]; exact hP, va_K.moved hW.alike hK⟩⟩ rfl rfl hl.1 rfl (lv_room (Nat.le_of_ble_eq_true rfl)) dX4_rowsNotWithout_11 ⟨Nat.zero_le _, Nat.zero_le _⟩) (fun r11 hr11 => ?_)
  subst hr11
  refine lv_isub hx hb dX4_rowsNotWithout_14 ?_
  exact W.iret (v := (totI g n nd 0 f t (v 2) (v 3)) - (totI g n nd 3 f t (v 2) (v 3))) hx hb hr (fun t ht hW => ⟨_, rfl, rfl, ht⟩) (fun _ h => absurd h List.not_mem_nil) dX4_rowsNotWithout_15
set_option maxHeartbeats 4000000 in
set_option maxRecDepth 100000 in
theorem c_rowsOfArea (l : Launch) (dC : Nat → ClassId) (dI : Nat → Nat → Nat) (cI cZ cJ : ClassId) (a : Nat → Nat) (v : Nat → Int32) (g : Nat → Nat → Int32) (n : Nat) (hn : v 5 = nI n) (hn2 : n ≤ 200) (ar : Int32) : Met l yX4_rowsOfArea wsX4_rowsOfArea ({ frames := 3, cells := 0, slots := 0, locals := 74 }) (va_Pc [.ref (a 0), .int ar] (fun U => va_P (dC, dI) clA (wA cI cZ a v g) U.heap ∧ va_K (dC, dI) clA (tyA cI cZ cJ) U)) (vp_Si (fun r => r = cnt (fun i => askB g i (v 0) (v 1) (v 2) ar) n)) 0 0 (fun _ => False) := by
  refine Met.ofW (cc := cX4_rowsOfArea) (maxL := 2) (ret := (some .int)) (by decide) rfl ?_
  intro p e s m args below meth c s₁ B hml hv
  obtain ⟨rfl, hP, hK⟩ := hv
  have hx := B.exec
  have hb := B.bytes
  have hr := B.returns
  have hts := atoms_spec (ws := wsX4_rowsOfArea) B.pre
  have hown : s.vm.findClass RX4 = some m.cls := findClass_of_methodNamed B.named
  have hlocks := B.notSynchronized
  have hl := lv_entry ([.ref (a 0), .int ar]) (n := 2) (Nat.le_of_ble_eq_true rfl)
  rw [lg_entry_eq]
  generalize (lg_sl ([.ref (a 0), .int ar]) ++ List.replicate (2 - (lg_sl ([.ref (a 0), .int ar])).length) Slot.unset).toArray = ls at hl ⊢
  have hl : lv_has ls 2 [(0, .ref (a 0)), (1, .int ar)] := hl
  refine lv_aload_n hx hb dX4_rowsOfArea_0 rfl (lv_at hl 0 rfl) ?_
  refine va_get (D := (dC, dI)) (ci := 4) (v := .ref (a 5)) (C := RX4) (T := TX4) (N := 9) hx hb hts (fun w h => List.mem_cons_of_mem _ (iw_X4 w h)) hown hK hP 0 rfl rfl 1 (by decide) (hts _ (List.mem_cons_of_mem _ fl_X4_incidents)) (fun _ h9 => h9) rfl dX4_rowsOfArea_1 ?_
  refine lv_aload_n hx hb dX4_rowsOfArea_4 rfl (lv_at hl 0 rfl) ?_
  refine va_get (D := (dC, dI)) (ci := 4) (v := .int (v 0)) (C := RX4) (T := TX4) (N := 9) hx hb hts (fun w h => List.mem_cons_of_mem _ (iw_X4 w h)) hown hK hP 0 rfl rfl 5 (by decide) (hts _ (List.mem_cons_of_mem _ fl_X4_askedFrom)) (fun _ h9 => h9) rfl dX4_rowsOfArea_5 ?_
  refine lv_aload_n hx hb dX4_rowsOfArea_8 rfl (lv_at hl 0 rfl) ?_
  refine va_get (D := (dC, dI)) (ci := 4) (v := .int (v 1)) (C := RX4) (T := TX4) (N := 9) hx hb hts (fun w h => List.mem_cons_of_mem _ (iw_X4 w h)) hown hK hP 0 rfl rfl 6 (by decide) (hts _ (List.mem_cons_of_mem _ fl_X4_askedTo)) (fun _ h9 => h9) rfl dX4_rowsOfArea_9 ?_
  refine lv_aload_n hx hb dX4_rowsOfArea_12 rfl (lv_at hl 0 rfl) ?_
  refine va_get (D := (dC, dI)) (ci := 4) (v := .int (v 2)) (C := RX4) (T := TX4) (N := 9) hx hb hts (fun w h => List.mem_cons_of_mem _ (iw_X4 w h)) hown hK hP 0 rfl rfl 7 (by decide) (hts _ (List.mem_cons_of_mem _ fl_X4_askedKind)) (fun _ h9 => h9) rfl dX4_rowsOfArea_13 ?_
  refine lv_iload_n hx hb dX4_rowsOfArea_16 rfl (lv_at hl 1 rfl) ?_
  refine vp_callSi (W.runV (As := [.int (v 0), .int (v 1), .int (v 2), .int ar]) (rest := []) ⟨hx, hb, hml, hown, hts⟩ (c_number l dC dI cI cZ cJ a v g n hn hn2 (v 0) (v 1) (v 2) ar) (cwV 4 hts (gd_V ml_X4_X1_number im_X1_number se_X1_number in_X1 kX1_number) rfl rfl rfl (by decide +kernel) ⟨Nat.le_of_ble_eq_true rfl, Nat.le_of_ble_eq_true rfl⟩) ⟨fun _ U g mk q => by obtain ⟨q0, qP, qK⟩ := q; exact ⟨q0, qP, va_K.moved (u := U) (U := U.calling g mk _) (Vm.Alike.refl U.vm) qK⟩, va_recv hK hP (ci := 1) (q0 := 5) rfl rfl, fun U hU hW => ⟨rfl, by rw [hU]; exact hP, va_K.moved hW.alike hK⟩⟩ rfl rfl hl.1 rfl (lv_room (Nat.le_of_ble_eq_true rfl)) dX4_rowsOfArea_17 ⟨Nat.zero_le _, Nat.zero_le _⟩) (fun r17 hr17 => ?_)
  subst hr17
  exact W.iret (v := cnt (fun i => askB g i (v 0) (v 1) (v 2) ar) n) hx hb hr (fun t ht hW => ⟨_, rfl, rfl, ht⟩) (fun _ h => absurd h List.not_mem_nil) dX4_rowsOfArea_20
set_option maxHeartbeats 4000000 in
set_option maxRecDepth 100000 in
theorem c_splits (l : Launch) (dC : Nat → ClassId) (dI : Nat → Nat → Nat) (cI cZ cJ : ClassId) (a : Nat → Nat) (v : Nat → Int32) (g : Nat → Nat → Int32) (nd : Nat) (hnd : v 4 = nI nd) (hnd2 : nd ≤ 6) : Met l yX4_splits wsX4_splits ({ frames := 2, cells := 0, slots := 0, locals := 50 }) (va_Pc [.ref (a 0)] (fun U => va_P (dC, dI) clA (wA cI cZ a v g) U.heap ∧ va_K (dC, dI) clA (tyA cI cZ cJ) U)) (vp_Si (fun r => r = cnt (fun i => chgB g nd (v 0) (v 1) i) nd)) 0 0 (fun _ => False) := by
  refine Met.ofW (cc := cX4_splits) (maxL := 1) (ret := (some .int)) (by decide) rfl ?_
  intro p e s m args below meth c s₁ B hml hv
  obtain ⟨rfl, hP, hK⟩ := hv
  have hx := B.exec
  have hb := B.bytes
  have hr := B.returns
  have hts := atoms_spec (ws := wsX4_splits) B.pre
  have hown : s.vm.findClass RX4 = some m.cls := findClass_of_methodNamed B.named
  have hlocks := B.notSynchronized
  have hl := lv_entry ([.ref (a 0)]) (n := 1) (Nat.le_of_ble_eq_true rfl)
  rw [lg_entry_eq]
  generalize (lg_sl ([.ref (a 0)]) ++ List.replicate (1 - (lg_sl ([.ref (a 0)])).length) Slot.unset).toArray = ls at hl ⊢
  have hl : lv_has ls 1 [(0, .ref (a 0))] := hl
  refine lv_aload_n hx hb dX4_splits_0 rfl (lv_at hl 0 rfl) ?_
  refine va_get (D := (dC, dI)) (ci := 4) (v := .ref (a 2)) (C := RX4) (T := TX4) (N := 9) hx hb hts (fun w h => List.mem_cons_of_mem _ (iw_X4 w h)) hown hK hP 0 rfl rfl 0 (by decide) (hts _ (List.mem_cons_of_mem _ fl_X4_definitions)) (fun _ h9 => h9) rfl dX4_splits_1 ?_
  refine lv_aload_n hx hb dX4_splits_4 rfl (lv_at hl 0 rfl) ?_
  refine va_get (D := (dC, dI)) (ci := 4) (v := .int (v 0)) (C := RX4) (T := TX4) (N := 9) hx hb hts (fun w h => List.mem_cons_of_mem _ (iw_X4 w h)) hown hK hP 0 rfl rfl 5 (by decide) (hts _ (List.mem_cons_of_mem _ fl_X4_askedFrom)) (fun _ h9 => h9) rfl dX4_splits_5 ?_
  refine lv_aload_n hx hb dX4_splits_8 rfl (lv_at hl 0 rfl) ?_
  refine va_get (D := (dC, dI)) (ci := 4) (v := .int (v 1)) (C := RX4) (T := TX4) (N := 9) hx hb hts (fun w h => List.mem_cons_of_mem _ (iw_X4 w h)) hown hK hP 0 rfl rfl 6 (by decide) (hts _ (List.mem_cons_of_mem _ fl_X4_askedTo)) (fun _ h9 => h9) rfl dX4_splits_9 ?_
  refine vp_callSi (W.runV (As := [.int (v 0), .int (v 1)]) (rest := []) ⟨hx, hb, hml, hown, hts⟩ (c_changes l dC dI cI cZ cJ a v g nd hnd hnd2 (v 0) (v 1)) (cwV 2 hts (gd_V ml_X4_X0_changes im_X0_changes se_X0_changes in_X0 kX0_changes) rfl rfl rfl (by decide +kernel) ⟨Nat.le_of_ble_eq_true rfl, Nat.le_of_ble_eq_true rfl⟩) ⟨fun _ U g mk q => by obtain ⟨q0, qP, qK⟩ := q; exact ⟨q0, qP, va_K.moved (u := U) (U := U.calling g mk _) (Vm.Alike.refl U.vm) qK⟩, va_recv hK hP (ci := 0) (q0 := 2) rfl rfl, fun U hU hW => ⟨rfl, by rw [hU]; exact hP, va_K.moved hW.alike hK⟩⟩ rfl rfl hl.1 rfl (lv_room (Nat.le_of_ble_eq_true rfl)) dX4_splits_12 ⟨Nat.zero_le _, Nat.zero_le _⟩) (fun r12 hr12 => ?_)
  subst hr12
  exact W.iret (v := cnt (fun i => chgB g nd (v 0) (v 1) i) nd) hx hb hr (fun t ht hW => ⟨_, rfl, rfl, ht⟩) (fun _ h => absurd h List.not_mem_nil) dX4_splits_15
