set_option maxHeartbeats 4000000 in
set_option maxRecDepth 100000 in
theorem c_secondsOf (l : Launch) (dC : Nat → ClassId) (dI : Nat → Nat → Nat) (cI cZ cJ : ClassId) (a : Nat → Nat) (v : Nat → Int32) (g : Nat → Nat → Int32) (x : Int32) : Met l yX1_secondsOf wsX1_secondsOf ({ frames := 0, cells := 0, slots := 0, locals := 0 }) (va_Pc [.int x] (fun U => va_P (dC, dI) clA (wA cI cZ a v g) U.heap ∧ va_K (dC, dI) clA (tyA cI cZ cJ) U)) (vp_Si (fun r => r = secs x)) 0 0 (fun _ => False) := by
  refine Met.ofW (cc := cX1_secondsOf) (maxL := 1) (ret := (some .int)) (by decide) rfl ?_
  intro p e s m args below meth c s₁ B hml hv
  obtain ⟨rfl, hP, hK⟩ := hv
  have hx := B.exec
  have hb := B.bytes
  have hr := B.returns
  have hts := atoms_spec (ws := wsX1_secondsOf) B.pre
  have hown : s.vm.findClass RX1 = some m.cls := findClass_of_methodNamed B.named
  have hlocks := B.notSynchronized
  have hl := lv_entry ([.int x]) (n := 1) (Nat.le_of_ble_eq_true rfl)
  rw [lg_entry_eq]
  generalize (lg_sl ([.int x]) ++ List.replicate (1 - (lg_sl ([.int x])).length) Slot.unset).toArray = ls at hl ⊢
  have hl : lv_has ls 1 [(0, .int x)] := hl
  refine lv_iload_n hx hb dX1_secondsOf_0 rfl (lv_at hl 0 rfl) ?_
  refine lv_iconst (v := (-1)) hx hb dX1_secondsOf_1 (by decide) ?_
  refine lv_icmp_ne (tgt := 9) hx hb dX1_secondsOf_2 (by decide) (fun c2 => ?_) (fun c2 => ?_)
  · refine lv_iload_n hx hb dX1_secondsOf_9 rfl (lv_at hl 0 rfl) ?_
    exact W.iret (v := x) hx hb hr (fun t ht hW => ⟨_, rfl, (by simp [secs, c2]), ht⟩) (fun _ h => absurd h List.not_mem_nil) dX1_secondsOf_10
  · refine lv_iconst (v := 0) hx hb dX1_secondsOf_5 (by decide) ?_
    refine lv_goto (tgt := 10) hx hb dX1_secondsOf_6 (by decide) ?_
    exact W.iret (v := 0) hx hb hr (fun t ht hW => ⟨_, rfl, (by simp [secs, c2]), ht⟩) (fun _ h => absurd h List.not_mem_nil) dX1_secondsOf_10
set_option maxHeartbeats 4000000 in
set_option maxRecDepth 100000 in
theorem c_isHidden (l : Launch) (dC : Nat → ClassId) (dI : Nat → Nat → Nat) (cI cZ cJ : ClassId) (a : Nat → Nat) (v : Nat → Int32) (g : Nat → Nat → Int32) (k : Nat) (hk : k < 200) : Met l yX1_isHidden wsX1_isHidden ({ frames := 0, cells := 0, slots := 0, locals := 0 }) (va_Pc [.ref (a 5), .int (nI k)] (fun U => va_P (dC, dI) clA (wA cI cZ a v g) U.heap ∧ va_K (dC, dI) clA (tyA cI cZ cJ) U)) (vp_Si (fun r => r = bI (hidB g k))) 0 0 (fun _ => False) := by
  refine Met.ofW (cc := cX1_isHidden) (maxL := 2) (ret := (some .boolean)) (by decide) rfl ?_
  intro p e s m args below meth c s₁ B hml hv
  obtain ⟨rfl, hP, hK⟩ := hv
  have hx := B.exec
  have hb := B.bytes
  have hr := B.returns
  have hts := atoms_spec (ws := wsX1_isHidden) B.pre
  have hown : s.vm.findClass RX1 = some m.cls := findClass_of_methodNamed B.named
  have hlocks := B.notSynchronized
  have hl := lv_entry ([.ref (a 5), .int (nI k)]) (n := 2) (Nat.le_of_ble_eq_true rfl)
  rw [lg_entry_eq]
  generalize (lg_sl ([.ref (a 5), .int (nI k)]) ++ List.replicate (2 - (lg_sl ([.ref (a 5), .int (nI k)])).length) Slot.unset).toArray = ls at hl ⊢
  have hl : lv_has ls 2 [(0, .ref (a 5)), (1, .int (nI k))] := hl
  refine lv_aload_n hx hb dX1_isHidden_0 rfl (lv_at hl 0 rfl) ?_
  refine va_get (D := (dC, dI)) (ci := 1) (v := .ref (a 11)) (C := RX1) (T := TX1) (N := 10) hx hb hts (fun w h => List.mem_cons_of_mem _ (iw_X1 w h)) hown hK hP 5 rfl rfl 5 (by decide) (hts _ (List.mem_cons_of_mem _ fl_X1_marks)) (fun _ h9 => h9) rfl dX1_isHidden_1 ?_
  refine lv_iload_n hx hb dX1_isHidden_4 rfl (lv_at hl 1 rfl) ?_
  refine wi_ald hx hb hK hP 11 0 rfl rfl (k := k) (by omega) (by decide) dX1_isHidden_5 ?_
  refine lv_iconst (v := 2) hx hb dX1_isHidden_6 (by decide) ?_
  refine lv_iand hx hb dX1_isHidden_7 ?_
  refine lv_if_eq (tgt := 15) hx hb dX1_isHidden_8 (by decide) (fun c8 => ?_) (fun c8 => ?_)
  · refine lv_iconst (v := 0) hx hb dX1_isHidden_15 (by decide) ?_
    exact W.zret (v := 0) hx hb hr rfl (fun t ht hW => ⟨_, rfl, (by simp [hidB, bI, c8]), ht⟩) (fun _ h => absurd h List.not_mem_nil) dX1_isHidden_16
  · refine lv_iconst (v := 1) hx hb dX1_isHidden_11 (by decide) ?_
    refine lv_goto (tgt := 16) hx hb dX1_isHidden_12 (by decide) ?_
    exact W.zret (v := 1) hx hb hr rfl (fun t ht hW => ⟨_, rfl, (by simp [hidB, bI, c8]), ht⟩) (fun _ h => absurd h List.not_mem_nil) dX1_isHidden_16
set_option maxHeartbeats 4000000 in
set_option maxRecDepth 100000 in
theorem c_isInSpan (l : Launch) (dC : Nat → ClassId) (dI : Nat → Nat → Nat) (cI cZ cJ : ClassId) (a : Nat → Nat) (v : Nat → Int32) (g : Nat → Nat → Int32) (k : Nat) (f t : Int32) (hk : k < 200) : Met l yX1_isInSpan wsX1_isInSpan ({ frames := 0, cells := 0, slots := 0, locals := 0 }) (va_Pc [.ref (a 5), .int (nI k), .int f, .int t] (fun U => va_P (dC, dI) clA (wA cI cZ a v g) U.heap ∧ va_K (dC, dI) clA (tyA cI cZ cJ) U)) (vp_Si (fun r => r = bI (spanB g k f t))) 0 0 (fun _ => False) := by
  refine Met.ofW (cc := cX1_isInSpan) (maxL := 4) (ret := (some .boolean)) (by decide) rfl ?_
  intro p e s m args below meth c s₁ B hml hv
  obtain ⟨rfl, hP, hK⟩ := hv
  have hx := B.exec
  have hb := B.bytes
  have hr := B.returns
  have hts := atoms_spec (ws := wsX1_isInSpan) B.pre
  have hown : s.vm.findClass RX1 = some m.cls := findClass_of_methodNamed B.named
  have hlocks := B.notSynchronized
  have hl := lv_entry ([.ref (a 5), .int (nI k), .int f, .int t]) (n := 4) (Nat.le_of_ble_eq_true rfl)
  rw [lg_entry_eq]
  generalize (lg_sl ([.ref (a 5), .int (nI k), .int f, .int t]) ++ List.replicate (4 - (lg_sl ([.ref (a 5), .int (nI k), .int f, .int t])).length) Slot.unset).toArray = ls at hl ⊢
  have hl : lv_has ls 4 [(0, .ref (a 5)), (1, .int (nI k)), (2, .int f), (3, .int t)] := hl
  refine lv_aload_n hx hb dX1_isInSpan_0 rfl (lv_at hl 0 rfl) ?_
  refine va_get (D := (dC, dI)) (ci := 1) (v := .ref (a 6)) (C := RX1) (T := TX1) (N := 10) hx hb hts (fun w h => List.mem_cons_of_mem _ (iw_X1 w h)) hown hK hP 5 rfl rfl 0 (by decide) (hts _ (List.mem_cons_of_mem _ fl_X1_days)) (fun _ h9 => h9) rfl dX1_isInSpan_1 ?_
  refine lv_iload_n hx hb dX1_isInSpan_4 rfl (lv_at hl 1 rfl) ?_
  refine wi_ald hx hb hK hP 6 0 rfl rfl (k := k) (by omega) (by decide) dX1_isInSpan_5 ?_
  refine lv_iload_n hx hb dX1_isInSpan_6 rfl (lv_at hl 2 rfl) ?_
  refine lv_icmp_lt (tgt := 24) hx hb dX1_isInSpan_7 (by decide) (fun c7 => ?_) (fun c7 => ?_)
  · have n7 := Int32.not_le.mpr c7
    refine lv_iconst (v := 0) hx hb dX1_isInSpan_24 (by decide) ?_
    exact W.zret (v := 0) hx hb hr rfl (fun t ht hW => ⟨_, rfl, (by simp [spanB, bI, c7, n7]), ht⟩) (fun _ h => absurd h List.not_mem_nil) dX1_isInSpan_25
  · have n7 := Int32.not_lt.mp c7
    refine lv_aload_n hx hb dX1_isInSpan_10 rfl (lv_at hl 0 rfl) ?_
    refine va_get (D := (dC, dI)) (ci := 1) (v := .ref (a 6)) (C := RX1) (T := TX1) (N := 10) hx hb hts (fun w h => List.mem_cons_of_mem _ (iw_X1 w h)) hown hK hP 5 rfl rfl 0 (by decide) (hts _ (List.mem_cons_of_mem _ fl_X1_days)) (fun _ h9 => h9) rfl dX1_isInSpan_11 ?_
    refine lv_iload_n hx hb dX1_isInSpan_14 rfl (lv_at hl 1 rfl) ?_
    refine wi_ald hx hb hK hP 6 0 rfl rfl (k := k) (by omega) (by decide) dX1_isInSpan_15 ?_
    refine lv_iload_n hx hb dX1_isInSpan_16 rfl (lv_at hl 3 rfl) ?_
    refine lv_icmp_gt (tgt := 24) hx hb dX1_isInSpan_17 (by decide) (fun c17 => ?_) (fun c17 => ?_)
    · have n17 := Int32.not_le.mpr c17
      refine lv_iconst (v := 0) hx hb dX1_isInSpan_24 (by decide) ?_
      exact W.zret (v := 0) hx hb hr rfl (fun t ht hW => ⟨_, rfl, (by simp [spanB, bI, c7, n7, c17, n17]), ht⟩) (fun _ h => absurd h List.not_mem_nil) dX1_isInSpan_25
    · have n17 := Int32.not_lt.mp c17
      refine lv_iconst (v := 1) hx hb dX1_isInSpan_20 (by decide) ?_
      refine lv_goto (tgt := 25) hx hb dX1_isInSpan_21 (by decide) ?_
      exact W.zret (v := 1) hx hb hr rfl (fun t ht hW => ⟨_, rfl, (by simp [spanB, bI, c7, n7, c17, n17]), ht⟩) (fun _ h => absurd h List.not_mem_nil) dX1_isInSpan_25
set_option maxHeartbeats 4000000 in
set_option maxRecDepth 100000 in
theorem c_hasBoth (l : Launch) (dC : Nat → ClassId) (dI : Nat → Nat → Nat) (cI cZ cJ : ClassId) (a : Nat → Nat) (v : Nat → Int32) (g : Nat → Nat → Int32) (k : Nat) (hk : k < 200) : Met l yX1_hasBothValues wsX1_hasBothValues ({ frames := 0, cells := 0, slots := 0, locals := 0 }) (va_Pc [.ref (a 5), .int (nI k)] (fun U => va_P (dC, dI) clA (wA cI cZ a v g) U.heap ∧ va_K (dC, dI) clA (tyA cI cZ cJ) U)) (vp_Si (fun r => r = bI (bothB g k))) 0 0 (fun _ => False) := by
  refine Met.ofW (cc := cX1_hasBothValues) (maxL := 2) (ret := (some .boolean)) (by decide) rfl ?_
  intro p e s m args below meth c s₁ B hml hv
  obtain ⟨rfl, hP, hK⟩ := hv
  have hx := B.exec
  have hb := B.bytes
  have hr := B.returns
  have hts := atoms_spec (ws := wsX1_hasBothValues) B.pre
  have hown : s.vm.findClass RX1 = some m.cls := findClass_of_methodNamed B.named
  have hlocks := B.notSynchronized
  have hl := lv_entry ([.ref (a 5), .int (nI k)]) (n := 2) (Nat.le_of_ble_eq_true rfl)
  rw [lg_entry_eq]
  generalize (lg_sl ([.ref (a 5), .int (nI k)]) ++ List.replicate (2 - (lg_sl ([.ref (a 5), .int (nI k)])).length) Slot.unset).toArray = ls at hl ⊢
  have hl : lv_has ls 2 [(0, .ref (a 5)), (1, .int (nI k))] := hl
  refine lv_aload_n hx hb dX1_hasBothValues_0 rfl (lv_at hl 0 rfl) ?_
  refine va_get (D := (dC, dI)) (ci := 1) (v := .ref (a 12)) (C := RX1) (T := TX1) (N := 10) hx hb hts (fun w h => List.mem_cons_of_mem _ (iw_X1 w h)) hown hK hP 5 rfl rfl 6 (by decide) (hts _ (List.mem_cons_of_mem _ fl_X1_turnOuts)) (fun _ h9 => h9) rfl dX1_hasBothValues_1 ?_
  refine lv_iload_n hx hb dX1_hasBothValues_4 rfl (lv_at hl 1 rfl) ?_
  refine wi_ald hx hb hK hP 12 0 rfl rfl (k := k) (by omega) (by decide) dX1_hasBothValues_5 ?_
  refine lv_iconst (v := (-1)) hx hb dX1_hasBothValues_6 (by decide) ?_
  refine lv_icmp_eq (tgt := 24) hx hb dX1_hasBothValues_7 (by decide) (fun c7 => ?_) (fun c7 => ?_)
  · refine lv_iconst (v := 0) hx hb dX1_hasBothValues_24 (by decide) ?_
    exact W.zret (v := 0) hx hb hr rfl (fun t ht hW => ⟨_, rfl, (by simp [bothB, bI, c7]), ht⟩) (fun _ h => absurd h List.not_mem_nil) dX1_hasBothValues_25
  · refine lv_aload_n hx hb dX1_hasBothValues_10 rfl (lv_at hl 0 rfl) ?_
    refine va_get (D := (dC, dI)) (ci := 1) (v := .ref (a 13)) (C := RX1) (T := TX1) (N := 10) hx hb hts (fun w h => List.mem_cons_of_mem _ (iw_X1 w h)) hown hK hP 5 rfl rfl 7 (by decide) (hts _ (List.mem_cons_of_mem _ fl_X1_travels)) (fun _ h9 => h9) rfl dX1_hasBothValues_11 ?_
    refine lv_iload_n hx hb dX1_hasBothValues_14 rfl (lv_at hl 1 rfl) ?_
    refine wi_ald hx hb hK hP 13 0 rfl rfl (k := k) (by omega) (by decide) dX1_hasBothValues_15 ?_
    refine lv_iconst (v := (-1)) hx hb dX1_hasBothValues_16 (by decide) ?_
    refine lv_icmp_eq (tgt := 24) hx hb dX1_hasBothValues_17 (by decide) (fun c17 => ?_) (fun c17 => ?_)
    · refine lv_iconst (v := 0) hx hb dX1_hasBothValues_24 (by decide) ?_
      exact W.zret (v := 0) hx hb hr rfl (fun t ht hW => ⟨_, rfl, (by simp [bothB, bI, c7, c17]), ht⟩) (fun _ h => absurd h List.not_mem_nil) dX1_hasBothValues_25
    · refine lv_iconst (v := 1) hx hb dX1_hasBothValues_20 (by decide) ?_
      refine lv_goto (tgt := 25) hx hb dX1_hasBothValues_21 (by decide) ?_
      exact W.zret (v := 1) hx hb hr rfl (fun t ht hW => ⟨_, rfl, (by simp [bothB, bI, c7, c17]), ht⟩) (fun _ h => absurd h List.not_mem_nil) dX1_hasBothValues_25
set_option maxHeartbeats 4000000 in
set_option maxRecDepth 100000 in
theorem c_isWithout (l : Launch) (dC : Nat → ClassId) (dI : Nat → Nat → Nat) (cI cZ cJ : ClassId) (a : Nat → Nat) (v : Nat → Int32) (g : Nat → Nat → Int32) (k : Nat) (mk : Int32) (hk : k < 200) : Met l yX1_isWithout wsX1_isWithout ({ frames := 1, cells := 0, slots := 0, locals := 21 }) (va_Pc [.ref (a 5), .int (nI k), .int mk] (fun U => va_P (dC, dI) clA (wA cI cZ a v g) U.heap ∧ va_K (dC, dI) clA (tyA cI cZ cJ) U)) (vp_Si (fun r => r = bI (woutB g k mk))) 0 0 (fun _ => False) := by
  refine Met.ofW (cc := cX1_isWithout) (maxL := 3) (ret := (some .boolean)) (by decide) rfl ?_
  intro p e s m args below meth c s₁ B hml hv
  obtain ⟨rfl, hP, hK⟩ := hv
  have hx := B.exec
  have hb := B.bytes
  have hr := B.returns
  have hts := atoms_spec (ws := wsX1_isWithout) B.pre
  have hown : s.vm.findClass RX1 = some m.cls := findClass_of_methodNamed B.named
  have hlocks := B.notSynchronized
  have hl := lv_entry ([.ref (a 5), .int (nI k), .int mk]) (n := 3) (Nat.le_of_ble_eq_true rfl)
  rw [lg_entry_eq]
  generalize (lg_sl ([.ref (a 5), .int (nI k), .int mk]) ++ List.replicate (3 - (lg_sl ([.ref (a 5), .int (nI k), .int mk])).length) Slot.unset).toArray = ls at hl ⊢
  have hl : lv_has ls 3 [(0, .ref (a 5)), (1, .int (nI k)), (2, .int mk)] := hl
  refine lv_iload_n hx hb dX1_isWithout_0 rfl (lv_at hl 2 rfl) ?_
  refine lv_iconst (v := (-1)) hx hb dX1_isWithout_1 (by decide) ?_
  refine lv_icmp_eq (tgt := 13) hx hb dX1_isWithout_2 (by decide) (fun c2 => ?_) (fun c2 => ?_)
  · refine lv_iconst (v := 1) hx hb dX1_isWithout_13 (by decide) ?_
    refine lv_goto (tgt := 18) hx hb dX1_isWithout_14 (by decide) ?_
    exact W.zret (v := 1) hx hb hr rfl (fun t ht hW => ⟨_, rfl, (by simp [woutB, bI, c2]), ht⟩) (fun _ h => absurd h List.not_mem_nil) dX1_isWithout_18
  · refine lv_aload_n hx hb dX1_isWithout_5 rfl (lv_at hl 0 rfl) ?_
    refine lv_iload_n hx hb dX1_isWithout_6 rfl (lv_at hl 1 rfl) ?_
    refine vp_callSi (W.runV (As := [.int (nI k)]) (rest := []) ⟨hx, hb, hml, hown, hts⟩ (c_hasBoth l dC dI cI cZ cJ a v g k (by omega)) (cwV 1 hts (gd_V ml_X1_X1_hasBothValues im_X1_hasBothValues se_X1_hasBothValues in_X1 kX1_hasBothValues) rfl rfl rfl (by decide +kernel) ⟨Nat.le_of_ble_eq_true rfl, Nat.le_of_ble_eq_true rfl⟩) ⟨fun _ U g mk q => by obtain ⟨q0, qP, qK⟩ := q; exact ⟨q0, qP, va_K.moved (u := U) (U := U.calling g mk _) (Vm.Alike.refl U.vm) qK⟩, va_recv hK hP (ci := 1) (q0 := 5) rfl rfl, fun U hU hW => ⟨rfl, by rw [hU]; exact hP, va_K.moved hW.alike hK⟩⟩ rfl rfl hl.1 rfl (lv_room (Nat.le_of_ble_eq_true rfl)) dX1_isWithout_7 ⟨Nat.zero_le _, Nat.zero_le _⟩) (fun r7 hr7 => ?_)
    subst hr7
    refine lv_if_ne (tgt := 17) hx hb dX1_isWithout_10 (by decide) (fun c10 => ?_) (fun c10 => ?_)
    · have c10 := bI_n0.mp c10
      refine lv_iconst (v := 0) hx hb dX1_isWithout_17 (by decide) ?_
      exact W.zret (v := 0) hx hb hr rfl (fun t ht hW => ⟨_, rfl, (by simp [woutB, bI, c2, c10]), ht⟩) (fun _ h => absurd h List.not_mem_nil) dX1_isWithout_18
    · have c10 := bI_0.mp c10
      refine lv_iconst (v := 1) hx hb dX1_isWithout_13 (by decide) ?_
      refine lv_goto (tgt := 18) hx hb dX1_isWithout_14 (by decide) ?_
      exact W.zret (v := 1) hx hb hr rfl (fun t ht hW => ⟨_, rfl, (by simp [woutB, bI, c2, c10]), ht⟩) (fun _ h => absurd h List.not_mem_nil) dX1_isWithout_18
set_option maxHeartbeats 4000000 in
set_option maxRecDepth 100000 in
theorem c_isWithin (l : Launch) (dC : Nat → ClassId) (dI : Nat → Nat → Nat) (cI cZ cJ : ClassId) (a : Nat → Nat) (v : Nat → Int32) (g : Nat → Nat → Int32) (k : Nat) (mk : Int32) (hk : k < 200) : Met l yX1_isWithin wsX1_isWithin ({ frames := 2, cells := 0, slots := 0, locals := 43 }) (va_Pc [.ref (a 5), .int (nI k), .int mk] (fun U => va_P (dC, dI) clA (wA cI cZ a v g) U.heap ∧ va_K (dC, dI) clA (tyA cI cZ cJ) U)) (vp_Si (fun r => r = bI (winB g k mk))) 0 0 (fun _ => False) := by
  refine Met.ofW (cc := cX1_isWithin) (maxL := 3) (ret := (some .boolean)) (by decide) rfl ?_
  intro p e s m args below meth c s₁ B hml hv
  obtain ⟨rfl, hP, hK⟩ := hv
  have hx := B.exec
  have hb := B.bytes
  have hr := B.returns
  have hts := atoms_spec (ws := wsX1_isWithin) B.pre
  have hown : s.vm.findClass RX1 = some m.cls := findClass_of_methodNamed B.named
  have hlocks := B.notSynchronized
  have hl := lv_entry ([.ref (a 5), .int (nI k), .int mk]) (n := 3) (Nat.le_of_ble_eq_true rfl)
  rw [lg_entry_eq]
  generalize (lg_sl ([.ref (a 5), .int (nI k), .int mk]) ++ List.replicate (3 - (lg_sl ([.ref (a 5), .int (nI k), .int mk])).length) Slot.unset).toArray = ls at hl ⊢
  have hl : lv_has ls 3 [(0, .ref (a 5)), (1, .int (nI k)), (2, .int mk)] := hl
  refine lv_aload_n hx hb dX1_isWithin_0 rfl (lv_at hl 0 rfl) ?_
  refine lv_iload_n hx hb dX1_isWithin_1 rfl (lv_at hl 1 rfl) ?_
  refine lv_iload_n hx hb dX1_isWithin_2 rfl (lv_at hl 2 rfl) ?_
  refine vp_callSi (W.runV (As := [.int (nI k), .int mk]) (rest := []) ⟨hx, hb, hml, hown, hts⟩ (c_isWithout l dC dI cI cZ cJ a v g k mk (by omega)) (cwV 2 hts (gd_V ml_X1_X1_isWithout im_X1_isWithout se_X1_isWithout in_X1 kX1_isWithout) rfl rfl rfl (by decide +kernel) ⟨Nat.le_of_ble_eq_true rfl, Nat.le_of_ble_eq_true rfl⟩) ⟨fun _ U g mk q => by obtain ⟨q0, qP, qK⟩ := q; exact ⟨q0, qP, va_K.moved (u := U) (U := U.calling g mk _) (Vm.Alike.refl U.vm) qK⟩, va_recv hK hP (ci := 1) (q0 := 5) rfl rfl, fun U hU hW => ⟨rfl, by rw [hU]; exact hP, va_K.moved hW.alike hK⟩⟩ rfl rfl hl.1 rfl (lv_room (Nat.le_of_ble_eq_true rfl)) dX1_isWithin_3 ⟨Nat.zero_le _, Nat.zero_le _⟩) (fun r3 hr3 => ?_)
  subst hr3
  refine lv_if_ne (tgt := 30) hx hb dX1_isWithin_6 (by decide) (fun c6 => ?_) (fun c6 => ?_)
  · have c6 := bI_n0.mp c6
    refine lv_iconst (v := 0) hx hb dX1_isWithin_30 (by decide) ?_
    exact W.zret (v := 0) hx hb hr rfl (fun t ht hW => ⟨_, rfl, (by simp [winB, bI, c6]), ht⟩) (fun _ h => absurd h List.not_mem_nil) dX1_isWithin_31
  · have c6 := bI_0.mp c6
    refine lv_aload_n hx hb dX1_isWithin_9 rfl (lv_at hl 0 rfl) ?_
    refine va_get (D := (dC, dI)) (ci := 1) (v := .ref (a 12)) (C := RX1) (T := TX1) (N := 10) hx hb hts (fun w h => List.mem_cons_of_mem _ (iw_X1 w h)) hown hK hP 5 rfl rfl 6 (by decide) (hts _ (List.mem_cons_of_mem _ fl_X1_turnOuts)) (fun _ h9 => h9) rfl dX1_isWithin_10 ?_
    refine lv_iload_n hx hb dX1_isWithin_13 rfl (lv_at hl 1 rfl) ?_
    refine wi_ald hx hb hK hP 12 0 rfl rfl (k := k) (by omega) (by decide) dX1_isWithin_14 ?_
    refine lv_aload_n hx hb dX1_isWithin_15 rfl (lv_at hl 0 rfl) ?_
    refine va_get (D := (dC, dI)) (ci := 1) (v := .ref (a 13)) (C := RX1) (T := TX1) (N := 10) hx hb hts (fun w h => List.mem_cons_of_mem _ (iw_X1 w h)) hown hK hP 5 rfl rfl 7 (by decide) (hts _ (List.mem_cons_of_mem _ fl_X1_travels)) (fun _ h9 => h9) rfl dX1_isWithin_16 ?_
    refine lv_iload_n hx hb dX1_isWithin_19 rfl (lv_at hl 1 rfl) ?_
    refine wi_ald hx hb hK hP 13 0 rfl rfl (k := k) (by omega) (by decide) dX1_isWithin_20 ?_
    refine lv_iadd hx hb dX1_isWithin_21 ?_
    refine lv_iload_n hx hb dX1_isWithin_22 rfl (lv_at hl 2 rfl) ?_
    refine lv_icmp_gt (tgt := 30) hx hb dX1_isWithin_23 (by decide) (fun c23 => ?_) (fun c23 => ?_)
    · have n23 := Int32.not_le.mpr c23
      refine lv_iconst (v := 0) hx hb dX1_isWithin_30 (by decide) ?_
      exact W.zret (v := 0) hx hb hr rfl (fun t ht hW => ⟨_, rfl, (by simp [winB, bI, c6, c23, n23]), ht⟩) (fun _ h => absurd h List.not_mem_nil) dX1_isWithin_31
    · have n23 := Int32.not_lt.mp c23
      refine lv_iconst (v := 1) hx hb dX1_isWithin_26 (by decide) ?_
      refine lv_goto (tgt := 31) hx hb dX1_isWithin_27 (by decide) ?_
      exact W.zret (v := 1) hx hb hr rfl (fun t ht hW => ⟨_, rfl, (by simp [winB, bI, c6, c23, n23]), ht⟩) (fun _ h => absurd h List.not_mem_nil) dX1_isWithin_31
set_option maxHeartbeats 4000000 in
set_option maxRecDepth 100000 in
theorem c_isAsked (l : Launch) (dC : Nat → ClassId) (dI : Nat → Nat → Nat) (cI cZ cJ : ClassId) (a : Nat → Nat) (v : Nat → Int32) (g : Nat → Nat → Int32) (k : Nat) (f t kd ar : Int32) (hk : k < 200) : Met l yX1_isAsked wsX1_isAsked ({ frames := 1, cells := 0, slots := 0, locals := 23 }) (va_Pc [.ref (a 5), .int (nI k), .int f, .int t, .int kd, .int ar] (fun U => va_P (dC, dI) clA (wA cI cZ a v g) U.heap ∧ va_K (dC, dI) clA (tyA cI cZ cJ) U)) (vp_Si (fun r => r = bI (askB g k f t kd ar))) 0 0 (fun _ => False) := by
  refine Met.ofW (cc := cX1_isAsked) (maxL := 6) (ret := (some .boolean)) (by decide) rfl ?_
  intro p e s m args below meth c s₁ B hml hv
  obtain ⟨rfl, hP, hK⟩ := hv
  have hx := B.exec
  have hb := B.bytes
  have hr := B.returns
  have hts := atoms_spec (ws := wsX1_isAsked) B.pre
  have hown : s.vm.findClass RX1 = some m.cls := findClass_of_methodNamed B.named
  have hlocks := B.notSynchronized
  have hl := lv_entry ([.ref (a 5), .int (nI k), .int f, .int t, .int kd, .int ar]) (n := 6) (Nat.le_of_ble_eq_true rfl)
  rw [lg_entry_eq]
  generalize (lg_sl ([.ref (a 5), .int (nI k), .int f, .int t, .int kd, .int ar]) ++ List.replicate (6 - (lg_sl ([.ref (a 5), .int (nI k), .int f, .int t, .int kd, .int ar])).length) Slot.unset).toArray = ls at hl ⊢
  have hl : lv_has ls 6 [(0, .ref (a 5)), (1, .int (nI k)), (2, .int f), (3, .int t), (4, .int kd), (5, .int ar)] := hl
  refine lv_aload_n hx hb dX1_isAsked_0 rfl (lv_at hl 0 rfl) ?_
  refine lv_iload_n hx hb dX1_isAsked_1 rfl (lv_at hl 1 rfl) ?_
  refine vp_callSi (W.runV (As := [.int (nI k)]) (rest := []) ⟨hx, hb, hml, hown, hts⟩ (c_isHidden l dC dI cI cZ cJ a v g k (by omega)) (cwV 1 hts (gd_V ml_X1_X1_isHidden im_X1_isHidden se_X1_isHidden in_X1 kX1_isHidden) rfl rfl rfl (by decide +kernel) ⟨Nat.le_of_ble_eq_true rfl, Nat.le_of_ble_eq_true rfl⟩) ⟨fun _ U g mk q => by obtain ⟨q0, qP, qK⟩ := q; exact ⟨q0, qP, va_K.moved (u := U) (U := U.calling g mk _) (Vm.Alike.refl U.vm) qK⟩, va_recv hK hP (ci := 1) (q0 := 5) rfl rfl, fun U hU hW => ⟨rfl, by rw [hU]; exact hP, va_K.moved hW.alike hK⟩⟩ rfl rfl hl.1 rfl (lv_room (Nat.le_of_ble_eq_true rfl)) dX1_isAsked_2 ⟨Nat.zero_le _, Nat.zero_le _⟩) (fun r2 hr2 => ?_)
  subst hr2
  refine lv_if_ne (tgt := 56) hx hb dX1_isAsked_5 (by decide) (fun c5 => ?_) (fun c5 => ?_)
  · have c5 := bI_n0.mp c5
    refine lv_iconst (v := 0) hx hb dX1_isAsked_56 (by decide) ?_
    exact W.zret (v := 0) hx hb hr rfl (fun t ht hW => ⟨_, rfl, (by simp [askB, bI, c5]), ht⟩) (fun _ h => absurd h List.not_mem_nil) dX1_isAsked_57
  · have c5 := bI_0.mp c5
    refine lv_aload_n hx hb dX1_isAsked_8 rfl (lv_at hl 0 rfl) ?_
    refine lv_iload_n hx hb dX1_isAsked_9 rfl (lv_at hl 1 rfl) ?_
    refine lv_iload_n hx hb dX1_isAsked_10 rfl (lv_at hl 2 rfl) ?_
    refine lv_iload_n hx hb dX1_isAsked_11 rfl (lv_at hl 3 rfl) ?_
    refine vp_callSi (W.runV (As := [.int (nI k), .int f, .int t]) (rest := []) ⟨hx, hb, hml, hown, hts⟩ (c_isInSpan l dC dI cI cZ cJ a v g k f t (by omega)) (cwV 3 hts (gd_V ml_X1_X1_isInSpan im_X1_isInSpan se_X1_isInSpan in_X1 kX1_isInSpan) rfl rfl rfl (by decide +kernel) ⟨Nat.le_of_ble_eq_true rfl, Nat.le_of_ble_eq_true rfl⟩) ⟨fun _ U g mk q => by obtain ⟨q0, qP, qK⟩ := q; exact ⟨q0, qP, va_K.moved (u := U) (U := U.calling g mk _) (Vm.Alike.refl U.vm) qK⟩, va_recv hK hP (ci := 1) (q0 := 5) rfl rfl, fun U hU hW => ⟨rfl, by rw [hU]; exact hP, va_K.moved hW.alike hK⟩⟩ rfl rfl hl.1 rfl (lv_room (Nat.le_of_ble_eq_true rfl)) dX1_isAsked_12 ⟨Nat.zero_le _, Nat.zero_le _⟩) (fun r12 hr12 => ?_)
    subst hr12
    refine lv_if_eq (tgt := 56) hx hb dX1_isAsked_15 (by decide) (fun c15 => ?_) (fun c15 => ?_)
    · have c15 := bI_0.mp c15
      refine lv_iconst (v := 0) hx hb dX1_isAsked_56 (by decide) ?_
      exact W.zret (v := 0) hx hb hr rfl (fun t ht hW => ⟨_, rfl, (by simp [askB, bI, c5, c15]), ht⟩) (fun _ h => absurd h List.not_mem_nil) dX1_isAsked_57
    · have c15 := bI_n0.mp c15
      refine lv_iload hx hb dX1_isAsked_18 (lv_at hl 4 rfl) ?_
      refine lv_iconst (v := (-1)) hx hb dX1_isAsked_20 (by decide) ?_
      refine lv_icmp_eq (tgt := 35) hx hb dX1_isAsked_21 (by decide) (fun c21 => ?_) (fun c21 => ?_)
      · refine lv_iload hx hb dX1_isAsked_35 (lv_at hl 5 rfl) ?_
        refine lv_iconst (v := (-1)) hx hb dX1_isAsked_37 (by decide) ?_
        refine lv_icmp_eq (tgt := 52) hx hb dX1_isAsked_38 (by decide) (fun c38 => ?_) (fun c38 => ?_)
        · refine lv_iconst (v := 1) hx hb dX1_isAsked_52 (by decide) ?_
          refine lv_goto (tgt := 57) hx hb dX1_isAsked_53 (by decide) ?_
          exact W.zret (v := 1) hx hb hr rfl (fun t ht hW => ⟨_, rfl, (by simp [askB, bI, c5, c15, c21, c38]), ht⟩) (fun _ h => absurd h List.not_mem_nil) dX1_isAsked_57
        · refine lv_aload_n hx hb dX1_isAsked_41 rfl (lv_at hl 0 rfl) ?_
          refine va_get (D := (dC, dI)) (ci := 1) (v := .ref (a 9)) (C := RX1) (T := TX1) (N := 10) hx hb hts (fun w h => List.mem_cons_of_mem _ (iw_X1 w h)) hown hK hP 5 rfl rfl 3 (by decide) (hts _ (List.mem_cons_of_mem _ fl_X1_areas)) (fun _ h9 => h9) rfl dX1_isAsked_42 ?_
          refine lv_iload_n hx hb dX1_isAsked_45 rfl (lv_at hl 1 rfl) ?_
          refine wi_ald hx hb hK hP 9 0 rfl rfl (k := k) (by omega) (by decide) dX1_isAsked_46 ?_
          refine lv_iload hx hb dX1_isAsked_47 (lv_at hl 5 rfl) ?_
          refine lv_icmp_ne (tgt := 56) hx hb dX1_isAsked_49 (by decide) (fun c49 => ?_) (fun c49 => ?_)
          · refine lv_iconst (v := 0) hx hb dX1_isAsked_56 (by decide) ?_
            exact W.zret (v := 0) hx hb hr rfl (fun t ht hW => ⟨_, rfl, (by simp [askB, bI, c5, c15, c21, c38, c49]), ht⟩) (fun _ h => absurd h List.not_mem_nil) dX1_isAsked_57
          · refine lv_iconst (v := 1) hx hb dX1_isAsked_52 (by decide) ?_
            refine lv_goto (tgt := 57) hx hb dX1_isAsked_53 (by decide) ?_
            exact W.zret (v := 1) hx hb hr rfl (fun t ht hW => ⟨_, rfl, (by simp [askB, bI, c5, c15, c21, c38, c49]), ht⟩) (fun _ h => absurd h List.not_mem_nil) dX1_isAsked_57
      · refine lv_aload_n hx hb dX1_isAsked_24 rfl (lv_at hl 0 rfl) ?_
        refine va_get (D := (dC, dI)) (ci := 1) (v := .ref (a 8)) (C := RX1) (T := TX1) (N := 10) hx hb hts (fun w h => List.mem_cons_of_mem _ (iw_X1 w h)) hown hK hP 5 rfl rfl 2 (by decide) (hts _ (List.mem_cons_of_mem _ fl_X1_kinds)) (fun _ h9 => h9) rfl dX1_isAsked_25 ?_
        refine lv_iload_n hx hb dX1_isAsked_28 rfl (lv_at hl 1 rfl) ?_
        refine wi_ald hx hb hK hP 8 0 rfl rfl (k := k) (by omega) (by decide) dX1_isAsked_29 ?_
        refine lv_iload hx hb dX1_isAsked_30 (lv_at hl 4 rfl) ?_
        refine lv_icmp_ne (tgt := 56) hx hb dX1_isAsked_32 (by decide) (fun c32 => ?_) (fun c32 => ?_)
        · refine lv_iconst (v := 0) hx hb dX1_isAsked_56 (by decide) ?_
          exact W.zret (v := 0) hx hb hr rfl (fun t ht hW => ⟨_, rfl, (by simp [askB, bI, c5, c15, c21, c32]), ht⟩) (fun _ h => absurd h List.not_mem_nil) dX1_isAsked_57
        · refine lv_iload hx hb dX1_isAsked_35 (lv_at hl 5 rfl) ?_
          refine lv_iconst (v := (-1)) hx hb dX1_isAsked_37 (by decide) ?_
          refine lv_icmp_eq (tgt := 52) hx hb dX1_isAsked_38 (by decide) (fun c38 => ?_) (fun c38 => ?_)
          · refine lv_iconst (v := 1) hx hb dX1_isAsked_52 (by decide) ?_
            refine lv_goto (tgt := 57) hx hb dX1_isAsked_53 (by decide) ?_
            exact W.zret (v := 1) hx hb hr rfl (fun t ht hW => ⟨_, rfl, (by simp [askB, bI, c5, c15, c21, c32, c38]), ht⟩) (fun _ h => absurd h List.not_mem_nil) dX1_isAsked_57
          · refine lv_aload_n hx hb dX1_isAsked_41 rfl (lv_at hl 0 rfl) ?_
            refine va_get (D := (dC, dI)) (ci := 1) (v := .ref (a 9)) (C := RX1) (T := TX1) (N := 10) hx hb hts (fun w h => List.mem_cons_of_mem _ (iw_X1 w h)) hown hK hP 5 rfl rfl 3 (by decide) (hts _ (List.mem_cons_of_mem _ fl_X1_areas)) (fun _ h9 => h9) rfl dX1_isAsked_42 ?_
            refine lv_iload_n hx hb dX1_isAsked_45 rfl (lv_at hl 1 rfl) ?_
            refine wi_ald hx hb hK hP 9 0 rfl rfl (k := k) (by omega) (by decide) dX1_isAsked_46 ?_
            refine lv_iload hx hb dX1_isAsked_47 (lv_at hl 5 rfl) ?_
            refine lv_icmp_ne (tgt := 56) hx hb dX1_isAsked_49 (by decide) (fun c49 => ?_) (fun c49 => ?_)
            · refine lv_iconst (v := 0) hx hb dX1_isAsked_56 (by decide) ?_
              exact W.zret (v := 0) hx hb hr rfl (fun t ht hW => ⟨_, rfl, (by simp [askB, bI, c5, c15, c21, c32, c38, c49]), ht⟩) (fun _ h => absurd h List.not_mem_nil) dX1_isAsked_57
            · refine lv_iconst (v := 1) hx hb dX1_isAsked_52 (by decide) ?_
              refine lv_goto (tgt := 57) hx hb dX1_isAsked_53 (by decide) ?_
              exact W.zret (v := 1) hx hb hr rfl (fun t ht hW => ⟨_, rfl, (by simp [askB, bI, c5, c15, c21, c32, c38, c49]), ht⟩) (fun _ h => absurd h List.not_mem_nil) dX1_isAsked_57
set_option maxHeartbeats 4000000 in
set_option maxRecDepth 100000 in
theorem c_isWork (l : Launch) (dC : Nat → ClassId) (dI : Nat → Nat → Nat) (cI cZ cJ : ClassId) (a : Nat → Nat) (v : Nat → Int32) (g : Nat → Nat → Int32) (k : Nat) (st f t : Int32) (hk : k < 200) : Met l yX1_isWork wsX1_isWork ({ frames := 2, cells := 0, slots := 0, locals := 48 }) (va_Pc [.ref (a 5), .int (nI k), .int st, .int f, .int t] (fun U => va_P (dC, dI) clA (wA cI cZ a v g) U.heap ∧ va_K (dC, dI) clA (tyA cI cZ cJ) U)) (vp_Si (fun r => r = bI (workB g k st f t))) 0 0 (fun _ => False) := by
  refine Met.ofW (cc := cX1_isWork) (maxL := 5) (ret := (some .boolean)) (by decide) rfl ?_
  intro p e s m args below meth c s₁ B hml hv
  obtain ⟨rfl, hP, hK⟩ := hv
  have hx := B.exec
  have hb := B.bytes
  have hr := B.returns
  have hts := atoms_spec (ws := wsX1_isWork) B.pre
  have hown : s.vm.findClass RX1 = some m.cls := findClass_of_methodNamed B.named
  have hlocks := B.notSynchronized
  have hl := lv_entry ([.ref (a 5), .int (nI k), .int st, .int f, .int t]) (n := 5) (Nat.le_of_ble_eq_true rfl)
  rw [lg_entry_eq]
  generalize (lg_sl ([.ref (a 5), .int (nI k), .int st, .int f, .int t]) ++ List.replicate (5 - (lg_sl ([.ref (a 5), .int (nI k), .int st, .int f, .int t])).length) Slot.unset).toArray = ls at hl ⊢
  have hl : lv_has ls 5 [(0, .ref (a 5)), (1, .int (nI k)), (2, .int st), (3, .int f), (4, .int t)] := hl
  refine lv_aload_n hx hb dX1_isWork_0 rfl (lv_at hl 0 rfl) ?_
  refine va_get (D := (dC, dI)) (ci := 1) (v := .ref (a 10)) (C := RX1) (T := TX1) (N := 10) hx hb hts (fun w h => List.mem_cons_of_mem _ (iw_X1 w h)) hown hK hP 5 rfl rfl 4 (by decide) (hts _ (List.mem_cons_of_mem _ fl_X1_stations)) (fun _ h9 => h9) rfl dX1_isWork_1 ?_
  refine lv_iload_n hx hb dX1_isWork_4 rfl (lv_at hl 1 rfl) ?_
  refine wi_ald hx hb hK hP 10 0 rfl rfl (k := k) (by omega) (by decide) dX1_isWork_5 ?_
  refine lv_iload_n hx hb dX1_isWork_6 rfl (lv_at hl 2 rfl) ?_
  refine lv_icmp_ne (tgt := 27) hx hb dX1_isWork_7 (by decide) (fun c7 => ?_) (fun c7 => ?_)
  · refine lv_iconst (v := 0) hx hb dX1_isWork_27 (by decide) ?_
    exact W.zret (v := 0) hx hb hr rfl (fun t ht hW => ⟨_, rfl, (by simp [workB, bI, c7]), ht⟩) (fun _ h => absurd h List.not_mem_nil) dX1_isWork_28
  · refine lv_aload_n hx hb dX1_isWork_10 rfl (lv_at hl 0 rfl) ?_
    refine lv_iload_n hx hb dX1_isWork_11 rfl (lv_at hl 1 rfl) ?_
    refine lv_iload_n hx hb dX1_isWork_12 rfl (lv_at hl 3 rfl) ?_
    refine lv_iload hx hb dX1_isWork_13 (lv_at hl 4 rfl) ?_
    refine lv_iconst (v := (-1)) hx hb dX1_isWork_15 (by decide) ?_
    refine lv_iconst (v := (-1)) hx hb dX1_isWork_16 (by decide) ?_
    refine vp_callSi (W.runV (As := [.int (nI k), .int f, .int t, .int (-1), .int (-1)]) (rest := []) ⟨hx, hb, hml, hown, hts⟩ (c_isAsked l dC dI cI cZ cJ a v g k f t (-1) (-1) (by omega)) (cwV 5 hts (gd_V ml_X1_X1_isAsked im_X1_isAsked se_X1_isAsked in_X1 kX1_isAsked) rfl rfl rfl (by decide +kernel) ⟨Nat.le_of_ble_eq_true rfl, Nat.le_of_ble_eq_true rfl⟩) ⟨fun _ U g mk q => by obtain ⟨q0, qP, qK⟩ := q; exact ⟨q0, qP, va_K.moved (u := U) (U := U.calling g mk _) (Vm.Alike.refl U.vm) qK⟩, va_recv hK hP (ci := 1) (q0 := 5) rfl rfl, fun U hU hW => ⟨rfl, by rw [hU]; exact hP, va_K.moved hW.alike hK⟩⟩ rfl rfl hl.1 rfl (lv_room (Nat.le_of_ble_eq_true rfl)) dX1_isWork_17 ⟨Nat.zero_le _, Nat.zero_le _⟩) (fun r17 hr17 => ?_)
    subst hr17
    refine lv_if_eq (tgt := 27) hx hb dX1_isWork_20 (by decide) (fun c20 => ?_) (fun c20 => ?_)
    · have c20 := bI_0.mp c20
      refine lv_iconst (v := 0) hx hb dX1_isWork_27 (by decide) ?_
      exact W.zret (v := 0) hx hb hr rfl (fun t ht hW => ⟨_, rfl, (by simp [workB, bI, c7, c20]), ht⟩) (fun _ h => absurd h List.not_mem_nil) dX1_isWork_28
    · have c20 := bI_n0.mp c20
      refine lv_iconst (v := 1) hx hb dX1_isWork_23 (by decide) ?_
      refine lv_goto (tgt := 28) hx hb dX1_isWork_24 (by decide) ?_
      exact W.zret (v := 1) hx hb hr rfl (fun t ht hW => ⟨_, rfl, (by simp [workB, bI, c7, c20]), ht⟩) (fun _ h => absurd h List.not_mem_nil) dX1_isWork_28
set_option maxHeartbeats 4000000 in
set_option maxRecDepth 100000 in
theorem c_number (l : Launch) (dC : Nat → ClassId) (dI : Nat → Nat → Nat) (cI cZ cJ : ClassId) (a : Nat → Nat) (v : Nat → Int32) (g : Nat → Nat → Int32)  (n : Nat) (hn : v 5 = nI n) (hn2 : n ≤ 200) (f t kd ar : Int32) : Met l yX1_number wsX1_number ({ frames := 2, cells := 0, slots := 0, locals := 48 }) (va_Pc [.ref (a 5), .int f, .int t, .int kd, .int ar] (fun U => va_P (dC, dI) clA (wA cI cZ a v g) U.heap ∧ va_K (dC, dI) clA (tyA cI cZ cJ) U)) (vp_Si (fun r => r = cnt (fun i => askB g i f t kd ar) n)) 0 0 (fun _ => False) := by
  refine Met.ofW (cc := cX1_number) (maxL := 7) (ret := (some .int)) (by decide) rfl ?_
  intro p e s m args below meth c s₁ B hml hv
  obtain ⟨rfl, hP, hK⟩ := hv
  have hx := B.exec
  have hb := B.bytes
  have hr := B.returns
  have hts := atoms_spec (ws := wsX1_number) B.pre
  have hown : s.vm.findClass RX1 = some m.cls := findClass_of_methodNamed B.named
  have hlocks := B.notSynchronized
  have hl := lv_entry ([.ref (a 5), .int f, .int t, .int kd, .int ar]) (n := 7) (Nat.le_of_ble_eq_true rfl)
  rw [lg_entry_eq]
  generalize (lg_sl ([.ref (a 5), .int f, .int t, .int kd, .int ar]) ++ List.replicate (7 - (lg_sl ([.ref (a 5), .int f, .int t, .int kd, .int ar])).length) Slot.unset).toArray = ls at hl ⊢
  have hl : lv_has ls 7 [(0, .ref (a 5)), (1, .int f), (2, .int t), (3, .int kd), (4, .int ar)] := hl
  refine lv_iconst (v := 0) hx hb dX1_number_0 (by decide) ?_
  refine lv_istore (lv' := [(5, .int 0), (0, .ref (a 5)), (1, .int f), (2, .int t), (3, .int kd), (4, .int ar)]) hx hb dX1_number_1 hl (by decide) rfl (fun ls hl => ?_)
  refine lv_iconst (v := 0) hx hb dX1_number_3 (by decide) ?_
  refine lv_istore (lv' := [(6, .int 0), (5, .int 0), (0, .ref (a 5)), (1, .int f), (2, .int t), (3, .int kd), (4, .int ar)]) hx hb dX1_number_4 hl (by decide) rfl (fun ls hl => ?_)
  have lp : ∀ (d k : Nat), 0 ≤ k → k ≤ n → n + 1 ≤ k + d → ∀ (acc : Int32), acc = cnt (fun i => askB g i f t kd ar) k → ∀ (ls : Array Slot), lv_has ls 7 [(6, .int (nI k)), (5, .int acc), (0, .ref (a 5)), (1, .int f), (2, .int t), (3, .int kd), (4, .int ar)] → W p l e (headSpec wsX1_number ({ frames := 2, cells := 0, slots := 0, locals := 48 })).room s m ([.ref (a 5), .int f, .int t, .int kd, .int ar] : List Value).toArray below meth c s.heap [] 0 0 (MQ below (vp_Si (fun r => r = cnt (fun i => askB g i f t kd ar) n)) ([.ref (a 5), .int f, .int t, .int kd, .int ar] : List Value).toArray s 0 0 (fun _ => False)) (F0 m 6 ls []) := by
    intro d
    induction d with
    | zero => intro k h0 h1 h2; exact absurd h2 (by omega)
    | succ d ih =>
      intro k hk0 hkn hkd acc ea_acc ls hl
      subst ea_acc
      refine lv_iload hx hb dX1_number_6 (lv_at hl 0 rfl) ?_
      refine lv_aload_n hx hb dX1_number_8 rfl (lv_at hl 2 rfl) ?_
      refine va_get (D := (dC, dI)) (ci := 1) (v := .int (v 5)) (C := RX1) (T := TX1) (N := 10) hx hb hts (fun w h => List.mem_cons_of_mem _ (iw_X1 w h)) hown hK hP 5 rfl rfl 9 (by decide) (hts _ (List.mem_cons_of_mem _ fl_X1_size)) (fun _ h9 => h9) rfl dX1_number_9 ?_
      refine lv_icmp_ge (tgt := 38) hx hb dX1_number_12 (by decide) (fun c12 => ?_) (fun c12 => ?_)
      · have n12 := Int32.not_lt.mpr c12
        rw [hn] at c12
        have hkn2 : k = n := Nat.le_antisymm hkn ((nI_leI (by omega) (by omega)).mp c12)
        refine lv_iload hx hb dX1_number_38 (lv_at hl 1 rfl) ?_
        exact W.iret (v := cnt (fun i => askB g i f t kd ar) k) hx hb hr (fun t ht hW => ⟨_, rfl, (by subst hkn2; rfl), ht⟩) (fun _ h => absurd h List.not_mem_nil) dX1_number_40
      · have n12 := Int32.not_le.mp c12
        rw [hn] at c12
        have hk : k < n := Nat.lt_of_not_le (fun h => c12 (nI_le h (by omega)))
        refine lv_aload_n hx hb dX1_number_15 rfl (lv_at hl 2 rfl) ?_
        refine lv_iload hx hb dX1_number_16 (lv_at hl 0 rfl) ?_
        refine lv_iload_n hx hb dX1_number_18 rfl (lv_at hl 3 rfl) ?_
        refine lv_iload_n hx hb dX1_number_19 rfl (lv_at hl 4 rfl) ?_
        refine lv_iload_n hx hb dX1_number_20 rfl (lv_at hl 5 rfl) ?_
        refine lv_iload hx hb dX1_number_21 (lv_at hl 6 rfl) ?_
        refine vp_callSi (W.runV (As := [.int (nI k), .int f, .int t, .int kd, .int ar]) (rest := []) ⟨hx, hb, hml, hown, hts⟩ (c_isAsked l dC dI cI cZ cJ a v g k f t kd ar (by omega)) (cwV 5 hts (gd_V ml_X1_X1_isAsked im_X1_isAsked se_X1_isAsked in_X1 kX1_isAsked) rfl rfl rfl (by decide +kernel) ⟨Nat.le_of_ble_eq_true rfl, Nat.le_of_ble_eq_true rfl⟩) ⟨fun _ U g mk q => by obtain ⟨q0, qP, qK⟩ := q; exact ⟨q0, qP, va_K.moved (u := U) (U := U.calling g mk _) (Vm.Alike.refl U.vm) qK⟩, va_recv hK hP (ci := 1) (q0 := 5) rfl rfl, fun U hU hW => ⟨rfl, by rw [hU]; exact hP, va_K.moved hW.alike hK⟩⟩ rfl rfl hl.1 rfl (lv_room (Nat.le_of_ble_eq_true rfl)) dX1_number_23 ⟨Nat.zero_le _, Nat.zero_le _⟩) (fun r23 hr23 => ?_)
        subst hr23
        refine lv_if_eq (tgt := 32) hx hb dX1_number_26 (by decide) (fun c26 => ?_) (fun c26 => ?_)
        · have c26 := bI_0.mp c26
          refine lv_iinc (v := nI (k + 1)) (lv' := [(6, .int (nI (k + 1))), (5, .int (cnt (fun i => askB g i f t kd ar) k)), (0, .ref (a 5)), (1, .int f), (2, .int t), (3, .int kd), (4, .int ar)]) hx hb dX1_number_32 hl (k := 0) rfl (nI_1 k) (by decide) rfl (fun ls hl => ?_)
          refine lv_goto (tgt := 6) hx hb dX1_number_35 (by decide) ?_
          exact ih (k + 1) (by omega) (by omega) (by omega) _ (by simp [cnt_s, bI, c12, n12, c26]) ls (lv_sub hl [0, 1, 2, 3, 4, 5, 6] rfl)
        · have c26 := bI_n0.mp c26
          refine lv_iinc (v := (cnt (fun i => askB g i f t kd ar) k) + 1) (lv' := [(5, .int ((cnt (fun i => askB g i f t kd ar) k) + 1)), (6, .int (nI k)), (0, .ref (a 5)), (1, .int f), (2, .int t), (3, .int kd), (4, .int ar)]) hx hb dX1_number_29 hl (k := 1) rfl rfl (by decide) rfl (fun ls hl => ?_)
          refine lv_iinc (v := nI (k + 1)) (lv' := [(6, .int (nI (k + 1))), (5, .int ((cnt (fun i => askB g i f t kd ar) k) + 1)), (0, .ref (a 5)), (1, .int f), (2, .int t), (3, .int kd), (4, .int ar)]) hx hb dX1_number_32 hl (k := 1) rfl (nI_1 k) (by decide) rfl (fun ls hl => ?_)
          refine lv_goto (tgt := 6) hx hb dX1_number_35 (by decide) ?_
          exact ih (k + 1) (by omega) (by omega) (by omega) _ (by simp [cnt_s, bI, c12, n12, c26]) ls (lv_sub hl [0, 1, 2, 3, 4, 5, 6] rfl)
  exact lp (n + 1) 0 (by omega) (by omega) (by omega) _ (rfl) ls (lv_sub hl [0, 1, 2, 3, 4, 5, 6] rfl)
set_option maxHeartbeats 4000000 in
set_option maxRecDepth 100000 in
theorem c_inHour (l : Launch) (dC : Nat → ClassId) (dI : Nat → Nat → Nat) (cI cZ cJ : ClassId) (a : Nat → Nat) (v : Nat → Int32) (g : Nat → Nat → Int32)  (n : Nat) (hn : v 5 = nI n) (hn2 : n ≤ 200) (ho f t kd ar : Int32) : Met l yX1_inHour wsX1_inHour ({ frames := 2, cells := 0, slots := 0, locals := 48 }) (va_Pc [.ref (a 5), .int ho, .int f, .int t, .int kd, .int ar] (fun U => va_P (dC, dI) clA (wA cI cZ a v g) U.heap ∧ va_K (dC, dI) clA (tyA cI cZ cJ) U)) (vp_Si (fun r => r = cnt (fun i => askB g i f t kd ar && decide (g 4 i = ho)) n)) 0 0 (fun _ => False) := by
  refine Met.ofW (cc := cX1_inHour) (maxL := 8) (ret := (some .int)) (by decide) rfl ?_
  intro p e s m args below meth c s₁ B hml hv
  obtain ⟨rfl, hP, hK⟩ := hv
  have hx := B.exec
  have hb := B.bytes
  have hr := B.returns
  have hts := atoms_spec (ws := wsX1_inHour) B.pre
  have hown : s.vm.findClass RX1 = some m.cls := findClass_of_methodNamed B.named
  have hlocks := B.notSynchronized
  have hl := lv_entry ([.ref (a 5), .int ho, .int f, .int t, .int kd, .int ar]) (n := 8) (Nat.le_of_ble_eq_true rfl)
  rw [lg_entry_eq]
  generalize (lg_sl ([.ref (a 5), .int ho, .int f, .int t, .int kd, .int ar]) ++ List.replicate (8 - (lg_sl ([.ref (a 5), .int ho, .int f, .int t, .int kd, .int ar])).length) Slot.unset).toArray = ls at hl ⊢
  have hl : lv_has ls 8 [(0, .ref (a 5)), (1, .int ho), (2, .int f), (3, .int t), (4, .int kd), (5, .int ar)] := hl
  refine lv_iconst (v := 0) hx hb dX1_inHour_0 (by decide) ?_
  refine lv_istore (lv' := [(6, .int 0), (0, .ref (a 5)), (1, .int ho), (2, .int f), (3, .int t), (4, .int kd), (5, .int ar)]) hx hb dX1_inHour_1 hl (by decide) rfl (fun ls hl => ?_)
  refine lv_iconst (v := 0) hx hb dX1_inHour_3 (by decide) ?_
  refine lv_istore (lv' := [(7, .int 0), (6, .int 0), (0, .ref (a 5)), (1, .int ho), (2, .int f), (3, .int t), (4, .int kd), (5, .int ar)]) hx hb dX1_inHour_4 hl (by decide) rfl (fun ls hl => ?_)
  have lp : ∀ (d k : Nat), 0 ≤ k → k ≤ n → n + 1 ≤ k + d → ∀ (acc : Int32), acc = cnt (fun i => askB g i f t kd ar && decide (g 4 i = ho)) k → ∀ (ls : Array Slot), lv_has ls 8 [(7, .int (nI k)), (6, .int acc), (0, .ref (a 5)), (1, .int ho), (2, .int f), (3, .int t), (4, .int kd), (5, .int ar)] → W p l e (headSpec wsX1_inHour ({ frames := 2, cells := 0, slots := 0, locals := 48 })).room s m ([.ref (a 5), .int ho, .int f, .int t, .int kd, .int ar] : List Value).toArray below meth c s.heap [] 0 0 (MQ below (vp_Si (fun r => r = cnt (fun i => askB g i f t kd ar && decide (g 4 i = ho)) n)) ([.ref (a 5), .int ho, .int f, .int t, .int kd, .int ar] : List Value).toArray s 0 0 (fun _ => False)) (F0 m 6 ls []) := by
    intro d
    induction d with
    | zero => intro k h0 h1 h2; exact absurd h2 (by omega)
    | succ d ih =>
      intro k hk0 hkn hkd acc ea_acc ls hl
      subst ea_acc
      refine lv_iload hx hb dX1_inHour_6 (lv_at hl 0 rfl) ?_
      refine lv_aload_n hx hb dX1_inHour_8 rfl (lv_at hl 2 rfl) ?_
      refine va_get (D := (dC, dI)) (ci := 1) (v := .int (v 5)) (C := RX1) (T := TX1) (N := 10) hx hb hts (fun w h => List.mem_cons_of_mem _ (iw_X1 w h)) hown hK hP 5 rfl rfl 9 (by decide) (hts _ (List.mem_cons_of_mem _ fl_X1_size)) (fun _ h9 => h9) rfl dX1_inHour_9 ?_
      refine lv_icmp_ge (tgt := 50) hx hb dX1_inHour_12 (by decide) (fun c12 => ?_) (fun c12 => ?_)
      · have n12 := Int32.not_lt.mpr c12
        rw [hn] at c12
        have hkn2 : k = n := Nat.le_antisymm hkn ((nI_leI (by omega) (by omega)).mp c12)
        refine lv_iload hx hb dX1_inHour_50 (lv_at hl 1 rfl) ?_
        exact W.iret (v := cnt (fun i => askB g i f t kd ar && decide (g 4 i = ho)) k) hx hb hr (fun t ht hW => ⟨_, rfl, (by subst hkn2; rfl), ht⟩) (fun _ h => absurd h List.not_mem_nil) dX1_inHour_52
      · have n12 := Int32.not_le.mp c12
        rw [hn] at c12
        have hk : k < n := Nat.lt_of_not_le (fun h => c12 (nI_le h (by omega)))
        refine lv_aload_n hx hb dX1_inHour_15 rfl (lv_at hl 2 rfl) ?_
        refine lv_iload hx hb dX1_inHour_16 (lv_at hl 0 rfl) ?_
        refine lv_iload_n hx hb dX1_inHour_18 rfl (lv_at hl 4 rfl) ?_
        refine lv_iload_n hx hb dX1_inHour_19 rfl (lv_at hl 5 rfl) ?_
        refine lv_iload hx hb dX1_inHour_20 (lv_at hl 6 rfl) ?_
        refine lv_iload hx hb dX1_inHour_22 (lv_at hl 7 rfl) ?_
        refine vp_callSi (W.runV (As := [.int (nI k), .int f, .int t, .int kd, .int ar]) (rest := []) ⟨hx, hb, hml, hown, hts⟩ (c_isAsked l dC dI cI cZ cJ a v g k f t kd ar (by omega)) (cwV 5 hts (gd_V ml_X1_X1_isAsked im_X1_isAsked se_X1_isAsked in_X1 kX1_isAsked) rfl rfl rfl (by decide +kernel) ⟨Nat.le_of_ble_eq_true rfl, Nat.le_of_ble_eq_true rfl⟩) ⟨fun _ U g mk q => by obtain ⟨q0, qP, qK⟩ := q; exact ⟨q0, qP, va_K.moved (u := U) (U := U.calling g mk _) (Vm.Alike.refl U.vm) qK⟩, va_recv hK hP (ci := 1) (q0 := 5) rfl rfl, fun U hU hW => ⟨rfl, by rw [hU]; exact hP, va_K.moved hW.alike hK⟩⟩ rfl rfl hl.1 rfl (lv_room (Nat.le_of_ble_eq_true rfl)) dX1_inHour_24 ⟨Nat.zero_le _, Nat.zero_le _⟩) (fun r24 hr24 => ?_)
        subst hr24
        refine lv_if_eq (tgt := 44) hx hb dX1_inHour_27 (by decide) (fun c27 => ?_) (fun c27 => ?_)
        · have c27 := bI_0.mp c27
          refine lv_iinc (v := nI (k + 1)) (lv' := [(7, .int (nI (k + 1))), (6, .int (cnt (fun i => askB g i f t kd ar && decide (g 4 i = ho)) k)), (0, .ref (a 5)), (1, .int ho), (2, .int f), (3, .int t), (4, .int kd), (5, .int ar)]) hx hb dX1_inHour_44 hl (k := 0) rfl (nI_1 k) (by decide) rfl (fun ls hl => ?_)
          refine lv_goto (tgt := 6) hx hb dX1_inHour_47 (by decide) ?_
          exact ih (k + 1) (by omega) (by omega) (by omega) _ (by simp [cnt_s, bI, c12, n12, c27]) ls (lv_sub hl [0, 1, 2, 3, 4, 5, 6, 7] rfl)
        · have c27 := bI_n0.mp c27
          refine lv_aload_n hx hb dX1_inHour_30 rfl (lv_at hl 2 rfl) ?_
          refine va_get (D := (dC, dI)) (ci := 1) (v := .ref (a 7)) (C := RX1) (T := TX1) (N := 10) hx hb hts (fun w h => List.mem_cons_of_mem _ (iw_X1 w h)) hown hK hP 5 rfl rfl 1 (by decide) (hts _ (List.mem_cons_of_mem _ fl_X1_hours)) (fun _ h9 => h9) rfl dX1_inHour_31 ?_
          refine lv_iload hx hb dX1_inHour_34 (lv_at hl 0 rfl) ?_
          refine wi_ald hx hb hK hP 7 0 rfl rfl (k := k) (by omega) (by decide) dX1_inHour_36 ?_
          refine lv_iload_n hx hb dX1_inHour_37 rfl (lv_at hl 3 rfl) ?_
          refine lv_icmp_ne (tgt := 44) hx hb dX1_inHour_38 (by decide) (fun c38 => ?_) (fun c38 => ?_)
          · refine lv_iinc (v := nI (k + 1)) (lv' := [(7, .int (nI (k + 1))), (6, .int (cnt (fun i => askB g i f t kd ar && decide (g 4 i = ho)) k)), (0, .ref (a 5)), (1, .int ho), (2, .int f), (3, .int t), (4, .int kd), (5, .int ar)]) hx hb dX1_inHour_44 hl (k := 0) rfl (nI_1 k) (by decide) rfl (fun ls hl => ?_)
            refine lv_goto (tgt := 6) hx hb dX1_inHour_47 (by decide) ?_
            exact ih (k + 1) (by omega) (by omega) (by omega) _ (by simp [cnt_s, bI, c12, n12, c27, c38]) ls (lv_sub hl [0, 1, 2, 3, 4, 5, 6, 7] rfl)
          · refine lv_iinc (v := (cnt (fun i => askB g i f t kd ar && decide (g 4 i = ho)) k) + 1) (lv' := [(6, .int ((cnt (fun i => askB g i f t kd ar && decide (g 4 i = ho)) k) + 1)), (7, .int (nI k)), (0, .ref (a 5)), (1, .int ho), (2, .int f), (3, .int t), (4, .int kd), (5, .int ar)]) hx hb dX1_inHour_41 hl (k := 1) rfl rfl (by decide) rfl (fun ls hl => ?_)
            refine lv_iinc (v := nI (k + 1)) (lv' := [(7, .int (nI (k + 1))), (6, .int ((cnt (fun i => askB g i f t kd ar && decide (g 4 i = ho)) k) + 1)), (0, .ref (a 5)), (1, .int ho), (2, .int f), (3, .int t), (4, .int kd), (5, .int ar)]) hx hb dX1_inHour_44 hl (k := 1) rfl (nI_1 k) (by decide) rfl (fun ls hl => ?_)
            refine lv_goto (tgt := 6) hx hb dX1_inHour_47 (by decide) ?_
            exact ih (k + 1) (by omega) (by omega) (by omega) _ (by simp [cnt_s, bI, c12, n12, c27, c38]) ls (lv_sub hl [0, 1, 2, 3, 4, 5, 6, 7] rfl)
  exact lp (n + 1) 0 (by omega) (by omega) (by omega) _ (rfl) ls (lv_sub hl [0, 1, 2, 3, 4, 5, 6, 7] rfl)
set_option maxHeartbeats 4000000 in
set_option maxRecDepth 100000 in
theorem c_hidden (l : Launch) (dC : Nat → ClassId) (dI : Nat → Nat → Nat) (cI cZ cJ : ClassId) (a : Nat → Nat) (v : Nat → Int32) (g : Nat → Nat → Int32)  (n : Nat) (hn : v 5 = nI n) (hn2 : n ≤ 200) (f t : Int32) : Met l yX1_hidden wsX1_hidden ({ frames := 1, cells := 0, slots := 0, locals := 23 }) (va_Pc [.ref (a 5), .int f, .int t] (fun U => va_P (dC, dI) clA (wA cI cZ a v g) U.heap ∧ va_K (dC, dI) clA (tyA cI cZ cJ) U)) (vp_Si (fun r => r = cnt (fun i => hidB g i && spanB g i f t) n)) 0 0 (fun _ => False) := by
  refine Met.ofW (cc := cX1_hidden) (maxL := 5) (ret := (some .int)) (by decide) rfl ?_
  intro p e s m args below meth c s₁ B hml hv
  obtain ⟨rfl, hP, hK⟩ := hv
  have hx := B.exec
  have hb := B.bytes
  have hr := B.returns
  have hts := atoms_spec (ws := wsX1_hidden) B.pre
  have hown : s.vm.findClass RX1 = some m.cls := findClass_of_methodNamed B.named
  have hlocks := B.notSynchronized
  have hl := lv_entry ([.ref (a 5), .int f, .int t]) (n := 5) (Nat.le_of_ble_eq_true rfl)
  rw [lg_entry_eq]
  generalize (lg_sl ([.ref (a 5), .int f, .int t]) ++ List.replicate (5 - (lg_sl ([.ref (a 5), .int f, .int t])).length) Slot.unset).toArray = ls at hl ⊢
  have hl : lv_has ls 5 [(0, .ref (a 5)), (1, .int f), (2, .int t)] := hl
  refine lv_iconst (v := 0) hx hb dX1_hidden_0 (by decide) ?_
  refine lv_istore_n (lv' := [(3, .int 0), (0, .ref (a 5)), (1, .int f), (2, .int t)]) hx hb dX1_hidden_1 rfl hl (by decide) rfl (fun ls hl => ?_)
  refine lv_iconst (v := 0) hx hb dX1_hidden_2 (by decide) ?_
  refine lv_istore (lv' := [(4, .int 0), (3, .int 0), (0, .ref (a 5)), (1, .int f), (2, .int t)]) hx hb dX1_hidden_3 hl (by decide) rfl (fun ls hl => ?_)
  have lp : ∀ (d k : Nat), 0 ≤ k → k ≤ n → n + 1 ≤ k + d → ∀ (acc : Int32), acc = cnt (fun i => hidB g i && spanB g i f t) k → ∀ (ls : Array Slot), lv_has ls 5 [(4, .int (nI k)), (3, .int acc), (0, .ref (a 5)), (1, .int f), (2, .int t)] → W p l e (headSpec wsX1_hidden ({ frames := 1, cells := 0, slots := 0, locals := 23 })).room s m ([.ref (a 5), .int f, .int t] : List Value).toArray below meth c s.heap [] 0 0 (MQ below (vp_Si (fun r => r = cnt (fun i => hidB g i && spanB g i f t) n)) ([.ref (a 5), .int f, .int t] : List Value).toArray s 0 0 (fun _ => False)) (F0 m 5 ls []) := by
    intro d
    induction d with
    | zero => intro k h0 h1 h2; exact absurd h2 (by omega)
    | succ d ih =>
      intro k hk0 hkn hkd acc ea_acc ls hl
      subst ea_acc
      refine lv_iload hx hb dX1_hidden_5 (lv_at hl 0 rfl) ?_
      refine lv_aload_n hx hb dX1_hidden_7 rfl (lv_at hl 2 rfl) ?_
      refine va_get (D := (dC, dI)) (ci := 1) (v := .int (v 5)) (C := RX1) (T := TX1) (N := 10) hx hb hts (fun w h => List.mem_cons_of_mem _ (iw_X1 w h)) hown hK hP 5 rfl rfl 9 (by decide) (hts _ (List.mem_cons_of_mem _ fl_X1_size)) (fun _ h9 => h9) rfl dX1_hidden_8 ?_
      refine lv_icmp_ge (tgt := 43) hx hb dX1_hidden_11 (by decide) (fun c11 => ?_) (fun c11 => ?_)
      · have n11 := Int32.not_lt.mpr c11
        rw [hn] at c11
        have hkn2 : k = n := Nat.le_antisymm hkn ((nI_leI (by omega) (by omega)).mp c11)
        refine lv_iload_n hx hb dX1_hidden_43 rfl (lv_at hl 1 rfl) ?_
        exact W.iret (v := cnt (fun i => hidB g i && spanB g i f t) k) hx hb hr (fun t ht hW => ⟨_, rfl, (by subst hkn2; rfl), ht⟩) (fun _ h => absurd h List.not_mem_nil) dX1_hidden_44
      · have n11 := Int32.not_le.mp c11
        rw [hn] at c11
        have hk : k < n := Nat.lt_of_not_le (fun h => c11 (nI_le h (by omega)))
        refine lv_aload_n hx hb dX1_hidden_14 rfl (lv_at hl 2 rfl) ?_
        refine lv_iload hx hb dX1_hidden_15 (lv_at hl 0 rfl) ?_
        refine vp_callSi (W.runV (As := [.int (nI k)]) (rest := []) ⟨hx, hb, hml, hown, hts⟩ (c_isHidden l dC dI cI cZ cJ a v g k (by omega)) (cwV 1 hts (gd_V ml_X1_X1_isHidden im_X1_isHidden se_X1_isHidden in_X1 kX1_isHidden) rfl rfl rfl (by decide +kernel) ⟨Nat.le_of_ble_eq_true rfl, Nat.le_of_ble_eq_true rfl⟩) ⟨fun _ U g mk q => by obtain ⟨q0, qP, qK⟩ := q; exact ⟨q0, qP, va_K.moved (u := U) (U := U.calling g mk _) (Vm.Alike.refl U.vm) qK⟩, va_recv hK hP (ci := 1) (q0 := 5) rfl rfl, fun U hU hW => ⟨rfl, by rw [hU]; exact hP, va_K.moved hW.alike hK⟩⟩ rfl rfl hl.1 rfl (lv_room (Nat.le_of_ble_eq_true rfl)) dX1_hidden_17 ⟨Nat.zero_le _, Nat.zero_le _⟩) (fun r17 hr17 => ?_)
        subst hr17
        refine lv_if_eq (tgt := 37) hx hb dX1_hidden_20 (by decide) (fun c20 => ?_) (fun c20 => ?_)
        · have c20 := bI_0.mp c20
          refine lv_iinc (v := nI (k + 1)) (lv' := [(4, .int (nI (k + 1))), (3, .int (cnt (fun i => hidB g i && spanB g i f t) k)), (0, .ref (a 5)), (1, .int f), (2, .int t)]) hx hb dX1_hidden_37 hl (k := 0) rfl (nI_1 k) (by decide) rfl (fun ls hl => ?_)
          refine lv_goto (tgt := 5) hx hb dX1_hidden_40 (by decide) ?_
          exact ih (k + 1) (by omega) (by omega) (by omega) _ (by simp [cnt_s, bI, c11, n11, c20]) ls (lv_sub hl [0, 1, 2, 3, 4] rfl)
        · have c20 := bI_n0.mp c20
          refine lv_aload_n hx hb dX1_hidden_23 rfl (lv_at hl 2 rfl) ?_
          refine lv_iload hx hb dX1_hidden_24 (lv_at hl 0 rfl) ?_
          refine lv_iload_n hx hb dX1_hidden_26 rfl (lv_at hl 3 rfl) ?_
          refine lv_iload_n hx hb dX1_hidden_27 rfl (lv_at hl 4 rfl) ?_
          refine vp_callSi (W.runV (As := [.int (nI k), .int f, .int t]) (rest := []) ⟨hx, hb, hml, hown, hts⟩ (c_isInSpan l dC dI cI cZ cJ a v g k f t (by omega)) (cwV 3 hts (gd_V ml_X1_X1_isInSpan im_X1_isInSpan se_X1_isInSpan in_X1 kX1_isInSpan) rfl rfl rfl (by decide +kernel) ⟨Nat.le_of_ble_eq_true rfl, Nat.le_of_ble_eq_true rfl⟩) ⟨fun _ U g mk q => by obtain ⟨q0, qP, qK⟩ := q; exact ⟨q0, qP, va_K.moved (u := U) (U := U.calling g mk _) (Vm.Alike.refl U.vm) qK⟩, va_recv hK hP (ci := 1) (q0 := 5) rfl rfl, fun U hU hW => ⟨rfl, by rw [hU]; exact hP, va_K.moved hW.alike hK⟩⟩ rfl rfl hl.1 rfl (lv_room (Nat.le_of_ble_eq_true rfl)) dX1_hidden_28 ⟨Nat.zero_le _, Nat.zero_le _⟩) (fun r28 hr28 => ?_)
          subst hr28
          refine lv_if_eq (tgt := 37) hx hb dX1_hidden_31 (by decide) (fun c31 => ?_) (fun c31 => ?_)
          · have c31 := bI_0.mp c31
            refine lv_iinc (v := nI (k + 1)) (lv' := [(4, .int (nI (k + 1))), (3, .int (cnt (fun i => hidB g i && spanB g i f t) k)), (0, .ref (a 5)), (1, .int f), (2, .int t)]) hx hb dX1_hidden_37 hl (k := 0) rfl (nI_1 k) (by decide) rfl (fun ls hl => ?_)
            refine lv_goto (tgt := 5) hx hb dX1_hidden_40 (by decide) ?_
            exact ih (k + 1) (by omega) (by omega) (by omega) _ (by simp [cnt_s, bI, c11, n11, c20, c31]) ls (lv_sub hl [0, 1, 2, 3, 4] rfl)
          · have c31 := bI_n0.mp c31
            refine lv_iinc (v := (cnt (fun i => hidB g i && spanB g i f t) k) + 1) (lv' := [(3, .int ((cnt (fun i => hidB g i && spanB g i f t) k) + 1)), (4, .int (nI k)), (0, .ref (a 5)), (1, .int f), (2, .int t)]) hx hb dX1_hidden_34 hl (k := 1) rfl rfl (by decide) rfl (fun ls hl => ?_)
            refine lv_iinc (v := nI (k + 1)) (lv' := [(4, .int (nI (k + 1))), (3, .int ((cnt (fun i => hidB g i && spanB g i f t) k) + 1)), (0, .ref (a 5)), (1, .int f), (2, .int t)]) hx hb dX1_hidden_37 hl (k := 1) rfl (nI_1 k) (by decide) rfl (fun ls hl => ?_)
            refine lv_goto (tgt := 5) hx hb dX1_hidden_40 (by decide) ?_
            exact ih (k + 1) (by omega) (by omega) (by omega) _ (by simp [cnt_s, bI, c11, n11, c20, c31]) ls (lv_sub hl [0, 1, 2, 3, 4] rfl)
  exact lp (n + 1) 0 (by omega) (by omega) (by omega) _ (rfl) ls (lv_sub hl [0, 1, 2, 3, 4] rfl)
set_option maxHeartbeats 4000000 in
set_option maxRecDepth 100000 in
theorem c_ofStation (l : Launch) (dC : Nat → ClassId) (dI : Nat → Nat → Nat) (cI cZ cJ : ClassId) (a : Nat → Nat) (v : Nat → Int32) (g : Nat → Nat → Int32)  (n : Nat) (hn : v 5 = nI n) (hn2 : n ≤ 200) (st f t : Int32) : Met l yX1_ofStation wsX1_ofStation ({ frames := 3, cells := 0, slots := 0, locals := 72 }) (va_Pc [.ref (a 5), .int st, .int f, .int t] (fun U => va_P (dC, dI) clA (wA cI cZ a v g) U.heap ∧ va_K (dC, dI) clA (tyA cI cZ cJ) U)) (vp_Si (fun r => r = cnt (fun i => workB g i st f t) n)) 0 0 (fun _ => False) := by
  refine Met.ofW (cc := cX1_ofStation) (maxL := 6) (ret := (some .int)) (by decide) rfl ?_
  intro p e s m args below meth c s₁ B hml hv
  obtain ⟨rfl, hP, hK⟩ := hv
  have hx := B.exec
  have hb := B.bytes
  have hr := B.returns
  have hts := atoms_spec (ws := wsX1_ofStation) B.pre
  have hown : s.vm.findClass RX1 = some m.cls := findClass_of_methodNamed B.named
  have hlocks := B.notSynchronized
  have hl := lv_entry ([.ref (a 5), .int st, .int f, .int t]) (n := 6) (Nat.le_of_ble_eq_true rfl)
  rw [lg_entry_eq]
  generalize (lg_sl ([.ref (a 5), .int st, .int f, .int t]) ++ List.replicate (6 - (lg_sl ([.ref (a 5), .int st, .int f, .int t])).length) Slot.unset).toArray = ls at hl ⊢
  have hl : lv_has ls 6 [(0, .ref (a 5)), (1, .int st), (2, .int f), (3, .int t)] := hl
  refine lv_iconst (v := 0) hx hb dX1_ofStation_0 (by decide) ?_
  refine lv_istore (lv' := [(4, .int 0), (0, .ref (a 5)), (1, .int st), (2, .int f), (3, .int t)]) hx hb dX1_ofStation_1 hl (by decide) rfl (fun ls hl => ?_)
  refine lv_iconst (v := 0) hx hb dX1_ofStation_3 (by decide) ?_
  refine lv_istore (lv' := [(5, .int 0), (4, .int 0), (0, .ref (a 5)), (1, .int st), (2, .int f), (3, .int t)]) hx hb dX1_ofStation_4 hl (by decide) rfl (fun ls hl => ?_)
  have lp : ∀ (d k : Nat), 0 ≤ k → k ≤ n → n + 1 ≤ k + d → ∀ (acc : Int32), acc = cnt (fun i => workB g i st f t) k → ∀ (ls : Array Slot), lv_has ls 6 [(5, .int (nI k)), (4, .int acc), (0, .ref (a 5)), (1, .int st), (2, .int f), (3, .int t)] → W p l e (headSpec wsX1_ofStation ({ frames := 3, cells := 0, slots := 0, locals := 72 })).room s m ([.ref (a 5), .int st, .int f, .int t] : List Value).toArray below meth c s.heap [] 0 0 (MQ below (vp_Si (fun r => r = cnt (fun i => workB g i st f t) n)) ([.ref (a 5), .int st, .int f, .int t] : List Value).toArray s 0 0 (fun _ => False)) (F0 m 6 ls []) := by
    intro d
    induction d with
    | zero => intro k h0 h1 h2; exact absurd h2 (by omega)
    | succ d ih =>
      intro k hk0 hkn hkd acc ea_acc ls hl
      subst ea_acc
      refine lv_iload hx hb dX1_ofStation_6 (lv_at hl 0 rfl) ?_
      refine lv_aload_n hx hb dX1_ofStation_8 rfl (lv_at hl 2 rfl) ?_
      refine va_get (D := (dC, dI)) (ci := 1) (v := .int (v 5)) (C := RX1) (T := TX1) (N := 10) hx hb hts (fun w h => List.mem_cons_of_mem _ (iw_X1 w h)) hown hK hP 5 rfl rfl 9 (by decide) (hts _ (List.mem_cons_of_mem _ fl_X1_size)) (fun _ h9 => h9) rfl dX1_ofStation_9 ?_
      refine lv_icmp_ge (tgt := 36) hx hb dX1_ofStation_12 (by decide) (fun c12 => ?_) (fun c12 => ?_)
      · have n12 := Int32.not_lt.mpr c12
        rw [hn] at c12
        have hkn2 : k = n := Nat.le_antisymm hkn ((nI_leI (by omega) (by omega)).mp c12)
        refine lv_iload hx hb dX1_ofStation_36 (lv_at hl 1 rfl) ?_
        exact W.iret (v := cnt (fun i => workB g i st f t) k) hx hb hr (fun t ht hW => ⟨_, rfl, (by subst hkn2; rfl), ht⟩) (fun _ h => absurd h List.not_mem_nil) dX1_ofStation_38
      · have n12 := Int32.not_le.mp c12
        rw [hn] at c12
        have hk : k < n := Nat.lt_of_not_le (fun h => c12 (nI_le h (by omega)))
        refine lv_aload_n hx hb dX1_ofStation_15 rfl (lv_at hl 2 rfl) ?_
        refine lv_iload hx hb dX1_ofStation_16 (lv_at hl 0 rfl) ?_
        refine lv_iload_n hx hb dX1_ofStation_18 rfl (lv_at hl 3 rfl) ?_
        refine lv_iload_n hx hb dX1_ofStation_19 rfl (lv_at hl 4 rfl) ?_
        refine lv_iload_n hx hb dX1_ofStation_20 rfl (lv_at hl 5 rfl) ?_
        refine vp_callSi (W.runV (As := [.int (nI k), .int st, .int f, .int t]) (rest := []) ⟨hx, hb, hml, hown, hts⟩ (c_isWork l dC dI cI cZ cJ a v g k st f t (by omega)) (cwV 4 hts (gd_V ml_X1_X1_isWork im_X1_isWork se_X1_isWork in_X1 kX1_isWork) rfl rfl rfl (by decide +kernel) ⟨Nat.le_of_ble_eq_true rfl, Nat.le_of_ble_eq_true rfl⟩) ⟨fun _ U g mk q => by obtain ⟨q0, qP, qK⟩ := q; exact ⟨q0, qP, va_K.moved (u := U) (U := U.calling g mk _) (Vm.Alike.refl U.vm) qK⟩, va_recv hK hP (ci := 1) (q0 := 5) rfl rfl, fun U hU hW => ⟨rfl, by rw [hU]; exact hP, va_K.moved hW.alike hK⟩⟩ rfl rfl hl.1 rfl (lv_room (Nat.le_of_ble_eq_true rfl)) dX1_ofStation_21 ⟨Nat.zero_le _, Nat.zero_le _⟩) (fun r21 hr21 => ?_)
        subst hr21
        refine lv_if_eq (tgt := 30) hx hb dX1_ofStation_24 (by decide) (fun c24 => ?_) (fun c24 => ?_)
        · have c24 := bI_0.mp c24
          refine lv_iinc (v := nI (k + 1)) (lv' := [(5, .int (nI (k + 1))), (4, .int (cnt (fun i => workB g i st f t) k)), (0, .ref (a 5)), (1, .int st), (2, .int f), (3, .int t)]) hx hb dX1_ofStation_30 hl (k := 0) rfl (nI_1 k) (by decide) rfl (fun ls hl => ?_)
          refine lv_goto (tgt := 6) hx hb dX1_ofStation_33 (by decide) ?_
          exact ih (k + 1) (by omega) (by omega) (by omega) _ (by simp [cnt_s, bI, c12, n12, c24]) ls (lv_sub hl [0, 1, 2, 3, 4, 5] rfl)
        · have c24 := bI_n0.mp c24
          refine lv_iinc (v := (cnt (fun i => workB g i st f t) k) + 1) (lv' := [(4, .int ((cnt (fun i => workB g i st f t) k) + 1)), (5, .int (nI k)), (0, .ref (a 5)), (1, .int st), (2, .int f), (3, .int t)]) hx hb dX1_ofStation_27 hl (k := 1) rfl rfl (by decide) rfl (fun ls hl => ?_)
          refine lv_iinc (v := nI (k + 1)) (lv' := [(5, .int (nI (k + 1))), (4, .int ((cnt (fun i => workB g i st f t) k) + 1)), (0, .ref (a 5)), (1, .int st), (2, .int f), (3, .int t)]) hx hb dX1_ofStation_30 hl (k := 1) rfl (nI_1 k) (by decide) rfl (fun ls hl => ?_)
          refine lv_goto (tgt := 6) hx hb dX1_ofStation_33 (by decide) ?_
          exact ih (k + 1) (by omega) (by omega) (by omega) _ (by simp [cnt_s, bI, c12, n12, c24]) ls (lv_sub hl [0, 1, 2, 3, 4, 5] rfl)
  exact lp (n + 1) 0 (by omega) (by omega) (by omega) _ (rfl) ls (lv_sub hl [0, 1, 2, 3, 4, 5] rfl)
set_option maxHeartbeats 4000000 in
set_option maxRecDepth 100000 in
theorem c_secondsOfStation (l : Launch) (dC : Nat → ClassId) (dI : Nat → Nat → Nat) (cI cZ cJ : ClassId) (a : Nat → Nat) (v : Nat → Int32) (g : Nat → Nat → Int32)  (n : Nat) (hn : v 5 = nI n) (hn2 : n ≤ 200) (st f t : Int32) : Met l yX1_secondsOfStation wsX1_secondsOfStation ({ frames := 3, cells := 0, slots := 0, locals := 72 }) (va_Pc [.ref (a 5), .int st, .int f, .int t] (fun U => va_P (dC, dI) clA (wA cI cZ a v g) U.heap ∧ va_K (dC, dI) clA (tyA cI cZ cJ) U)) (vp_Si (fun r => r = isum (fun i => if workB g i st f t = true then secs (g 9 i) + secs (g 10 i) else 0) n)) 0 0 (fun _ => False) := by
  refine Met.ofW (cc := cX1_secondsOfStation) (maxL := 6) (ret := (some .int)) (by decide) rfl ?_
  intro p e s m args below meth c s₁ B hml hv
  obtain ⟨rfl, hP, hK⟩ := hv
  have hx := B.exec
  have hb := B.bytes
  have hr := B.returns
  have hts := atoms_spec (ws := wsX1_secondsOfStation) B.pre
  have hown : s.vm.findClass RX1 = some m.cls := findClass_of_methodNamed B.named
  have hlocks := B.notSynchronized
  have hl := lv_entry ([.ref (a 5), .int st, .int f, .int t]) (n := 6) (Nat.le_of_ble_eq_true rfl)
  rw [lg_entry_eq]
  generalize (lg_sl ([.ref (a 5), .int st, .int f, .int t]) ++ List.replicate (6 - (lg_sl ([.ref (a 5), .int st, .int f, .int t])).length) Slot.unset).toArray = ls at hl ⊢
  have hl : lv_has ls 6 [(0, .ref (a 5)), (1, .int st), (2, .int f), (3, .int t)] := hl
  refine lv_iconst (v := 0) hx hb dX1_secondsOfStation_0 (by decide) ?_
  refine lv_istore (lv' := [(4, .int 0), (0, .ref (a 5)), (1, .int st), (2, .int f), (3, .int t)]) hx hb dX1_secondsOfStation_1 hl (by decide) rfl (fun ls hl => ?_)
  refine lv_iconst (v := 0) hx hb dX1_secondsOfStation_3 (by decide) ?_
  refine lv_istore (lv' := [(5, .int 0), (4, .int 0), (0, .ref (a 5)), (1, .int st), (2, .int f), (3, .int t)]) hx hb dX1_secondsOfStation_4 hl (by decide) rfl (fun ls hl => ?_)
  have lp : ∀ (d k : Nat), 0 ≤ k → k ≤ n → n + 1 ≤ k + d → ∀ (acc : Int32), acc = isum (fun i => if workB g i st f t = true then secs (g 9 i) + secs (g 10 i) else 0) k → ∀ (ls : Array Slot), lv_has ls 6 [(5, .int (nI k)), (4, .int acc), (0, .ref (a 5)), (1, .int st), (2, .int f), (3, .int t)] → W p l e (headSpec wsX1_secondsOfStation ({ frames := 3, cells := 0, slots := 0, locals := 72 })).room s m ([.ref (a 5), .int st, .int f, .int t] : List Value).toArray below meth c s.heap [] 0 0 (MQ below (vp_Si (fun r => r = isum (fun i => if workB g i st f t = true then secs (g 9 i) + secs (g 10 i) else 0) n)) ([.ref (a 5), .int st, .int f, .int t] : List Value).toArray s 0 0 (fun _ => False)) (F0 m 6 ls []) := by
    intro d
    induction d with
    | zero => intro k h0 h1 h2; exact absurd h2 (by omega)
    | succ d ih =>
      intro k hk0 hkn hkd acc ea_acc ls hl
      subst ea_acc
      refine lv_iload hx hb dX1_secondsOfStation_6 (lv_at hl 0 rfl) ?_
      refine lv_aload_n hx hb dX1_secondsOfStation_8 rfl (lv_at hl 2 rfl) ?_
      refine va_get (D := (dC, dI)) (ci := 1) (v := .int (v 5)) (C := RX1) (T := TX1) (N := 10) hx hb hts (fun w h => List.mem_cons_of_mem _ (iw_X1 w h)) hown hK hP 5 rfl rfl 9 (by decide) (hts _ (List.mem_cons_of_mem _ fl_X1_size)) (fun _ h9 => h9) rfl dX1_secondsOfStation_9 ?_
      refine lv_icmp_ge (tgt := 59) hx hb dX1_secondsOfStation_12 (by decide) (fun c12 => ?_) (fun c12 => ?_)
      · have n12 := Int32.not_lt.mpr c12
        rw [hn] at c12
        have hkn2 : k = n := Nat.le_antisymm hkn ((nI_leI (by omega) (by omega)).mp c12)
        refine lv_iload hx hb dX1_secondsOfStation_59 (lv_at hl 1 rfl) ?_
        exact W.iret (v := isum (fun i => if workB g i st f t = true then secs (g 9 i) + secs (g 10 i) else 0) k) hx hb hr (fun t ht hW => ⟨_, rfl, (by subst hkn2; rfl), ht⟩) (fun _ h => absurd h List.not_mem_nil) dX1_secondsOfStation_61
      · have n12 := Int32.not_le.mp c12
        rw [hn] at c12
        have hk : k < n := Nat.lt_of_not_le (fun h => c12 (nI_le h (by omega)))
        refine lv_aload_n hx hb dX1_secondsOfStation_15 rfl (lv_at hl 2 rfl) ?_
        refine lv_iload hx hb dX1_secondsOfStation_16 (lv_at hl 0 rfl) ?_
        refine lv_iload_n hx hb dX1_secondsOfStation_18 rfl (lv_at hl 3 rfl) ?_
        refine lv_iload_n hx hb dX1_secondsOfStation_19 rfl (lv_at hl 4 rfl) ?_
        refine lv_iload_n hx hb dX1_secondsOfStation_20 rfl (lv_at hl 5 rfl) ?_
        refine vp_callSi (W.runV (As := [.int (nI k), .int st, .int f, .int t]) (rest := []) ⟨hx, hb, hml, hown, hts⟩ (c_isWork l dC dI cI cZ cJ a v g k st f t (by omega)) (cwV 4 hts (gd_V ml_X1_X1_isWork im_X1_isWork se_X1_isWork in_X1 kX1_isWork) rfl rfl rfl (by decide +kernel) ⟨Nat.le_of_ble_eq_true rfl, Nat.le_of_ble_eq_true rfl⟩) ⟨fun _ U g mk q => by obtain ⟨q0, qP, qK⟩ := q; exact ⟨q0, qP, va_K.moved (u := U) (U := U.calling g mk _) (Vm.Alike.refl U.vm) qK⟩, va_recv hK hP (ci := 1) (q0 := 5) rfl rfl, fun U hU hW => ⟨rfl, by rw [hU]; exact hP, va_K.moved hW.alike hK⟩⟩ rfl rfl hl.1 rfl (lv_room (Nat.le_of_ble_eq_true rfl)) dX1_secondsOfStation_21 ⟨Nat.zero_le _, Nat.zero_le _⟩) (fun r21 hr21 => ?_)
        subst hr21
        refine lv_if_eq (tgt := 53) hx hb dX1_secondsOfStation_24 (by decide) (fun c24 => ?_) (fun c24 => ?_)
        · have c24 := bI_0.mp c24
          refine lv_iinc (v := nI (k + 1)) (lv' := [(5, .int (nI (k + 1))), (4, .int (isum (fun i => if workB g i st f t = true then secs (g 9 i) + secs (g 10 i) else 0) k)), (0, .ref (a 5)), (1, .int st), (2, .int f), (3, .int t)]) hx hb dX1_secondsOfStation_53 hl (k := 0) rfl (nI_1 k) (by decide) rfl (fun ls hl => ?_)
          refine lv_goto (tgt := 6) hx hb dX1_secondsOfStation_56 (by decide) ?_
          exact ih (k + 1) (by omega) (by omega) (by omega) _ (by simp [isum_s, c12, n12, c24]) ls (lv_sub hl [0, 1, 2, 3, 4, 5] rfl)
        · have c24 := bI_n0.mp c24
          refine lv_iload hx hb dX1_secondsOfStation_27 (lv_at hl 1 rfl) ?_
          refine lv_aload_n hx hb dX1_secondsOfStation_29 rfl (lv_at hl 2 rfl) ?_
          refine va_get (D := (dC, dI)) (ci := 1) (v := .ref (a 12)) (C := RX1) (T := TX1) (N := 10) hx hb hts (fun w h => List.mem_cons_of_mem _ (iw_X1 w h)) hown hK hP 5 rfl rfl 6 (by decide) (hts _ (List.mem_cons_of_mem _ fl_X1_turnOuts)) (fun _ h9 => h9) rfl dX1_secondsOfStation_30 ?_
          refine lv_iload hx hb dX1_secondsOfStation_33 (lv_at hl 0 rfl) ?_
          refine wi_ald hx hb hK hP 12 0 rfl rfl (k := k) (by omega) (by decide) dX1_secondsOfStation_35 ?_
          refine vp_callSi (W.runS (As := [.int (g 9 k)]) (rest := [.int (isum (fun i => if workB g i st f t = true then secs (g 9 i) + secs (g 10 i) else 0) k)]) ⟨hx, hb, hml, hown, hts⟩ (c_secondsOf l dC dI cI cZ cJ a v g (g 9 k)) (cwS 1 hts (gd_S ml_X1_X1_secondsOf sm_X1_secondsOf in_X1 kX1_secondsOf) rfl rfl rfl (by decide +kernel) ⟨Nat.le_of_ble_eq_true rfl, Nat.le_of_ble_eq_true rfl⟩) ⟨fun _ U g mk q => by obtain ⟨q0, qP, qK⟩ := q; exact ⟨q0, qP, va_K.moved (u := U) (U := U.calling g mk _) (Vm.Alike.refl U.vm) qK⟩, fun U hU hW => ⟨rfl, by rw [hU]; exact hP, va_K.moved hW.alike hK⟩⟩ rfl rfl hl.1 rfl (lv_room (Nat.le_of_ble_eq_true rfl)) dX1_secondsOfStation_36 ⟨Nat.zero_le _, Nat.zero_le _⟩) (fun r36 hr36 => ?_)
          subst hr36
          refine lv_aload_n hx hb dX1_secondsOfStation_39 rfl (lv_at hl 2 rfl) ?_
          refine va_get (D := (dC, dI)) (ci := 1) (v := .ref (a 13)) (C := RX1) (T := TX1) (N := 10) hx hb hts (fun w h => List.mem_cons_of_mem _ (iw_X1 w h)) hown hK hP 5 rfl rfl 7 (by decide) (hts _ (List.mem_cons_of_mem _ fl_X1_travels)) (fun _ h9 => h9) rfl dX1_secondsOfStation_40 ?_
          refine lv_iload hx hb dX1_secondsOfStation_43 (lv_at hl 0 rfl) ?_
          refine wi_ald hx hb hK hP 13 0 rfl rfl (k := k) (by omega) (by decide) dX1_secondsOfStation_45 ?_
          refine vp_callSi (W.runS (As := [.int (g 10 k)]) (rest := [.int (secs (g 9 k)), .int (isum (fun i => if workB g i st f t = true then secs (g 9 i) + secs (g 10 i) else 0) k)]) ⟨hx, hb, hml, hown, hts⟩ (c_secondsOf l dC dI cI cZ cJ a v g (g 10 k)) (cwS 1 hts (gd_S ml_X1_X1_secondsOf sm_X1_secondsOf in_X1 kX1_secondsOf) rfl rfl rfl (by decide +kernel) ⟨Nat.le_of_ble_eq_true rfl, Nat.le_of_ble_eq_true rfl⟩) ⟨fun _ U g mk q => by obtain ⟨q0, qP, qK⟩ := q; exact ⟨q0, qP, va_K.moved (u := U) (U := U.calling g mk _) (Vm.Alike.refl U.vm) qK⟩, fun U hU hW => ⟨rfl, by rw [hU]; exact hP, va_K.moved hW.alike hK⟩⟩ rfl rfl hl.1 rfl (lv_room (Nat.le_of_ble_eq_true rfl)) dX1_secondsOfStation_46 ⟨Nat.zero_le _, Nat.zero_le _⟩) (fun r46 hr46 => ?_)
          subst hr46
          refine lv_iadd hx hb dX1_secondsOfStation_49 ?_
          refine lv_iadd hx hb dX1_secondsOfStation_50 ?_
          refine lv_topi (fun x50 e50 => ?_)
          refine lv_istore (lv' := [(4, .int x50), (5, .int (nI k)), (0, .ref (a 5)), (1, .int st), (2, .int f), (3, .int t)]) hx hb dX1_secondsOfStation_51 hl (by decide) rfl (fun ls hl => ?_)
          refine lv_iinc (v := nI (k + 1)) (lv' := [(5, .int (nI (k + 1))), (4, .int x50), (0, .ref (a 5)), (1, .int st), (2, .int f), (3, .int t)]) hx hb dX1_secondsOfStation_53 hl (k := 1) rfl (nI_1 k) (by decide) rfl (fun ls hl => ?_)
          refine lv_goto (tgt := 6) hx hb dX1_secondsOfStation_56 (by decide) ?_
          exact ih (k + 1) (by omega) (by omega) (by omega) _ (by simp [isum_s, c12, n12, c24, e50]) ls (lv_sub hl [0, 1, 2, 3, 4, 5] rfl)
  exact lp (n + 1) 0 (by omega) (by omega) (by omega) _ (rfl) ls (lv_sub hl [0, 1, 2, 3, 4, 5] rfl)
