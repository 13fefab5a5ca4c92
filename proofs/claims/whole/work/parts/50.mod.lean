
/-! the reference: its one world, and what it reckons -/
abbrev wM (cI cZ : ClassId) (a : Nat → Nat) (v : Nat → Int32) (g : Nat → Nat → Int32) : va_W :=
  [(a 0, .inr (5, [.int (v 0), .int (v 1), .ref (a 1), .ref (a 2), .ref (a 3), .ref (a 4), .ref (a 5), .ref (a 6), .ref (a 7), .ref (a 8), .ref (a 9), .int (v 2), .ref (a 10), .ref (a 11), .int (v 3), .int (v 4), .int (v 5), .int (v 6), .ref (a 12), .int (v 7), .ref (a 13), .ref (a 14), .ref (a 15), .ref (a 16)])),
   (a 1, .inl (cI, 200, .inl (g 0))), (a 2, .inl (cI, 200, .inl (g 1))), (a 3, .inl (cI, 200, .inl (g 2))), (a 4, .inl (cI, 200, .inl (g 3))), (a 5, .inl (cI, 200, .inl (g 4))), (a 6, .inl (cZ, 200, .inl (g 5))), (a 7, .inl (cZ, 200, .inl (g 6))), (a 8, .inl (cI, 200, .inl (g 7))), (a 9, .inl (cI, 200, .inl (g 8))), (a 10, .inl (cI, 6, .inl (g 9))), (a 11, .inl (cI, 6, .inl (g 10))), (a 12, .inl (cI, 10, .inl (g 11))), (a 13, .inl (cI, 6, .inl (g 12))), (a 14, .inl (cI, 1984, .inl (g 13))), (a 15, .inl (cI, 200, .inl (g 14))), (a 16, .inl (cZ, 10, .inl (g 15)))]
abbrev atM (dC : Nat → ClassId) (dI : Nat → Nat → Nat) (cI cZ cJ : ClassId) (a : Nat → Nat) (A : Nat → Prop) (u : StA) (t : State) : Prop :=
  va_P (dC, dI) clA (wM cI cZ a u.1 u.2) t.heap ∧ va_K (dC, dI) clA (tyA cI cZ cJ) t ∧ va_D A (wM cI cZ a u.1 u.2)
theorem bI_nar (b : Bool) : narrow .boolean (.int (bI b)) = .int (bI b) := by cases b <;> rfl
def thI (x y z : Int32) : Int32 := if ¬ x = 0 then 1 else if ¬ y = 0 then 2 else if ¬ z = 0 then 3 else 0
def inB (x y z : Int32) : Bool := decide (y ≤ x) && decide (x ≤ z)
def fitB (g : Nat → Nat → Int32) (k : Nat) (f t kd ar : Int32) : Bool := decide (g 6 k = 0) && inB (g 0 k) f t && (decide (kd < 0) || decide (g 2 k = kd)) && (decide (ar < 0) || decide (g 3 k = ar))
def hasB (g : Nat → Nat → Int32) (k : Nat) : Bool := decide (0 ≤ g 7 k) && decide (0 ≤ g 8 k)
/-- which definition holds on a day -/
def fdI (g : Nat → Nat → Int32) (d : Int32) : Nat → Int32
  | 0 => -1
  | k + 1 => if g 9 k ≤ d ∧ (fdI g d k < 0 ∨ g 9 (fdI g d k).toNatClampNeg ≤ g 9 k) then nI k else fdI g d k
theorem fdI_in (g : Nat → Nat → Int32) (d : Int32) : ∀ k, fdI g d k < 0 ∨ ∃ j, j < k ∧ fdI g d k = nI j := by
  intro k
  induction k with
  | zero => exact Or.inl (by show (-1 : Int32) < 0; decide)
  | succ k ih =>
    rw [fdI]
    split
    · exact Or.inr ⟨k, by omega, rfl⟩
    · rcases ih with h | ⟨j, h1, h2⟩
      · exact Or.inl h
      · exact Or.inr ⟨j, by omega, h2⟩
theorem fdI_at (g : Nat → Nat → Int32) (d : Int32) {k : Nat} (hk : k ≤ 6) (h : ¬ fdI g d k < 0) : vp_in (fdI g d k) 6 := by
  rcases fdI_in g d k with h1 | ⟨j, h1, h2⟩
  · exact absurd h1 h
  · rw [h2]; exact vp_in_nI (by omega) (by decide)
def mkM (g : Nat → Nat → Int32) (nd : Nat) (d : Int32) : Int32 := if fdI g d nd < 0 then -1 else g 10 (fdI g d nd).toNatClampNeg
def woM (g : Nat → Nat → Int32) (nd k : Nat) : Bool := !(hasB g k) || decide (mkM g nd (g 0 k) < 0)
def wiM (g : Nat → Nat → Int32) (nd k : Nat) : Bool := !(woM g nd k) && decide (g 7 k + g 8 k ≤ mkM g nd (g 0 k))
def shM (g : Nat → Nat → Int32) (nd : Nat) (f t kd ar w : Int32) (k : Nat) : Bool := fitB g k f t kd ar && (if w = 0 then wiM g nd k else !(woM g nd k))
def rem1 (x y : Int32) : Int32 := x - x / y * y
/-- the reference's Euclid -/
def eM (x y : Int32) : Nat → Int32 × Int32
  | 0 => (x, y)
  | k + 1 => if 0 < (eM x y k).2 then ((eM x y k).2, (eM x y k).1 - (eM x y k).1 / (eM x y k).2 * (eM x y k).2) else eM x y k
def gnM (g : Nat → Nat → Int32) (st : Int32) (k : Nat) (j : Nat) : Int32 := if (st >>> (nI j &&& 31)) &&& 1 = 1 then (if g 12 j < g 12 k then 1 else if g 12 k < g 12 j then -1 else 0) else 0

set_option maxHeartbeats 4000000 in
set_option maxRecDepth 100000 in
theorem m_thrownBy (l : Launch) (dC : Nat → ClassId) (dI : Nat → Nat → Nat) (cI cZ cJ : ClassId) (a : Nat → Nat) (v : Nat → Int32) (g : Nat → Nat → Int32) (x y z : Int32) : Met l yX5_thrownBy wsX5_thrownBy ({ frames := 0, cells := 0, slots := 0, locals := 0 }) (va_Pc [.ref (a 0), .int x, .int y, .int z] (fun U => va_P (dC, dI) clA (wM cI cZ a v g) U.heap ∧ va_K (dC, dI) clA (tyA cI cZ cJ) U)) (vp_Si (fun r => r = thI x y z)) 0 0 (fun _ => False) := by
  refine Met.ofW (cc := cX5_thrownBy) (maxL := 4) (ret := (some .int)) (by decide) rfl ?_
  intro p e s m args below meth c s₁ B hml hv
  obtain ⟨rfl, hP, hK⟩ := hv
  have hx := B.exec
  have hb := B.bytes
  have hr := B.returns
  have hts := atoms_spec (ws := wsX5_thrownBy) B.pre
  have hown : s.vm.findClass RX5 = some m.cls := findClass_of_methodNamed B.named
  have hlocks := B.notSynchronized
  have hl := lv_entry ([.ref (a 0), .int x, .int y, .int z]) (n := 4) (Nat.le_of_ble_eq_true rfl)
  rw [lg_entry_eq]
  generalize (lg_sl ([.ref (a 0), .int x, .int y, .int z]) ++ List.replicate (4 - (lg_sl ([.ref (a 0), .int x, .int y, .int z])).length) Slot.unset).toArray = ls at hl ⊢
  have hl : lv_has ls 4 [(0, .ref (a 0)), (1, .int x), (2, .int y), (3, .int z)] := hl
  refine lv_iload_n hx hb dX5_thrownBy_0 rfl (lv_at hl 1 rfl) ?_
  refine lv_if_eq (tgt := 8) hx hb dX5_thrownBy_1 (by decide) (fun c1 => ?_) (fun c1 => ?_)
  · refine lv_iload_n hx hb dX5_thrownBy_8 rfl (lv_at hl 2 rfl) ?_
    refine lv_if_eq (tgt := 16) hx hb dX5_thrownBy_9 (by decide) (fun c9 => ?_) (fun c9 => ?_)
    · refine lv_iload_n hx hb dX5_thrownBy_16 rfl (lv_at hl 3 rfl) ?_
      refine lv_if_eq (tgt := 24) hx hb dX5_thrownBy_17 (by decide) (fun c17 => ?_) (fun c17 => ?_)
      · refine lv_iconst (v := 0) hx hb dX5_thrownBy_24 (by decide) ?_
        exact W.iret (v := 0) hx hb hr (fun t ht hW => ⟨_, rfl, (by simp [thI, c1, c9, c17]), ht⟩) (fun _ h => absurd h List.not_mem_nil) dX5_thrownBy_25
      · refine lv_iconst (v := 3) hx hb dX5_thrownBy_20 (by decide) ?_
        refine lv_goto (tgt := 25) hx hb dX5_thrownBy_21 (by decide) ?_
        exact W.iret (v := 3) hx hb hr (fun t ht hW => ⟨_, rfl, (by simp [thI, c1, c9, c17]), ht⟩) (fun _ h => absurd h List.not_mem_nil) dX5_thrownBy_25
    · refine lv_iconst (v := 2) hx hb dX5_thrownBy_12 (by decide) ?_
      refine lv_goto (tgt := 25) hx hb dX5_thrownBy_13 (by decide) ?_
      exact W.iret (v := 2) hx hb hr (fun t ht hW => ⟨_, rfl, (by simp [thI, c1, c9]), ht⟩) (fun _ h => absurd h List.not_mem_nil) dX5_thrownBy_25
  · refine lv_iconst (v := 1) hx hb dX5_thrownBy_4 (by decide) ?_
    refine lv_goto (tgt := 25) hx hb dX5_thrownBy_5 (by decide) ?_
    exact W.iret (v := 1) hx hb hr (fun t ht hW => ⟨_, rfl, (by simp [thI, c1]), ht⟩) (fun _ h => absurd h List.not_mem_nil) dX5_thrownBy_25
set_option maxHeartbeats 4000000 in
set_option maxRecDepth 100000 in
theorem m_thrown (l : Launch) (dC : Nat → ClassId) (dI : Nat → Nat → Nat) (cI cZ cJ : ClassId) (a : Nat → Nat) (v : Nat → Int32) (g : Nat → Nat → Int32)  : Met l yX5_thrown wsX5_thrown ({ frames := 0, cells := 0, slots := 0, locals := 0 }) (va_Pc [.ref (a 0)] (fun U => va_P (dC, dI) clA (wM cI cZ a v g) U.heap ∧ va_K (dC, dI) clA (tyA cI cZ cJ) U)) (vp_Si (fun r => r = v 0)) 0 0 (fun _ => False) := by
  refine Met.ofW (cc := cX5_thrown) (maxL := 1) (ret := (some .int)) (by decide) rfl ?_
  intro p e s m args below meth c s₁ B hml hv
  obtain ⟨rfl, hP, hK⟩ := hv
  have hx := B.exec
  have hb := B.bytes
  have hr := B.returns
  have hts := atoms_spec (ws := wsX5_thrown) B.pre
  have hown : s.vm.findClass RX5 = some m.cls := findClass_of_methodNamed B.named
  have hlocks := B.notSynchronized
  have hl := lv_entry ([.ref (a 0)]) (n := 1) (Nat.le_of_ble_eq_true rfl)
  rw [lg_entry_eq]
  generalize (lg_sl ([.ref (a 0)]) ++ List.replicate (1 - (lg_sl ([.ref (a 0)])).length) Slot.unset).toArray = ls at hl ⊢
  have hl : lv_has ls 1 [(0, .ref (a 0))] := hl
  refine lv_aload_n hx hb dX5_thrown_0 rfl (lv_at hl 0 rfl) ?_
  refine va_get (D := (dC, dI)) (ci := 5) (v := .int (v 0)) (C := RX5) (T := TX5) (N := 24) hx hb hts (fun w h => List.mem_cons_of_mem _ (iw_X5 w h)) hown hK hP 0 rfl rfl 0 (by decide) (hts _ (List.mem_cons_of_mem _ fl_X5_thrown)) (fun _ h9 => h9) rfl dX5_thrown_1 ?_
  exact W.iret (v := v 0) hx hb hr (fun t ht hW => ⟨_, rfl, rfl, ht⟩) (fun _ h => absurd h List.not_mem_nil) dX5_thrown_4
set_option maxHeartbeats 4000000 in
set_option maxRecDepth 100000 in
theorem m_in (l : Launch) (dC : Nat → ClassId) (dI : Nat → Nat → Nat) (cI cZ cJ : ClassId) (a : Nat → Nat) (v : Nat → Int32) (g : Nat → Nat → Int32) (x y z : Int32) : Met l yX5_in wsX5_in ({ frames := 0, cells := 0, slots := 0, locals := 0 }) (va_Pc [.int x, .int y, .int z] (fun U => va_P (dC, dI) clA (wM cI cZ a v g) U.heap ∧ va_K (dC, dI) clA (tyA cI cZ cJ) U)) (vp_Si (fun r => r = bI (inB x y z))) 0 0 (fun _ => False) := by
  refine Met.ofW (cc := cX5_in) (maxL := 3) (ret := (some .boolean)) (by decide) rfl ?_
  intro p e s m args below meth c s₁ B hml hv
  obtain ⟨rfl, hP, hK⟩ := hv
  have hx := B.exec
  have hb := B.bytes
  have hr := B.returns
  have hts := atoms_spec (ws := wsX5_in) B.pre
  have hown : s.vm.findClass RX5 = some m.cls := findClass_of_methodNamed B.named
  have hlocks := B.notSynchronized
  have hl := lv_entry ([.int x, .int y, .int z]) (n := 3) (Nat.le_of_ble_eq_true rfl)
  rw [lg_entry_eq]
  generalize (lg_sl ([.int x, .int y, .int z]) ++ List.replicate (3 - (lg_sl ([.int x, .int y, .int z])).length) Slot.unset).toArray = ls at hl ⊢
  have hl : lv_has ls 3 [(0, .int x), (1, .int y), (2, .int z)] := hl
  refine lv_iload_n hx hb dX5_in_0 rfl (lv_at hl 0 rfl) ?_
  refine lv_iload_n hx hb dX5_in_1 rfl (lv_at hl 1 rfl) ?_
  refine lv_icmp_lt (tgt := 14) hx hb dX5_in_2 (by decide) (fun c2 => ?_) (fun c2 => ?_)
  · have n2 := Int32.not_le.mpr c2
    refine lv_iconst (v := 0) hx hb dX5_in_14 (by decide) ?_
    exact W.zret (v := 0) hx hb hr rfl (fun t ht hW => ⟨_, rfl, (by simp [inB, bI, c2, n2]), ht⟩) (fun _ h => absurd h List.not_mem_nil) dX5_in_15
  · have n2 := Int32.not_lt.mp c2
    refine lv_iload_n hx hb dX5_in_5 rfl (lv_at hl 0 rfl) ?_
    refine lv_iload_n hx hb dX5_in_6 rfl (lv_at hl 2 rfl) ?_
    refine lv_icmp_gt (tgt := 14) hx hb dX5_in_7 (by decide) (fun c7 => ?_) (fun c7 => ?_)
    · have n7 := Int32.not_le.mpr c7
      refine lv_iconst (v := 0) hx hb dX5_in_14 (by decide) ?_
      exact W.zret (v := 0) hx hb hr rfl (fun t ht hW => ⟨_, rfl, (by simp [inB, bI, c2, n2, c7, n7]), ht⟩) (fun _ h => absurd h List.not_mem_nil) dX5_in_15
    · have n7 := Int32.not_lt.mp c7
      refine lv_iconst (v := 1) hx hb dX5_in_10 (by decide) ?_
      refine lv_goto (tgt := 15) hx hb dX5_in_11 (by decide) ?_
      exact W.zret (v := 1) hx hb hr rfl (fun t ht hW => ⟨_, rfl, (by simp [inB, bI, c2, n2, c7, n7]), ht⟩) (fun _ h => absurd h List.not_mem_nil) dX5_in_15
set_option maxHeartbeats 4000000 in
set_option maxRecDepth 100000 in
theorem m_isDay (l : Launch) (dC : Nat → ClassId) (dI : Nat → Nat → Nat) (cI cZ cJ : ClassId) (a : Nat → Nat) (v : Nat → Int32) (g : Nat → Nat → Int32) (x : Int32) : Met l yX5_isDay wsX5_isDay ({ frames := 1, cells := 0, slots := 0, locals := 22 }) (va_Pc [.int x] (fun U => va_P (dC, dI) clA (wM cI cZ a v g) U.heap ∧ va_K (dC, dI) clA (tyA cI cZ cJ) U)) (vp_Si (fun r => r = bI (inB x 0 9999))) 0 0 (fun _ => False) := by
  refine Met.ofW (cc := cX5_isDay) (maxL := 1) (ret := (some .boolean)) (by decide) rfl ?_
  intro p e s m args below meth c s₁ B hml hv
  obtain ⟨rfl, hP, hK⟩ := hv
  have hx := B.exec
  have hb := B.bytes
  have hr := B.returns
  have hts := atoms_spec (ws := wsX5_isDay) B.pre
  have hown : s.vm.findClass RX5 = some m.cls := findClass_of_methodNamed B.named
  have hlocks := B.notSynchronized
  have hl := lv_entry ([.int x]) (n := 1) (Nat.le_of_ble_eq_true rfl)
  rw [lg_entry_eq]
  generalize (lg_sl ([.int x]) ++ List.replicate (1 - (lg_sl ([.int x])).length) Slot.unset).toArray = ls at hl ⊢
  have hl : lv_has ls 1 [(0, .int x)] := hl
  refine lv_iload_n hx hb dX5_isDay_0 rfl (lv_at hl 0 rfl) ?_
  refine lv_iconst (v := 0) hx hb dX5_isDay_1 (by decide) ?_
  refine lv_sipush (v := 9999) hx hb dX5_isDay_2 (by decide) ?_
  refine vp_callSi (W.runS (As := [.int x, .int 0, .int 9999]) (rest := []) ⟨hx, hb, hml, hown, hts⟩ (m_in l dC dI cI cZ cJ a v g x 0 9999) (cwS 3 hts (gd_S ml_X5_X5_in sm_X5_in in_X5 kX5_in) rfl rfl rfl (by decide +kernel) ⟨Nat.le_of_ble_eq_true rfl, Nat.le_of_ble_eq_true rfl⟩) ⟨fun _ U g mk q => by obtain ⟨q0, qP, qK⟩ := q; exact ⟨q0, qP, va_K.moved (u := U) (U := U.calling g mk _) (Vm.Alike.refl U.vm) qK⟩, fun U hU hW => ⟨rfl, by rw [hU]; exact hP, va_K.moved hW.alike hK⟩⟩ rfl rfl hl.1 rfl (lv_room (Nat.le_of_ble_eq_true rfl)) dX5_isDay_5 ⟨Nat.zero_le _, Nat.zero_le _⟩) (fun r5 hr5 => ?_)
  subst hr5
  exact W.zret (v := bI (inB x 0 9999)) hx hb hr (bI_nar _) (fun t ht hW => ⟨_, rfl, rfl, ht⟩) (fun _ h => absurd h List.not_mem_nil) dX5_isDay_8
set_option maxHeartbeats 4000000 in
set_option maxRecDepth 100000 in
theorem m_fits (l : Launch) (dC : Nat → ClassId) (dI : Nat → Nat → Nat) (cI cZ cJ : ClassId) (a : Nat → Nat) (v : Nat → Int32) (g : Nat → Nat → Int32) (k : Nat) (f t kd ar : Int32) (hk : k < 200) : Met l yX5_fits wsX5_fits ({ frames := 1, cells := 0, slots := 0, locals := 22 }) (va_Pc [.ref (a 0), .int (nI k), .int f, .int t, .int kd, .int ar] (fun U => va_P (dC, dI) clA (wM cI cZ a v g) U.heap ∧ va_K (dC, dI) clA (tyA cI cZ cJ) U)) (vp_Si (fun r => r = bI (fitB g k f t kd ar))) 0 0 (fun _ => False) := by
  refine Met.ofW (cc := cX5_fits) (maxL := 6) (ret := (some .boolean)) (by decide) rfl ?_
  intro p e s m args below meth c s₁ B hml hv
  obtain ⟨rfl, hP, hK⟩ := hv
  have hx := B.exec
  have hb := B.bytes
  have hr := B.returns
  have hts := atoms_spec (ws := wsX5_fits) B.pre
  have hown : s.vm.findClass RX5 = some m.cls := findClass_of_methodNamed B.named
  have hlocks := B.notSynchronized
  have hl := lv_entry ([.ref (a 0), .int (nI k), .int f, .int t, .int kd, .int ar]) (n := 6) (Nat.le_of_ble_eq_true rfl)
  rw [lg_entry_eq]
  generalize (lg_sl ([.ref (a 0), .int (nI k), .int f, .int t, .int kd, .int ar]) ++ List.replicate (6 - (lg_sl ([.ref (a 0), .int (nI k), .int f, .int t, .int kd, .int ar])).length) Slot.unset).toArray = ls at hl ⊢
  have hl : lv_has ls 6 [(0, .ref (a 0)), (1, .int (nI k)), (2, .int f), (3, .int t), (4, .int kd), (5, .int ar)] := hl
  refine lv_aload_n hx hb dX5_fits_0 rfl (lv_at hl 0 rfl) ?_
  refine va_get (D := (dC, dI)) (ci := 5) (v := .ref (a 7)) (C := RX5) (T := TX5) (N := 24) hx hb hts (fun w h => List.mem_cons_of_mem _ (iw_X5 w h)) hown hK hP 0 rfl rfl 8 (by decide) (hts _ (List.mem_cons_of_mem _ fl_X5_hidden)) (fun _ h9 => h9) rfl dX5_fits_1 ?_
  refine lv_iload_n hx hb dX5_fits_4 rfl (lv_at hl 1 rfl) ?_
  refine wz_ald hx hb hK hP 7 1 rfl rfl (k := k) (by omega) (by decide) dX5_fits_5 ?_
  refine lv_if_ne (tgt := 59) hx hb dX5_fits_6 (by decide) (fun c6 => ?_) (fun c6 => ?_)
  · refine lv_iconst (v := 0) hx hb dX5_fits_59 (by decide) ?_
    exact W.zret (v := 0) hx hb hr rfl (fun t ht hW => ⟨_, rfl, (by simp [fitB, bI, c6]), ht⟩) (fun _ h => absurd h List.not_mem_nil) dX5_fits_60
  · refine lv_aload_n hx hb dX5_fits_9 rfl (lv_at hl 0 rfl) ?_
    refine va_get (D := (dC, dI)) (ci := 5) (v := .ref (a 1)) (C := RX5) (T := TX5) (N := 24) hx hb hts (fun w h => List.mem_cons_of_mem _ (iw_X5 w h)) hown hK hP 0 rfl rfl 2 (by decide) (hts _ (List.mem_cons_of_mem _ fl_X5_day)) (fun _ h9 => h9) rfl dX5_fits_10 ?_
    refine lv_iload_n hx hb dX5_fits_13 rfl (lv_at hl 1 rfl) ?_
    refine wi_ald hx hb hK hP 1 0 rfl rfl (k := k) (by omega) (by decide) dX5_fits_14 ?_
    refine lv_iload_n hx hb dX5_fits_15 rfl (lv_at hl 2 rfl) ?_
    refine lv_iload_n hx hb dX5_fits_16 rfl (lv_at hl 3 rfl) ?_
    refine vp_callSi (W.runS (As := [.int (g 0 k), .int f, .int t]) (rest := []) ⟨hx, hb, hml, hown, hts⟩ (m_in l dC dI cI cZ cJ a v g (g 0 k) f t) (cwS 3 hts (gd_S ml_X5_X5_in sm_X5_in in_X5 kX5_in) rfl rfl rfl (by decide +kernel) ⟨Nat.le_of_ble_eq_true rfl, Nat.le_of_ble_eq_true rfl⟩) ⟨fun _ U g mk q => by obtain ⟨q0, qP, qK⟩ := q; exact ⟨q0, qP, va_K.moved (u := U) (U := U.calling g mk _) (Vm.Alike.refl U.vm) qK⟩, fun U hU hW => ⟨rfl, by rw [hU]; exact hP, va_K.moved hW.alike hK⟩⟩ rfl rfl hl.1 rfl (lv_room (Nat.le_of_ble_eq_true rfl)) dX5_fits_17 ⟨Nat.zero_le _, Nat.zero_le _⟩) (fun r17 hr17 => ?_)
    subst hr17
    refine lv_if_eq (tgt := 59) hx hb dX5_fits_20 (by decide) (fun c20 => ?_) (fun c20 => ?_)
    · have c20 := bI_0.mp c20
      refine lv_iconst (v := 0) hx hb dX5_fits_59 (by decide) ?_
      exact W.zret (v := 0) hx hb hr rfl (fun t ht hW => ⟨_, rfl, (by simp [fitB, bI, c6, c20]), ht⟩) (fun _ h => absurd h List.not_mem_nil) dX5_fits_60
    · have c20 := bI_n0.mp c20
      refine lv_iload hx hb dX5_fits_23 (lv_at hl 4 rfl) ?_
      refine lv_if_lt (tgt := 39) hx hb dX5_fits_25 (by decide) (fun c25 => ?_) (fun c25 => ?_)
      · have n25 := Int32.not_le.mpr c25
        refine lv_iload hx hb dX5_fits_39 (lv_at hl 5 rfl) ?_
        refine lv_if_lt (tgt := 55) hx hb dX5_fits_41 (by decide) (fun c41 => ?_) (fun c41 => ?_)
        · have n41 := Int32.not_le.mpr c41
          refine lv_iconst (v := 1) hx hb dX5_fits_55 (by decide) ?_
          refine lv_goto (tgt := 60) hx hb dX5_fits_56 (by decide) ?_
          exact W.zret (v := 1) hx hb hr rfl (fun t ht hW => ⟨_, rfl, (by simp [fitB, bI, c6, c20, c25, n25, c41, n41]), ht⟩) (fun _ h => absurd h List.not_mem_nil) dX5_fits_60
        · have n41 := Int32.not_lt.mp c41
          refine lv_aload_n hx hb dX5_fits_44 rfl (lv_at hl 0 rfl) ?_
          refine va_get (D := (dC, dI)) (ci := 5) (v := .ref (a 4)) (C := RX5) (T := TX5) (N := 24) hx hb hts (fun w h => List.mem_cons_of_mem _ (iw_X5 w h)) hown hK hP 0 rfl rfl 5 (by decide) (hts _ (List.mem_cons_of_mem _ fl_X5_area)) (fun _ h9 => h9) rfl dX5_fits_45 ?_
          refine lv_iload_n hx hb dX5_fits_48 rfl (lv_at hl 1 rfl) ?_
          refine wi_ald hx hb hK hP 4 0 rfl rfl (k := k) (by omega) (by decide) dX5_fits_49 ?_
          refine lv_iload hx hb dX5_fits_50 (lv_at hl 5 rfl) ?_
          refine lv_icmp_ne (tgt := 59) hx hb dX5_fits_52 (by decide) (fun c52 => ?_) (fun c52 => ?_)
          · refine lv_iconst (v := 0) hx hb dX5_fits_59 (by decide) ?_
            exact W.zret (v := 0) hx hb hr rfl (fun t ht hW => ⟨_, rfl, (by simp [fitB, bI, c6, c20, c25, n25, c41, n41, c52]), ht⟩) (fun _ h => absurd h List.not_mem_nil) dX5_fits_60
          · refine lv_iconst (v := 1) hx hb dX5_fits_55 (by decide) ?_
            refine lv_goto (tgt := 60) hx hb dX5_fits_56 (by decide) ?_
            exact W.zret (v := 1) hx hb hr rfl (fun t ht hW => ⟨_, rfl, (by simp [fitB, bI, c6, c20, c25, n25, c41, n41, c52]), ht⟩) (fun _ h => absurd h List.not_mem_nil) dX5_fits_60
      · have n25 := Int32.not_lt.mp c25
        refine lv_aload_n hx hb dX5_fits_28 rfl (lv_at hl 0 rfl) ?_
        refine va_get (D := (dC, dI)) (ci := 5) (v := .ref (a 3)) (C := RX5) (T := TX5) (N := 24) hx hb hts (fun w h => List.mem_cons_of_mem _ (iw_X5 w h)) hown hK hP 0 rfl rfl 4 (by decide) (hts _ (List.mem_cons_of_mem _ fl_X5_kind)) (fun _ h9 => h9) rfl dX5_fits_29 ?_
        refine lv_iload_n hx hb dX5_fits_32 rfl (lv_at hl 1 rfl) ?_
        refine wi_ald hx hb hK hP 3 0 rfl rfl (k := k) (by omega) (by decide) dX5_fits_33 ?_
        refine lv_iload hx hb dX5_fits_34 (lv_at hl 4 rfl) ?_
        refine lv_icmp_ne (tgt := 59) hx hb dX5_fits_36 (by decide) (fun c36 => ?_) (fun c36 => ?_)
        · refine lv_iconst (v := 0) hx hb dX5_fits_59 (by decide) ?_
          exact W.zret (v := 0) hx hb hr rfl (fun t ht hW => ⟨_, rfl, (by simp [fitB, bI, c6, c20, c25, n25, c36]), ht⟩) (fun _ h => absurd h List.not_mem_nil) dX5_fits_60
        · refine lv_iload hx hb dX5_fits_39 (lv_at hl 5 rfl) ?_
          refine lv_if_lt (tgt := 55) hx hb dX5_fits_41 (by decide) (fun c41 => ?_) (fun c41 => ?_)
          · have n41 := Int32.not_le.mpr c41
            refine lv_iconst (v := 1) hx hb dX5_fits_55 (by decide) ?_
            refine lv_goto (tgt := 60) hx hb dX5_fits_56 (by decide) ?_
            exact W.zret (v := 1) hx hb hr rfl (fun t ht hW => ⟨_, rfl, (by simp [fitB, bI, c6, c20, c25, n25, c36, c41, n41]), ht⟩) (fun _ h => absurd h List.not_mem_nil) dX5_fits_60
          · have n41 := Int32.not_lt.mp c41
            refine lv_aload_n hx hb dX5_fits_44 rfl (lv_at hl 0 rfl) ?_
            refine va_get (D := (dC, dI)) (ci := 5) (v := .ref (a 4)) (C := RX5) (T := TX5) (N := 24) hx hb hts (fun w h => List.mem_cons_of_mem _ (iw_X5 w h)) hown hK hP 0 rfl rfl 5 (by decide) (hts _ (List.mem_cons_of_mem _ fl_X5_area)) (fun _ h9 => h9) rfl dX5_fits_45 ?_
            refine lv_iload_n hx hb dX5_fits_48 rfl (lv_at hl 1 rfl) ?_
            refine wi_ald hx hb hK hP 4 0 rfl rfl (k := k) (by omega) (by decide) dX5_fits_49 ?_
            refine lv_iload hx hb dX5_fits_50 (lv_at hl 5 rfl) ?_
            refine lv_icmp_ne (tgt := 59) hx hb dX5_fits_52 (by decide) (fun c52 => ?_) (fun c52 => ?_)
            · refine lv_iconst (v := 0) hx hb dX5_fits_59 (by decide) ?_
              exact W.zret (v := 0) hx hb hr rfl (fun t ht hW => ⟨_, rfl, (by simp [fitB, bI, c6, c20, c25, n25, c36, c41, n41, c52]), ht⟩) (fun _ h => absurd h List.not_mem_nil) dX5_fits_60
            · refine lv_iconst (v := 1) hx hb dX5_fits_55 (by decide) ?_
              refine lv_goto (tgt := 60) hx hb dX5_fits_56 (by decide) ?_
              exact W.zret (v := 1) hx hb hr rfl (fun t ht hW => ⟨_, rfl, (by simp [fitB, bI, c6, c20, c25, n25, c36, c41, n41, c52]), ht⟩) (fun _ h => absurd h List.not_mem_nil) dX5_fits_60
set_option maxHeartbeats 4000000 in
set_option maxRecDepth 100000 in
theorem m_isAsked (l : Launch) (dC : Nat → ClassId) (dI : Nat → Nat → Nat) (cI cZ cJ : ClassId) (a : Nat → Nat) (v : Nat → Int32) (g : Nat → Nat → Int32) (k : Nat) (hk : k < 200) : Met l yX5_isAsked wsX5_isAsked ({ frames := 2, cells := 0, slots := 0, locals := 47 }) (va_Pc [.ref (a 0), .int (nI k)] (fun U => va_P (dC, dI) clA (wM cI cZ a v g) U.heap ∧ va_K (dC, dI) clA (tyA cI cZ cJ) U)) (vp_Si (fun r => r = bI (fitB g k (v 3) (v 4) (v 5) (v 6)))) 0 0 (fun _ => False) := by
  refine Met.ofW (cc := cX5_isAsked) (maxL := 2) (ret := (some .boolean)) (by decide) rfl ?_
  intro p e s m args below meth c s₁ B hml hv
  obtain ⟨rfl, hP, hK⟩ := hv
  have hx := B.exec
  have hb := B.bytes
  have hr := B.returns
  have hts := atoms_spec (ws := wsX5_isAsked) B.pre
  have hown : s.vm.findClass RX5 = some m.cls := findClass_of_methodNamed B.named
  have hlocks := B.notSynchronized
  have hl := lv_entry ([.ref (a 0), .int (nI k)]) (n := 2) (Nat.le_of_ble_eq_true rfl)
  rw [lg_entry_eq]
  generalize (lg_sl ([.ref (a 0), .int (nI k)]) ++ List.replicate (2 - (lg_sl ([.ref (a 0), .int (nI k)])).length) Slot.unset).toArray = ls at hl ⊢
  have hl : lv_has ls 2 [(0, .ref (a 0)), (1, .int (nI k))] := hl
  refine lv_aload_n hx hb dX5_isAsked_0 rfl (lv_at hl 0 rfl) ?_
  refine lv_iload_n hx hb dX5_isAsked_1 rfl (lv_at hl 1 rfl) ?_
  refine lv_aload_n hx hb dX5_isAsked_2 rfl (lv_at hl 0 rfl) ?_
  refine va_get (D := (dC, dI)) (ci := 5) (v := .int (v 3)) (C := RX5) (T := TX5) (N := 24) hx hb hts (fun w h => List.mem_cons_of_mem _ (iw_X5 w h)) hown hK hP 0 rfl rfl 14 (by decide) (hts _ (List.mem_cons_of_mem _ fl_X5_from)) (fun _ h9 => h9) rfl dX5_isAsked_3 ?_
  refine lv_aload_n hx hb dX5_isAsked_6 rfl (lv_at hl 0 rfl) ?_
  refine va_get (D := (dC, dI)) (ci := 5) (v := .int (v 4)) (C := RX5) (T := TX5) (N := 24) hx hb hts (fun w h => List.mem_cons_of_mem _ (iw_X5 w h)) hown hK hP 0 rfl rfl 15 (by decide) (hts _ (List.mem_cons_of_mem _ fl_X5_to)) (fun _ h9 => h9) rfl dX5_isAsked_7 ?_
  refine lv_aload_n hx hb dX5_isAsked_10 rfl (lv_at hl 0 rfl) ?_
  refine va_get (D := (dC, dI)) (ci := 5) (v := .int (v 5)) (C := RX5) (T := TX5) (N := 24) hx hb hts (fun w h => List.mem_cons_of_mem _ (iw_X5 w h)) hown hK hP 0 rfl rfl 16 (by decide) (hts _ (List.mem_cons_of_mem _ fl_X5_askedKind)) (fun _ h9 => h9) rfl dX5_isAsked_11 ?_
  refine lv_aload_n hx hb dX5_isAsked_14 rfl (lv_at hl 0 rfl) ?_
  refine va_get (D := (dC, dI)) (ci := 5) (v := .int (v 6)) (C := RX5) (T := TX5) (N := 24) hx hb hts (fun w h => List.mem_cons_of_mem _ (iw_X5 w h)) hown hK hP 0 rfl rfl 17 (by decide) (hts _ (List.mem_cons_of_mem _ fl_X5_askedArea)) (fun _ h9 => h9) rfl dX5_isAsked_15 ?_
  refine vp_callSi (W.runV (As := [.int (nI k), .int (v 3), .int (v 4), .int (v 5), .int (v 6)]) (rest := []) ⟨hx, hb, hml, hown, hts⟩ (m_fits l dC dI cI cZ cJ a v g k (v 3) (v 4) (v 5) (v 6) (by omega)) (cwV 5 hts (gd_V ml_X5_X5_fits im_X5_fits se_X5_fits in_X5 kX5_fits) rfl rfl rfl (by decide +kernel) ⟨Nat.le_of_ble_eq_true rfl, Nat.le_of_ble_eq_true rfl⟩) ⟨fun _ U g mk q => by obtain ⟨q0, qP, qK⟩ := q; exact ⟨q0, qP, va_K.moved (u := U) (U := U.calling g mk _) (Vm.Alike.refl U.vm) qK⟩, va_recv hK hP (ci := 5) (q0 := 0) rfl rfl, fun U hU hW => ⟨rfl, by rw [hU]; exact hP, va_K.moved hW.alike hK⟩⟩ rfl rfl hl.1 rfl (lv_room (Nat.le_of_ble_eq_true rfl)) dX5_isAsked_18 ⟨Nat.zero_le _, Nat.zero_le _⟩) (fun r18 hr18 => ?_)
  subst hr18
  exact W.zret (v := bI (fitB g k (v 3) (v 4) (v 5) (v 6))) hx hb hr (bI_nar _) (fun t ht hW => ⟨_, rfl, rfl, ht⟩) (fun _ h => absurd h List.not_mem_nil) dX5_isAsked_21
set_option maxHeartbeats 4000000 in
set_option maxRecDepth 100000 in
theorem m_hasBoth (l : Launch) (dC : Nat → ClassId) (dI : Nat → Nat → Nat) (cI cZ cJ : ClassId) (a : Nat → Nat) (v : Nat → Int32) (g : Nat → Nat → Int32) (k : Nat) (hk : k < 200) : Met l yX5_hasBoth wsX5_hasBoth ({ frames := 0, cells := 0, slots := 0, locals := 0 }) (va_Pc [.ref (a 0), .int (nI k)] (fun U => va_P (dC, dI) clA (wM cI cZ a v g) U.heap ∧ va_K (dC, dI) clA (tyA cI cZ cJ) U)) (vp_Si (fun r => r = bI (hasB g k))) 0 0 (fun _ => False) := by
  refine Met.ofW (cc := cX5_hasBoth) (maxL := 2) (ret := (some .boolean)) (by decide) rfl ?_
  intro p e s m args below meth c s₁ B hml hv
  obtain ⟨rfl, hP, hK⟩ := hv
  have hx := B.exec
  have hb := B.bytes
  have hr := B.returns
  have hts := atoms_spec (ws := wsX5_hasBoth) B.pre
  have hown : s.vm.findClass RX5 = some m.cls := findClass_of_methodNamed B.named
  have hlocks := B.notSynchronized
  have hl := lv_entry ([.ref (a 0), .int (nI k)]) (n := 2) (Nat.le_of_ble_eq_true rfl)
  rw [lg_entry_eq]
  generalize (lg_sl ([.ref (a 0), .int (nI k)]) ++ List.replicate (2 - (lg_sl ([.ref (a 0), .int (nI k)])).length) Slot.unset).toArray = ls at hl ⊢
  have hl : lv_has ls 2 [(0, .ref (a 0)), (1, .int (nI k))] := hl
  refine lv_aload_n hx hb dX5_hasBoth_0 rfl (lv_at hl 0 rfl) ?_
  refine va_get (D := (dC, dI)) (ci := 5) (v := .ref (a 8)) (C := RX5) (T := TX5) (N := 24) hx hb hts (fun w h => List.mem_cons_of_mem _ (iw_X5 w h)) hown hK hP 0 rfl rfl 9 (by decide) (hts _ (List.mem_cons_of_mem _ fl_X5_turnOut)) (fun _ h9 => h9) rfl dX5_hasBoth_1 ?_
  refine lv_iload_n hx hb dX5_hasBoth_4 rfl (lv_at hl 1 rfl) ?_
  refine wi_ald hx hb hK hP 8 0 rfl rfl (k := k) (by omega) (by decide) dX5_hasBoth_5 ?_
  refine lv_if_lt (tgt := 22) hx hb dX5_hasBoth_6 (by decide) (fun c6 => ?_) (fun c6 => ?_)
  · have n6 := Int32.not_le.mpr c6
    refine lv_iconst (v := 0) hx hb dX5_hasBoth_22 (by decide) ?_
    exact W.zret (v := 0) hx hb hr rfl (fun t ht hW => ⟨_, rfl, (by simp [hasB, bI, c6, n6]), ht⟩) (fun _ h => absurd h List.not_mem_nil) dX5_hasBoth_23
  · have n6 := Int32.not_lt.mp c6
    refine lv_aload_n hx hb dX5_hasBoth_9 rfl (lv_at hl 0 rfl) ?_
    refine va_get (D := (dC, dI)) (ci := 5) (v := .ref (a 9)) (C := RX5) (T := TX5) (N := 24) hx hb hts (fun w h => List.mem_cons_of_mem _ (iw_X5 w h)) hown hK hP 0 rfl rfl 10 (by decide) (hts _ (List.mem_cons_of_mem _ fl_X5_travel)) (fun _ h9 => h9) rfl dX5_hasBoth_10 ?_
    refine lv_iload_n hx hb dX5_hasBoth_13 rfl (lv_at hl 1 rfl) ?_
    refine wi_ald hx hb hK hP 9 0 rfl rfl (k := k) (by omega) (by decide) dX5_hasBoth_14 ?_
    refine lv_if_lt (tgt := 22) hx hb dX5_hasBoth_15 (by decide) (fun c15 => ?_) (fun c15 => ?_)
    · have n15 := Int32.not_le.mpr c15
      refine lv_iconst (v := 0) hx hb dX5_hasBoth_22 (by decide) ?_
      exact W.zret (v := 0) hx hb hr rfl (fun t ht hW => ⟨_, rfl, (by simp [hasB, bI, c6, n6, c15, n15]), ht⟩) (fun _ h => absurd h List.not_mem_nil) dX5_hasBoth_23
    · have n15 := Int32.not_lt.mp c15
      refine lv_iconst (v := 1) hx hb dX5_hasBoth_18 (by decide) ?_
      refine lv_goto (tgt := 23) hx hb dX5_hasBoth_19 (by decide) ?_
      exact W.zret (v := 1) hx hb hr rfl (fun t ht hW => ⟨_, rfl, (by simp [hasB, bI, c6, n6, c15, n15]), ht⟩) (fun _ h => absurd h List.not_mem_nil) dX5_hasBoth_23
set_option maxHeartbeats 4000000 in
set_option maxRecDepth 100000 in
theorem m_markOf (l : Launch) (dC : Nat → ClassId) (dI : Nat → Nat → Nat) (cI cZ cJ : ClassId) (a : Nat → Nat) (v : Nat → Int32) (g : Nat → Nat → Int32) (nd : Nat) (hnd : v 2 = nI nd) (hnd2 : nd ≤ 6) (dy : Int32) : Met l yX5_markOf wsX5_markOf ({ frames := 0, cells := 0, slots := 0, locals := 0 }) (va_Pc [.ref (a 0), .int dy] (fun U => va_P (dC, dI) clA (wM cI cZ a v g) U.heap ∧ va_K (dC, dI) clA (tyA cI cZ cJ) U)) (vp_Si (fun r => r = mkM g nd dy)) 0 0 (fun _ => False) := by
  refine Met.ofW (cc := cX5_markOf) (maxL := 4) (ret := (some .int)) (by decide) rfl ?_
  intro p e s m args below meth c s₁ B hml hv
  obtain ⟨rfl, hP, hK⟩ := hv
  have hx := B.exec
  have hb := B.bytes
  have hr := B.returns
  have hts := atoms_spec (ws := wsX5_markOf) B.pre
  have hown : s.vm.findClass RX5 = some m.cls := findClass_of_methodNamed B.named
  have hlocks := B.notSynchronized
  have hl := lv_entry ([.ref (a 0), .int dy]) (n := 4) (Nat.le_of_ble_eq_true rfl)
  rw [lg_entry_eq]
  generalize (lg_sl ([.ref (a 0), .int dy]) ++ List.replicate (4 - (lg_sl ([.ref (a 0), .int dy])).length) Slot.unset).toArray = ls at hl ⊢
  have hl : lv_has ls 4 [(0, .ref (a 0)), (1, .int dy)] := hl
  refine lv_iconst (v := (-1)) hx hb dX5_markOf_0 (by decide) ?_
  refine lv_istore_n (lv' := [(2, .int (-1)), (0, .ref (a 0)), (1, .int dy)]) hx hb dX5_markOf_1 rfl hl (by decide) rfl (fun ls hl => ?_)
  refine lv_iconst (v := 0) hx hb dX5_markOf_2 (by decide) ?_
  refine lv_istore_n (lv' := [(3, .int 0), (2, .int (-1)), (0, .ref (a 0)), (1, .int dy)]) hx hb dX5_markOf_3 rfl hl (by decide) rfl (fun ls hl => ?_)
  have lp : ∀ (d k : Nat), 0 ≤ k → k ≤ nd → nd + 1 ≤ k + d → ∀ (fo : Int32), fo = fdI g dy k → ∀ (ls : Array Slot), lv_has ls 4 [(3, .int (nI k)), (2, .int fo), (0, .ref (a 0)), (1, .int dy)] → W p l e (headSpec wsX5_markOf ({ frames := 0, cells := 0, slots := 0, locals := 0 })).room s m ([.ref (a 0), .int dy] : List Value).toArray below meth c s.heap [] 0 0 (MQ below (vp_Si (fun r => r = mkM g nd dy)) ([.ref (a 0), .int dy] : List Value).toArray s 0 0 (fun _ => False)) (F0 m 4 ls []) := by
    intro d
    induction d with
    | zero => intro k h0 h1 h2; exact absurd h2 (by omega)
    | succ d ih =>
      intro k hk0 hkn hkd fo ea_fo ls hl
      subst ea_fo
      refine lv_iload_n hx hb dX5_markOf_4 rfl (lv_at hl 0 rfl) ?_
      refine lv_aload_n hx hb dX5_markOf_5 rfl (lv_at hl 2 rfl) ?_
      refine va_get (D := (dC, dI)) (ci := 5) (v := .int (v 2)) (C := RX5) (T := TX5) (N := 24) hx hb hts (fun w h => List.mem_cons_of_mem _ (iw_X5 w h)) hown hK hP 0 rfl rfl 11 (by decide) (hts _ (List.mem_cons_of_mem _ fl_X5_definitions)) (fun _ h9 => h9) rfl dX5_markOf_6 ?_
      refine lv_icmp_ge (tgt := 49) hx hb dX5_markOf_9 (by decide) (fun c9 => ?_) (fun c9 => ?_)
      · have n9 := Int32.not_lt.mpr c9
        rw [hnd] at c9
        have hkn2 : k = nd := Nat.le_antisymm hkn ((nI_leI (by omega) (by omega)).mp c9)
        refine lv_iload_n hx hb dX5_markOf_49 rfl (lv_at hl 1 rfl) ?_
        refine lv_if_ge (tgt := 57) hx hb dX5_markOf_50 (by decide) (fun c50 => ?_) (fun c50 => ?_)
        · have n50 := Int32.not_lt.mpr c50
          refine lv_aload_n hx hb dX5_markOf_57 rfl (lv_at hl 2 rfl) ?_
          refine va_get (D := (dC, dI)) (ci := 5) (v := .ref (a 11)) (C := RX5) (T := TX5) (N := 24) hx hb hts (fun w h => List.mem_cons_of_mem _ (iw_X5 w h)) hown hK hP 0 rfl rfl 13 (by decide) (hts _ (List.mem_cons_of_mem _ fl_X5_mark)) (fun _ h9 => h9) rfl dX5_markOf_58 ?_
          refine lv_iload_n hx hb dX5_markOf_61 rfl (lv_at hl 1 rfl) ?_
          refine va_iald hx hb hK hP 11 0 rfl rfl (fdI_at g dy (by omega) n50) dX5_markOf_62 ?_
          exact W.iret (v := g 10 (fdI g dy k).toNatClampNeg) hx hb hr (fun t ht hW => ⟨_, rfl, (by subst hkn2; simp [mkM, c9, n9, c50, n50]), ht⟩) (fun _ h => absurd h List.not_mem_nil) dX5_markOf_63
        · have n50 := Int32.not_le.mp c50
          refine lv_iconst (v := (-1)) hx hb dX5_markOf_53 (by decide) ?_
          refine lv_goto (tgt := 63) hx hb dX5_markOf_54 (by decide) ?_
          exact W.iret (v := -1) hx hb hr (fun t ht hW => ⟨_, rfl, (by subst hkn2; simp [mkM, c9, n9, c50, n50]), ht⟩) (fun _ h => absurd h List.not_mem_nil) dX5_markOf_63
      · have n9 := Int32.not_le.mp c9
        rw [hnd] at c9
        have hk : k < nd := Nat.lt_of_not_le (fun h => c9 (nI_le h (by omega)))
        refine lv_aload_n hx hb dX5_markOf_12 rfl (lv_at hl 2 rfl) ?_
        refine va_get (D := (dC, dI)) (ci := 5) (v := .ref (a 10)) (C := RX5) (T := TX5) (N := 24) hx hb hts (fun w h => List.mem_cons_of_mem _ (iw_X5 w h)) hown hK hP 0 rfl rfl 12 (by decide) (hts _ (List.mem_cons_of_mem _ fl_X5_since)) (fun _ h9 => h9) rfl dX5_markOf_13 ?_
        refine lv_iload_n hx hb dX5_markOf_16 rfl (lv_at hl 0 rfl) ?_
        refine wi_ald hx hb hK hP 10 0 rfl rfl (k := k) (by omega) (by decide) dX5_markOf_17 ?_
        refine lv_iload_n hx hb dX5_markOf_18 rfl (lv_at hl 3 rfl) ?_
        refine lv_icmp_gt (tgt := 43) hx hb dX5_markOf_19 (by decide) (fun c19 => ?_) (fun c19 => ?_)
        · have n19 := Int32.not_le.mpr c19
          refine lv_iinc (v := nI (k + 1)) (lv' := [(3, .int (nI (k + 1))), (2, .int (fdI g dy k)), (0, .ref (a 0)), (1, .int dy)]) hx hb dX5_markOf_43 hl (k := 0) rfl (nI_1 k) (by decide) rfl (fun ls hl => ?_)
          refine lv_goto (tgt := 4) hx hb dX5_markOf_46 (by decide) ?_
          exact ih (k + 1) (by omega) (by omega) (by omega) _ (by simp [fdI, c9, n9, c19, n19]) ls (lv_sub hl [0, 1, 2, 3] rfl)
        · have n19 := Int32.not_lt.mp c19
          refine lv_iload_n hx hb dX5_markOf_22 rfl (lv_at hl 1 rfl) ?_
          refine lv_if_lt (tgt := 41) hx hb dX5_markOf_23 (by decide) (fun c23 => ?_) (fun c23 => ?_)
          · have n23 := Int32.not_le.mpr c23
            refine lv_iload_n hx hb dX5_markOf_41 rfl (lv_at hl 0 rfl) ?_
            refine lv_istore_n (lv' := [(2, .int (nI k)), (3, .int (nI k)), (0, .ref (a 0)), (1, .int dy)]) hx hb dX5_markOf_42 rfl hl (by decide) rfl (fun ls hl => ?_)
            refine lv_iinc (v := nI (k + 1)) (lv' := [(3, .int (nI (k + 1))), (2, .int (nI k)), (0, .ref (a 0)), (1, .int dy)]) hx hb dX5_markOf_43 hl (k := 1) rfl (nI_1 k) (by decide) rfl (fun ls hl => ?_)
            refine lv_goto (tgt := 4) hx hb dX5_markOf_46 (by decide) ?_
            exact ih (k + 1) (by omega) (by omega) (by omega) _ (by simp [fdI, c9, n9, c19, n19, c23, n23]) ls (lv_sub hl [0, 1, 2, 3] rfl)
          · have n23 := Int32.not_lt.mp c23
            refine lv_aload_n hx hb dX5_markOf_26 rfl (lv_at hl 2 rfl) ?_
            refine va_get (D := (dC, dI)) (ci := 5) (v := .ref (a 10)) (C := RX5) (T := TX5) (N := 24) hx hb hts (fun w h => List.mem_cons_of_mem _ (iw_X5 w h)) hown hK hP 0 rfl rfl 12 (by decide) (hts _ (List.mem_cons_of_mem _ fl_X5_since)) (fun _ h9 => h9) rfl dX5_markOf_27 ?_
            refine lv_iload_n hx hb dX5_markOf_30 rfl (lv_at hl 0 rfl) ?_
            refine wi_ald hx hb hK hP 10 0 rfl rfl (k := k) (by omega) (by decide) dX5_markOf_31 ?_
            refine lv_aload_n hx hb dX5_markOf_32 rfl (lv_at hl 2 rfl) ?_
            refine va_get (D := (dC, dI)) (ci := 5) (v := .ref (a 10)) (C := RX5) (T := TX5) (N := 24) hx hb hts (fun w h => List.mem_cons_of_mem _ (iw_X5 w h)) hown hK hP 0 rfl rfl 12 (by decide) (hts _ (List.mem_cons_of_mem _ fl_X5_since)) (fun _ h9 => h9) rfl dX5_markOf_33 ?_
            refine lv_iload_n hx hb dX5_markOf_36 rfl (lv_at hl 1 rfl) ?_
            refine va_iald hx hb hK hP 10 0 rfl rfl (fdI_at g dy (by omega) c23) dX5_markOf_37 ?_
            refine lv_icmp_lt (tgt := 43) hx hb dX5_markOf_38 (by decide) (fun c38 => ?_) (fun c38 => ?_)
            · have n38 := Int32.not_le.mpr c38
              refine lv_iinc (v := nI (k + 1)) (lv' := [(3, .int (nI (k + 1))), (2, .int (fdI g dy k)), (0, .ref (a 0)), (1, .int dy)]) hx hb dX5_markOf_43 hl (k := 0) rfl (nI_1 k) (by decide) rfl (fun ls hl => ?_)
              refine lv_goto (tgt := 4) hx hb dX5_markOf_46 (by decide) ?_
              exact ih (k + 1) (by omega) (by omega) (by omega) _ (by simp [fdI, c9, n9, c19, n19, c23, n23, c38, n38]) ls (lv_sub hl [0, 1, 2, 3] rfl)
            · have n38 := Int32.not_lt.mp c38
              refine lv_iload_n hx hb dX5_markOf_41 rfl (lv_at hl 0 rfl) ?_
              refine lv_istore_n (lv' := [(2, .int (nI k)), (3, .int (nI k)), (0, .ref (a 0)), (1, .int dy)]) hx hb dX5_markOf_42 rfl hl (by decide) rfl (fun ls hl => ?_)
              refine lv_iinc (v := nI (k + 1)) (lv' := [(3, .int (nI (k + 1))), (2, .int (nI k)), (0, .ref (a 0)), (1, .int dy)]) hx hb dX5_markOf_43 hl (k := 1) rfl (nI_1 k) (by decide) rfl (fun ls hl => ?_)
              refine lv_goto (tgt := 4) hx hb dX5_markOf_46 (by decide) ?_
              exact ih (k + 1) (by omega) (by omega) (by omega) _ (by simp [fdI, c9, n9, c19, n19, c23, n23, c38, n38]) ls (lv_sub hl [0, 1, 2, 3] rfl)
  exact lp (nd + 1) 0 (by omega) (by omega) (by omega) _ (rfl) ls (lv_sub hl [0, 1, 2, 3] rfl)
set_option maxHeartbeats 4000000 in
set_option maxRecDepth 100000 in
theorem m_isWithout (l : Launch) (dC : Nat → ClassId) (dI : Nat → Nat → Nat) (cI cZ cJ : ClassId) (a : Nat → Nat) (v : Nat → Int32) (g : Nat → Nat → Int32) (nd : Nat) (hnd : v 2 = nI nd) (hnd2 : nd ≤ 6) (k : Nat) (hk : k < 200) : Met l yX5_isWithout wsX5_isWithout ({ frames := 1, cells := 0, slots := 0, locals := 23 }) (va_Pc [.ref (a 0), .int (nI k)] (fun U => va_P (dC, dI) clA (wM cI cZ a v g) U.heap ∧ va_K (dC, dI) clA (tyA cI cZ cJ) U)) (vp_Si (fun r => r = bI (woM g nd k))) 0 0 (fun _ => False) := by
  refine Met.ofW (cc := cX5_isWithout) (maxL := 2) (ret := (some .boolean)) (by decide) rfl ?_
  intro p e s m args below meth c s₁ B hml hv
  obtain ⟨rfl, hP, hK⟩ := hv
  have hx := B.exec
  have hb := B.bytes
  have hr := B.returns
  have hts := atoms_spec (ws := wsX5_isWithout) B.pre
  have hown : s.vm.findClass RX5 = some m.cls := findClass_of_methodNamed B.named
  have hlocks := B.notSynchronized
  have hl := lv_entry ([.ref (a 0), .int (nI k)]) (n := 2) (Nat.le_of_ble_eq_true rfl)
  rw [lg_entry_eq]
  generalize (lg_sl ([.ref (a 0), .int (nI k)]) ++ List.replicate (2 - (lg_sl ([.ref (a 0), .int (nI k)])).length) Slot.unset).toArray = ls at hl ⊢
  have hl : lv_has ls 2 [(0, .ref (a 0)), (1, .int (nI k))] := hl
  refine lv_aload_n hx hb dX5_isWithout_0 rfl (lv_at hl 0 rfl) ?_
  refine lv_iload_n hx hb dX5_isWithout_1 rfl (lv_at hl 1 rfl) ?_
  refine vp_callSi (W.runV (As := [.int (nI k)]) (rest := []) ⟨hx, hb, hml, hown, hts⟩ (m_hasBoth l dC dI cI cZ cJ a v g k (by omega)) (cwV 1 hts (gd_V ml_X5_X5_hasBoth im_X5_hasBoth se_X5_hasBoth in_X5 kX5_hasBoth) rfl rfl rfl (by decide +kernel) ⟨Nat.le_of_ble_eq_true rfl, Nat.le_of_ble_eq_true rfl⟩) ⟨fun _ U g mk q => by obtain ⟨q0, qP, qK⟩ := q; exact ⟨q0, qP, va_K.moved (u := U) (U := U.calling g mk _) (Vm.Alike.refl U.vm) qK⟩, va_recv hK hP (ci := 5) (q0 := 0) rfl rfl, fun U hU hW => ⟨rfl, by rw [hU]; exact hP, va_K.moved hW.alike hK⟩⟩ rfl rfl hl.1 rfl (lv_room (Nat.le_of_ble_eq_true rfl)) dX5_isWithout_2 ⟨Nat.zero_le _, Nat.zero_le _⟩) (fun r2 hr2 => ?_)
  subst hr2
  refine lv_if_eq (tgt := 21) hx hb dX5_isWithout_5 (by decide) (fun c5 => ?_) (fun c5 => ?_)
  · have c5 := bI_0.mp c5
    refine lv_iconst (v := 1) hx hb dX5_isWithout_21 (by decide) ?_
    refine lv_goto (tgt := 26) hx hb dX5_isWithout_22 (by decide) ?_
    exact W.zret (v := 1) hx hb hr rfl (fun t ht hW => ⟨_, rfl, (by simp [woM, bI, c5]), ht⟩) (fun _ h => absurd h List.not_mem_nil) dX5_isWithout_26
  · have c5 := bI_n0.mp c5
    refine lv_aload_n hx hb dX5_isWithout_8 rfl (lv_at hl 0 rfl) ?_
    refine lv_aload_n hx hb dX5_isWithout_9 rfl (lv_at hl 0 rfl) ?_
    refine va_get (D := (dC, dI)) (ci := 5) (v := .ref (a 1)) (C := RX5) (T := TX5) (N := 24) hx hb hts (fun w h => List.mem_cons_of_mem _ (iw_X5 w h)) hown hK hP 0 rfl rfl 2 (by decide) (hts _ (List.mem_cons_of_mem _ fl_X5_day)) (fun _ h9 => h9) rfl dX5_isWithout_10 ?_
    refine lv_iload_n hx hb dX5_isWithout_13 rfl (lv_at hl 1 rfl) ?_
    refine wi_ald hx hb hK hP 1 0 rfl rfl (k := k) (by omega) (by decide) dX5_isWithout_14 ?_
    refine vp_callSi (W.runV (As := [.int (g 0 k)]) (rest := []) ⟨hx, hb, hml, hown, hts⟩ (m_markOf l dC dI cI cZ cJ a v g nd hnd hnd2 (g 0 k)) (cwV 1 hts (gd_V ml_X5_X5_markOf im_X5_markOf se_X5_markOf in_X5 kX5_markOf) rfl rfl rfl (by decide +kernel) ⟨Nat.le_of_ble_eq_true rfl, Nat.le_of_ble_eq_true rfl⟩) ⟨fun _ U g mk q => by obtain ⟨q0, qP, qK⟩ := q; exact ⟨q0, qP, va_K.moved (u := U) (U := U.calling g mk _) (Vm.Alike.refl U.vm) qK⟩, va_recv hK hP (ci := 5) (q0 := 0) rfl rfl, fun U hU hW => ⟨rfl, by rw [hU]; exact hP, va_K.moved hW.alike hK⟩⟩ rfl rfl hl.1 rfl (lv_room (Nat.le_of_ble_eq_true rfl)) dX5_isWithout_15 ⟨Nat.zero_le _, Nat.zero_le _⟩) (fun r15 hr15 => ?_)
    subst hr15
    refine lv_if_ge (tgt := 25) hx hb dX5_isWithout_18 (by decide) (fun c18 => ?_) (fun c18 => ?_)
    · have n18 := Int32.not_lt.mpr c18
      refine lv_iconst (v := 0) hx hb dX5_isWithout_25 (by decide) ?_
      exact W.zret (v := 0) hx hb hr rfl (fun t ht hW => ⟨_, rfl, (by simp [woM, bI, c5, c18, n18]), ht⟩) (fun _ h => absurd h List.not_mem_nil) dX5_isWithout_26
    · have n18 := Int32.not_le.mp c18
      refine lv_iconst (v := 1) hx hb dX5_isWithout_21 (by decide) ?_
      refine lv_goto (tgt := 26) hx hb dX5_isWithout_22 (by decide) ?_
      exact W.zret (v := 1) hx hb hr rfl (fun t ht hW => ⟨_, rfl, (by simp [woM, bI, c5, c18, n18]), ht⟩) (fun _ h => absurd h List.not_mem_nil) dX5_isWithout_26
set_option maxHeartbeats 4000000 in
set_option maxRecDepth 100000 in
theorem m_isWithin (l : Launch) (dC : Nat → ClassId) (dI : Nat → Nat → Nat) (cI cZ cJ : ClassId) (a : Nat → Nat) (v : Nat → Int32) (g : Nat → Nat → Int32) (nd : Nat) (hnd : v 2 = nI nd) (hnd2 : nd ≤ 6) (k : Nat) (hk : k < 200) : Met l yX5_isWithin wsX5_isWithin ({ frames := 2, cells := 0, slots := 0, locals := 44 }) (va_Pc [.ref (a 0), .int (nI k)] (fun U => va_P (dC, dI) clA (wM cI cZ a v g) U.heap ∧ va_K (dC, dI) clA (tyA cI cZ cJ) U)) (vp_Si (fun r => r = bI (wiM g nd k))) 0 0 (fun _ => False) := by
  refine Met.ofW (cc := cX5_isWithin) (maxL := 2) (ret := (some .boolean)) (by decide) rfl ?_
  intro p e s m args below meth c s₁ B hml hv
  obtain ⟨rfl, hP, hK⟩ := hv
  have hx := B.exec
  have hb := B.bytes
  have hr := B.returns
  have hts := atoms_spec (ws := wsX5_isWithin) B.pre
  have hown : s.vm.findClass RX5 = some m.cls := findClass_of_methodNamed B.named
  have hlocks := B.notSynchronized
  have hl := lv_entry ([.ref (a 0), .int (nI k)]) (n := 2) (Nat.le_of_ble_eq_true rfl)
  rw [lg_entry_eq]
  generalize (lg_sl ([.ref (a 0), .int (nI k)]) ++ List.replicate (2 - (lg_sl ([.ref (a 0), .int (nI k)])).length) Slot.unset).toArray = ls at hl ⊢
  have hl : lv_has ls 2 [(0, .ref (a 0)), (1, .int (nI k))] := hl
  refine lv_aload_n hx hb dX5_isWithin_0 rfl (lv_at hl 0 rfl) ?_
  refine lv_iload_n hx hb dX5_isWithin_1 rfl (lv_at hl 1 rfl) ?_
  refine vp_callSi (W.runV (As := [.int (nI k)]) (rest := []) ⟨hx, hb, hml, hown, hts⟩ (m_isWithout l dC dI cI cZ cJ a v g nd hnd hnd2 k (by omega)) (cwV 1 hts (gd_V ml_X5_X5_isWithout im_X5_isWithout se_X5_isWithout in_X5 kX5_isWithout) rfl rfl rfl (by decide +kernel) ⟨Nat.le_of_ble_eq_true rfl, Nat.le_of_ble_eq_true rfl⟩) ⟨fun _ U g mk q => by obtain ⟨q0, qP, qK⟩ := q; exact ⟨q0, qP, va_K.moved (u := U) (U := U.calling g mk _) (Vm.Alike.refl U.vm) qK⟩, va_recv hK hP (ci := 5) (q0 := 0) rfl rfl, fun U hU hW => ⟨rfl, by rw [hU]; exact hP, va_K.moved hW.alike hK⟩⟩ rfl rfl hl.1 rfl (lv_room (Nat.le_of_ble_eq_true rfl)) dX5_isWithin_2 ⟨Nat.zero_le _, Nat.zero_le _⟩) (fun r2 hr2 => ?_)
  subst hr2
  refine lv_if_ne (tgt := 38) hx hb dX5_isWithin_5 (by decide) (fun c5 => ?_) (fun c5 => ?_)
  · have c5 := bI_n0.mp c5
    refine lv_iconst (v := 0) hx hb dX5_isWithin_38 (by decide) ?_
    exact W.zret (v := 0) hx hb hr rfl (fun t ht hW => ⟨_, rfl, (by simp [wiM, bI, c5]), ht⟩) (fun _ h => absurd h List.not_mem_nil) dX5_isWithin_39
  · have c5 := bI_0.mp c5
    refine lv_aload_n hx hb dX5_isWithin_8 rfl (lv_at hl 0 rfl) ?_
    refine va_get (D := (dC, dI)) (ci := 5) (v := .ref (a 8)) (C := RX5) (T := TX5) (N := 24) hx hb hts (fun w h => List.mem_cons_of_mem _ (iw_X5 w h)) hown hK hP 0 rfl rfl 9 (by decide) (hts _ (List.mem_cons_of_mem _ fl_X5_turnOut)) (fun _ h9 => h9) rfl dX5_isWithin_9 ?_
    refine lv_iload_n hx hb dX5_isWithin_12 rfl (lv_at hl 1 rfl) ?_
    refine wi_ald hx hb hK hP 8 0 rfl rfl (k := k) (by omega) (by decide) dX5_isWithin_13 ?_
    refine lv_aload_n hx hb dX5_isWithin_14 rfl (lv_at hl 0 rfl) ?_
    refine va_get (D := (dC, dI)) (ci := 5) (v := .ref (a 9)) (C := RX5) (T := TX5) (N := 24) hx hb hts (fun w h => List.mem_cons_of_mem _ (iw_X5 w h)) hown hK hP 0 rfl rfl 10 (by decide) (hts _ (List.mem_cons_of_mem _ fl_X5_travel)) (fun _ h9 => h9) rfl dX5_isWithin_15 ?_
    refine lv_iload_n hx hb dX5_isWithin_18 rfl (lv_at hl 1 rfl) ?_
    refine wi_ald hx hb hK hP 9 0 rfl rfl (k := k) (by omega) (by decide) dX5_isWithin_19 ?_
    refine lv_iadd hx hb dX5_isWithin_20 ?_
    refine lv_aload_n hx hb dX5_isWithin_21 rfl (lv_at hl 0 rfl) ?_
    refine lv_aload_n hx hb dX5_isWithin_22 rfl (lv_at hl 0 rfl) ?_
    refine va_get (D := (dC, dI)) (ci := 5) (v := .ref (a 1)) (C := RX5) (T := TX5) (N := 24) hx hb hts (fun w h => List.mem_cons_of_mem _ (iw_X5 w h)) hown hK hP 0 rfl rfl 2 (by decide) (hts _ (List.mem_cons_of_mem _ fl_X5_day)) (fun _ h9 => h9) rfl dX5_isWithin_23 ?_
    refine lv_iload_n hx hb dX5_isWithin_26 rfl (lv_at hl 1 rfl) ?_
    refine wi_ald hx hb hK hP 1 0 rfl rfl (k := k) (by omega) (by decide) dX5_isWithin_27 ?_
    refine vp_callSi (W.runV (As := [.int (g 0 k)]) (rest := [.int ((g 7 k) + (g 8 k))]) ⟨hx, hb, hml, hown, hts⟩ (m_markOf l dC dI cI cZ cJ a v g nd hnd hnd2 (g 0 k)) (cwV 1 hts (gd_V ml_X5_X5_markOf im_X5_markOf se_X5_markOf in_X5 kX5_markOf) rfl rfl rfl (by decide +kernel) ⟨Nat.le_of_ble_eq_true rfl, Nat.le_of_ble_eq_true rfl⟩) ⟨fun _ U g mk q => by obtain ⟨q0, qP, qK⟩ := q; exact ⟨q0, qP, va_K.moved (u := U) (U := U.calling g mk _) (Vm.Alike.refl U.vm) qK⟩, va_recv hK hP (ci := 5) (q0 := 0) rfl rfl, fun U hU hW => ⟨rfl, by rw [hU]; exact hP, va_K.moved hW.alike hK⟩⟩ rfl rfl hl.1 rfl (lv_room (Nat.le_of_ble_eq_true rfl)) dX5_isWithin_28 ⟨Nat.zero_le _, Nat.zero_le _⟩) (fun r28 hr28 => ?_)
    subst hr28
    refine lv_icmp_gt (tgt := 38) hx hb dX5_isWithin_31 (by decide) (fun c31 => ?_) (fun c31 => ?_)
    · have n31 := Int32.not_le.mpr c31
      refine lv_iconst (v := 0) hx hb dX5_isWithin_38 (by decide) ?_
      exact W.zret (v := 0) hx hb hr rfl (fun t ht hW => ⟨_, rfl, (by simp [wiM, bI, c5, c31, n31]), ht⟩) (fun _ h => absurd h List.not_mem_nil) dX5_isWithin_39
    · have n31 := Int32.not_lt.mp c31
      refine lv_iconst (v := 1) hx hb dX5_isWithin_34 (by decide) ?_
      refine lv_goto (tgt := 39) hx hb dX5_isWithin_35 (by decide) ?_
      exact W.zret (v := 1) hx hb hr rfl (fun t ht hW => ⟨_, rfl, (by simp [wiM, bI, c5, c31, n31]), ht⟩) (fun _ h => absurd h List.not_mem_nil) dX5_isWithin_39
set_option maxHeartbeats 4000000 in
set_option maxRecDepth 100000 in
theorem m_sharesOf (l : Launch) (dC : Nat → ClassId) (dI : Nat → Nat → Nat) (cI cZ cJ : ClassId) (a : Nat → Nat) (v : Nat → Int32) (g : Nat → Nat → Int32) (n : Nat) (hn : v 1 = nI n) (hn2 : n ≤ 200) (nd : Nat) (hnd : v 2 = nI nd) (hnd2 : nd ≤ 6) (f t w : Int32) : Met l yX5_sharesOf wsX5_sharesOf ({ frames := 3, cells := 0, slots := 0, locals := 65 }) (va_Pc [.ref (a 0), .int f, .int t, .int w] (fun U => va_P (dC, dI) clA (wM cI cZ a v g) U.heap ∧ va_K (dC, dI) clA (tyA cI cZ cJ) U)) (vp_Si (fun r => r = cnt (fun i => shM g nd f t (v 5) (v 6) w i) n)) 0 0 (fun _ => False) := by
  refine Met.ofW (cc := cX5_sharesOf) (maxL := 6) (ret := (some .int)) (by decide) rfl ?_
  intro p e s m args below meth c s₁ B hml hv
  obtain ⟨rfl, hP, hK⟩ := hv
  have hx := B.exec
  have hb := B.bytes
  have hr := B.returns
  have hts := atoms_spec (ws := wsX5_sharesOf) B.pre
  have hown : s.vm.findClass RX5 = some m.cls := findClass_of_methodNamed B.named
  have hlocks := B.notSynchronized
  have hl := lv_entry ([.ref (a 0), .int f, .int t, .int w]) (n := 6) (Nat.le_of_ble_eq_true rfl)
  rw [lg_entry_eq]
  generalize (lg_sl ([.ref (a 0), .int f, .int t, .int w]) ++ List.replicate (6 - (lg_sl ([.ref (a 0), .int f, .int t, .int w])).length) Slot.unset).toArray = ls at hl ⊢
  have hl : lv_has ls 6 [(0, .ref (a 0)), (1, .int f), (2, .int t), (3, .int w)] := hl
  refine lv_iconst (v := 0) hx hb dX5_sharesOf_0 (by decide) ?_
  refine lv_istore (lv' := [(4, .int 0), (0, .ref (a 0)), (1, .int f), (2, .int t), (3, .int w)]) hx hb dX5_sharesOf_1 hl (by decide) rfl (fun ls hl => ?_)
  refine lv_iconst (v := 0) hx hb dX5_sharesOf_3 (by decide) ?_
  refine lv_istore (lv' := [(5, .int 0), (4, .int 0), (0, .ref (a 0)), (1, .int f), (2, .int t), (3, .int w)]) hx hb dX5_sharesOf_4 hl (by decide) rfl (fun ls hl => ?_)
  have lp : ∀ (d k : Nat), 0 ≤ k → k ≤ n → n + 1 ≤ k + d → ∀ (acc : Int32), acc = cnt (fun i => shM g nd f t (v 5) (v 6) w i) k → ∀ (ls : Array Slot), lv_has ls 6 [(5, .int (nI k)), (4, .int acc), (0, .ref (a 0)), (1, .int f), (2, .int t), (3, .int w)] → W p l e (headSpec wsX5_sharesOf ({ frames := 3, cells := 0, slots := 0, locals := 65 })).room s m ([.ref (a 0), .int f, .int t, .int w] : List Value).toArray below meth c s.heap [] 0 0 (MQ below (vp_Si (fun r => r = cnt (fun i => shM g nd f t (v 5) (v 6) w i) n)) ([.ref (a 0), .int f, .int t, .int w] : List Value).toArray s 0 0 (fun _ => False)) (F0 m 6 ls []) := by
    intro d
    induction d with
    | zero => intro k h0 h1 h2; exact absurd h2 (by omega)
    | succ d ih =>
      intro k hk0 hkn hkd acc ea_acc ls hl
      subst ea_acc
      refine lv_iload hx hb dX5_sharesOf_6 (lv_at hl 0 rfl) ?_
      refine lv_aload_n hx hb dX5_sharesOf_8 rfl (lv_at hl 2 rfl) ?_
      refine va_get (D := (dC, dI)) (ci := 5) (v := .int (v 1)) (C := RX5) (T := TX5) (N := 24) hx hb hts (fun w h => List.mem_cons_of_mem _ (iw_X5 w h)) hown hK hP 0 rfl rfl 1 (by decide) (hts _ (List.mem_cons_of_mem _ fl_X5_rows)) (fun _ h9 => h9) rfl dX5_sharesOf_9 ?_
      refine lv_icmp_ge (tgt := 75) hx hb dX5_sharesOf_12 (by decide) (fun c12 => ?_) (fun c12 => ?_)
      · have n12 := Int32.not_lt.mpr c12
        rw [hn] at c12
        have hkn2 : k = n := Nat.le_antisymm hkn ((nI_leI (by omega) (by omega)).mp c12)
        refine lv_iload hx hb dX5_sharesOf_75 (lv_at hl 1 rfl) ?_
        exact W.iret (v := cnt (fun i => shM g nd f t (v 5) (v 6) w i) k) hx hb hr (fun t ht hW => ⟨_, rfl, (by subst hkn2; rfl), ht⟩) (fun _ h => absurd h List.not_mem_nil) dX5_sharesOf_77
      · have n12 := Int32.not_le.mp c12
        rw [hn] at c12
        have hk : k < n := Nat.lt_of_not_le (fun h => c12 (nI_le h (by omega)))
        refine lv_aload_n hx hb dX5_sharesOf_15 rfl (lv_at hl 2 rfl) ?_
        refine lv_iload hx hb dX5_sharesOf_16 (lv_at hl 0 rfl) ?_
        refine lv_iload_n hx hb dX5_sharesOf_18 rfl (lv_at hl 3 rfl) ?_
        refine lv_iload_n hx hb dX5_sharesOf_19 rfl (lv_at hl 4 rfl) ?_
        refine lv_aload_n hx hb dX5_sharesOf_20 rfl (lv_at hl 2 rfl) ?_
        refine va_get (D := (dC, dI)) (ci := 5) (v := .int (v 5)) (C := RX5) (T := TX5) (N := 24) hx hb hts (fun w h => List.mem_cons_of_mem _ (iw_X5 w h)) hown hK hP 0 rfl rfl 16 (by decide) (hts _ (List.mem_cons_of_mem _ fl_X5_askedKind)) (fun _ h9 => h9) rfl dX5_sharesOf_21 ?_
        refine lv_aload_n hx hb dX5_sharesOf_24 rfl (lv_at hl 2 rfl) ?_
        refine va_get (D := (dC, dI)) (ci := 5) (v := .int (v 6)) (C := RX5) (T := TX5) (N := 24) hx hb hts (fun w h => List.mem_cons_of_mem _ (iw_X5 w h)) hown hK hP 0 rfl rfl 17 (by decide) (hts _ (List.mem_cons_of_mem _ fl_X5_askedArea)) (fun _ h9 => h9) rfl dX5_sharesOf_25 ?_
        refine vp_callSi (W.runV (As := [.int (nI k), .int f, .int t, .int (v 5), .int (v 6)]) (rest := []) ⟨hx, hb, hml, hown, hts⟩ (m_fits l dC dI cI cZ cJ a v g k f t (v 5) (v 6) (by omega)) (cwV 5 hts (gd_V ml_X5_X5_fits im_X5_fits se_X5_fits in_X5 kX5_fits) rfl rfl rfl (by decide +kernel) ⟨Nat.le_of_ble_eq_true rfl, Nat.le_of_ble_eq_true rfl⟩) ⟨fun _ U g mk q => by obtain ⟨q0, qP, qK⟩ := q; exact ⟨q0, qP, va_K.moved (u := U) (U := U.calling g mk _) (Vm.Alike.refl U.vm) qK⟩, va_recv hK hP (ci := 5) (q0 := 0) rfl rfl, fun U hU hW => ⟨rfl, by rw [hU]; exact hP, va_K.moved hW.alike hK⟩⟩ rfl rfl hl.1 rfl (lv_room (Nat.le_of_ble_eq_true rfl)) dX5_sharesOf_28 ⟨Nat.zero_le _, Nat.zero_le _⟩) (fun r28 hr28 => ?_)
        subst hr28
        refine lv_if_eq (tgt := 69) hx hb dX5_sharesOf_31 (by decide) (fun c31 => ?_) (fun c31 => ?_)
        · have c31 := bI_0.mp c31
          refine lv_iinc (v := nI (k + 1)) (lv' := [(5, .int (nI (k + 1))), (4, .int (cnt (fun i => shM g nd f t (v 5) (v 6) w i) k)), (0, .ref (a 0)), (1, .int f), (2, .int t), (3, .int w)]) hx hb dX5_sharesOf_69 hl (k := 0) rfl (nI_1 k) (by decide) rfl (fun ls hl => ?_)
          refine lv_goto (tgt := 6) hx hb dX5_sharesOf_72 (by decide) ?_
          exact ih (k + 1) (by omega) (by omega) (by omega) _ (by simp [cnt_s, shM, bI, c12, n12, c31]) ls (lv_sub hl [0, 1, 2, 3, 4, 5] rfl)
        · have c31 := bI_n0.mp c31
          refine lv_iload hx hb dX5_sharesOf_34 (lv_at hl 1 rfl) ?_
          refine lv_iload_n hx hb dX5_sharesOf_36 rfl (lv_at hl 5 rfl) ?_
          refine lv_if_ne (tgt := 52) hx hb dX5_sharesOf_37 (by decide) (fun c37 => ?_) (fun c37 => ?_)
          · refine lv_aload_n hx hb dX5_sharesOf_52 rfl (lv_at hl 2 rfl) ?_
            refine lv_iload hx hb dX5_sharesOf_53 (lv_at hl 0 rfl) ?_
            refine vp_callSi (W.runV (As := [.int (nI k)]) (rest := [.int (cnt (fun i => shM g nd f t (v 5) (v 6) w i) k)]) ⟨hx, hb, hml, hown, hts⟩ (m_isWithout l dC dI cI cZ cJ a v g nd hnd hnd2 k (by omega)) (cwV 1 hts (gd_V ml_X5_X5_isWithout im_X5_isWithout se_X5_isWithout in_X5 kX5_isWithout) rfl rfl rfl (by decide +kernel) ⟨Nat.le_of_ble_eq_true rfl, Nat.le_of_ble_eq_true rfl⟩) ⟨fun _ U g mk q => by obtain ⟨q0, qP, qK⟩ := q; exact ⟨q0, qP, va_K.moved (u := U) (U := U.calling g mk _) (Vm.Alike.refl U.vm) qK⟩, va_recv hK hP (ci := 5) (q0 := 0) rfl rfl, fun U hU hW => ⟨rfl, by rw [hU]; exact hP, va_K.moved hW.alike hK⟩⟩ rfl rfl hl.1 rfl (lv_room (Nat.le_of_ble_eq_true rfl)) dX5_sharesOf_55 ⟨Nat.zero_le _, Nat.zero_le _⟩) (fun r55 hr55 => ?_)
            subst hr55
            refine lv_if_ne (tgt := 65) hx hb dX5_sharesOf_58 (by decide) (fun c58 => ?_) (fun c58 => ?_)
            · have c58 := bI_n0.mp c58
              refine lv_iconst (v := 0) hx hb dX5_sharesOf_65 (by decide) ?_
              refine lv_iadd hx hb dX5_sharesOf_66 ?_
              refine lv_istore (lv' := [(4, .int ((cnt (fun i => shM g nd f t (v 5) (v 6) w i) k) + 0)), (5, .int (nI k)), (0, .ref (a 0)), (1, .int f), (2, .int t), (3, .int w)]) hx hb dX5_sharesOf_67 hl (by decide) rfl (fun ls hl => ?_)
              refine lv_iinc (v := nI (k + 1)) (lv' := [(5, .int (nI (k + 1))), (4, .int ((cnt (fun i => shM g nd f t (v 5) (v 6) w i) k) + 0)), (0, .ref (a 0)), (1, .int f), (2, .int t), (3, .int w)]) hx hb dX5_sharesOf_69 hl (k := 1) rfl (nI_1 k) (by decide) rfl (fun ls hl => ?_)
              refine lv_goto (tgt := 6) hx hb dX5_sharesOf_72 (by decide) ?_
              exact ih (k + 1) (by omega) (by omega) (by omega) _ (by simp [cnt_s, shM, bI, c12, n12, c31, c37, c58]) ls (lv_sub hl [0, 1, 2, 3, 4, 5] rfl)
            · have c58 := bI_0.mp c58
              refine lv_iconst (v := 1) hx hb dX5_sharesOf_61 (by decide) ?_
              refine lv_goto (tgt := 66) hx hb dX5_sharesOf_62 (by decide) ?_
              refine lv_iadd hx hb dX5_sharesOf_66 ?_
              refine lv_istore (lv' := [(4, .int ((cnt (fun i => shM g nd f t (v 5) (v 6) w i) k) + 1)), (5, .int (nI k)), (0, .ref (a 0)), (1, .int f), (2, .int t), (3, .int w)]) hx hb dX5_sharesOf_67 hl (by decide) rfl (fun ls hl => ?_)
              refine lv_iinc (v := nI (k + 1)) (lv' := [(5, .int (nI (k + 1))), (4, .int ((cnt (fun i => shM g nd f t (v 5) (v 6) w i) k) + 1)), (0, .ref (a 0)), (1, .int f), (2, .int t), (3, .int w)]) hx hb dX5_sharesOf_69 hl (k := 1) rfl (nI_1 k) (by decide) rfl (fun ls hl => ?_)
              refine lv_goto (tgt := 6) hx hb dX5_sharesOf_72 (by decide) ?_
              exact ih (k + 1) (by omega) (by omega) (by omega) _ (by simp [cnt_s, shM, bI, c12, n12, c31, c37, c58]) ls (lv_sub hl [0, 1, 2, 3, 4, 5] rfl)
          · refine lv_aload_n hx hb dX5_sharesOf_40 rfl (lv_at hl 2 rfl) ?_
            refine lv_iload hx hb dX5_sharesOf_41 (lv_at hl 0 rfl) ?_
            refine vp_callSi (W.runV (As := [.int (nI k)]) (rest := [.int (cnt (fun i => shM g nd f t (v 5) (v 6) w i) k)]) ⟨hx, hb, hml, hown, hts⟩ (m_isWithin l dC dI cI cZ cJ a v g nd hnd hnd2 k (by omega)) (cwV 1 hts (gd_V ml_X5_X5_isWithin im_X5_isWithin se_X5_isWithin in_X5 kX5_isWithin) rfl rfl rfl (by decide +kernel) ⟨Nat.le_of_ble_eq_true rfl, Nat.le_of_ble_eq_true rfl⟩) ⟨fun _ U g mk q => by obtain ⟨q0, qP, qK⟩ := q; exact ⟨q0, qP, va_K.moved (u := U) (U := U.calling g mk _) (Vm.Alike.refl U.vm) qK⟩, va_recv hK hP (ci := 5) (q0 := 0) rfl rfl, fun U hU hW => ⟨rfl, by rw [hU]; exact hP, va_K.moved hW.alike hK⟩⟩ rfl rfl hl.1 rfl (lv_room (Nat.le_of_ble_eq_true rfl)) dX5_sharesOf_43 ⟨Nat.zero_le _, Nat.zero_le _⟩) (fun r43 hr43 => ?_)
            subst hr43
            refine lv_if_eq (tgt := 65) hx hb dX5_sharesOf_46 (by decide) (fun c46 => ?_) (fun c46 => ?_)
            · have c46 := bI_0.mp c46
              refine lv_iconst (v := 0) hx hb dX5_sharesOf_65 (by decide) ?_
              refine lv_iadd hx hb dX5_sharesOf_66 ?_
              refine lv_istore (lv' := [(4, .int ((cnt (fun i => shM g nd f t (v 5) (v 6) w i) k) + 0)), (5, .int (nI k)), (0, .ref (a 0)), (1, .int f), (2, .int t), (3, .int w)]) hx hb dX5_sharesOf_67 hl (by decide) rfl (fun ls hl => ?_)
              refine lv_iinc (v := nI (k + 1)) (lv' := [(5, .int (nI (k + 1))), (4, .int ((cnt (fun i => shM g nd f t (v 5) (v 6) w i) k) + 0)), (0, .ref (a 0)), (1, .int f), (2, .int t), (3, .int w)]) hx hb dX5_sharesOf_69 hl (k := 1) rfl (nI_1 k) (by decide) rfl (fun ls hl => ?_)
              refine lv_goto (tgt := 6) hx hb dX5_sharesOf_72 (by decide) ?_
              exact ih (k + 1) (by omega) (by omega) (by omega) _ (by simp [cnt_s, shM, bI, c12, n12, c31, c37, c46]) ls (lv_sub hl [0, 1, 2, 3, 4, 5] rfl)
            · have c46 := bI_n0.mp c46
              refine lv_goto (tgt := 61) hx hb dX5_sharesOf_49 (by decide) ?_
              refine lv_iconst (v := 1) hx hb dX5_sharesOf_61 (by decide) ?_
              refine lv_goto (tgt := 66) hx hb dX5_sharesOf_62 (by decide) ?_
              refine lv_iadd hx hb dX5_sharesOf_66 ?_
              refine lv_istore (lv' := [(4, .int ((cnt (fun i => shM g nd f t (v 5) (v 6) w i) k) + 1)), (5, .int (nI k)), (0, .ref (a 0)), (1, .int f), (2, .int t), (3, .int w)]) hx hb dX5_sharesOf_67 hl (by decide) rfl (fun ls hl => ?_)
              refine lv_iinc (v := nI (k + 1)) (lv' := [(5, .int (nI (k + 1))), (4, .int ((cnt (fun i => shM g nd f t (v 5) (v 6) w i) k) + 1)), (0, .ref (a 0)), (1, .int f), (2, .int t), (3, .int w)]) hx hb dX5_sharesOf_69 hl (k := 1) rfl (nI_1 k) (by decide) rfl (fun ls hl => ?_)
              refine lv_goto (tgt := 6) hx hb dX5_sharesOf_72 (by decide) ?_
              exact ih (k + 1) (by omega) (by omega) (by omega) _ (by simp [cnt_s, shM, bI, c12, n12, c31, c37, c46]) ls (lv_sub hl [0, 1, 2, 3, 4, 5] rfl)
  exact lp (n + 1) 0 (by omega) (by omega) (by omega) _ (rfl) ls (lv_sub hl [0, 1, 2, 3, 4, 5] rfl)
set_option maxHeartbeats 4000000 in
set_option maxRecDepth 100000 in
theorem m_sumOf (l : Launch) (dC : Nat → ClassId) (dI : Nat → Nat → Nat) (cI cZ cJ : ClassId) (a : Nat → Nat) (v : Nat → Int32) (g : Nat → Nat → Int32) (k : Nat) (hk : k < 200) : Met l yX5_sumOf wsX5_sumOf ({ frames := 0, cells := 0, slots := 0, locals := 0 }) (va_Pc [.ref (a 0), .int (nI k)] (fun U => va_P (dC, dI) clA (wM cI cZ a v g) U.heap ∧ va_K (dC, dI) clA (tyA cI cZ cJ) U)) (vp_Si (fun r => r = g 7 k + g 8 k)) 0 0 (fun _ => False) := by
  refine Met.ofW (cc := cX5_sumOf) (maxL := 2) (ret := (some .int)) (by decide) rfl ?_
  intro p e s m args below meth c s₁ B hml hv
  obtain ⟨rfl, hP, hK⟩ := hv
  have hx := B.exec
  have hb := B.bytes
  have hr := B.returns
  have hts := atoms_spec (ws := wsX5_sumOf) B.pre
  have hown : s.vm.findClass RX5 = some m.cls := findClass_of_methodNamed B.named
  have hlocks := B.notSynchronized
  have hl := lv_entry ([.ref (a 0), .int (nI k)]) (n := 2) (Nat.le_of_ble_eq_true rfl)
  rw [lg_entry_eq]
  generalize (lg_sl ([.ref (a 0), .int (nI k)]) ++ List.replicate (2 - (lg_sl ([.ref (a 0), .int (nI k)])).length) Slot.unset).toArray = ls at hl ⊢
  have hl : lv_has ls 2 [(0, .ref (a 0)), (1, .int (nI k))] := hl
  refine lv_aload_n hx hb dX5_sumOf_0 rfl (lv_at hl 0 rfl) ?_
  refine va_get (D := (dC, dI)) (ci := 5) (v := .ref (a 8)) (C := RX5) (T := TX5) (N := 24) hx hb hts (fun w h => List.mem_cons_of_mem _ (iw_X5 w h)) hown hK hP 0 rfl rfl 9 (by decide) (hts _ (List.mem_cons_of_mem _ fl_X5_turnOut)) (fun _ h9 => h9) rfl dX5_sumOf_1 ?_
  refine lv_iload_n hx hb dX5_sumOf_4 rfl (lv_at hl 1 rfl) ?_
  refine wi_ald hx hb hK hP 8 0 rfl rfl (k := k) (by omega) (by decide) dX5_sumOf_5 ?_
  refine lv_aload_n hx hb dX5_sumOf_6 rfl (lv_at hl 0 rfl) ?_
  refine va_get (D := (dC, dI)) (ci := 5) (v := .ref (a 9)) (C := RX5) (T := TX5) (N := 24) hx hb hts (fun w h => List.mem_cons_of_mem _ (iw_X5 w h)) hown hK hP 0 rfl rfl 10 (by decide) (hts _ (List.mem_cons_of_mem _ fl_X5_travel)) (fun _ h9 => h9) rfl dX5_sumOf_7 ?_
  refine lv_iload_n hx hb dX5_sumOf_10 rfl (lv_at hl 1 rfl) ?_
  refine wi_ald hx hb hK hP 9 0 rfl rfl (k := k) (by omega) (by decide) dX5_sumOf_11 ?_
  refine lv_iadd hx hb dX5_sumOf_12 ?_
  exact W.iret (v := (g 7 k) + (g 8 k)) hx hb hr (fun t ht hW => ⟨_, rfl, rfl, ht⟩) (fun _ h => absurd h List.not_mem_nil) dX5_sumOf_13
set_option maxHeartbeats 4000000 in
set_option maxRecDepth 100000 in
theorem m_rowsOf (l : Launch) (dC : Nat → ClassId) (dI : Nat → Nat → Nat) (cI cZ cJ : ClassId) (a : Nat → Nat) (v : Nat → Int32) (g : Nat → Nat → Int32) (n : Nat) (hn : v 1 = nI n) (hn2 : n ≤ 200) (ar kd : Int32) : Met l yX5_rowsOf wsX5_rowsOf ({ frames := 2, cells := 0, slots := 0, locals := 47 }) (va_Pc [.ref (a 0), .int ar, .int kd] (fun U => va_P (dC, dI) clA (wM cI cZ a v g) U.heap ∧ va_K (dC, dI) clA (tyA cI cZ cJ) U)) (vp_Si (fun r => r = cnt (fun i => fitB g i (v 3) (v 4) kd ar) n)) 0 0 (fun _ => False) := by
  refine Met.ofW (cc := cX5_rowsOf) (maxL := 5) (ret := (some .int)) (by decide) rfl ?_
  intro p e s m args below meth c s₁ B hml hv
  obtain ⟨rfl, hP, hK⟩ := hv
  have hx := B.exec
  have hb := B.bytes
  have hr := B.returns
  have hts := atoms_spec (ws := wsX5_rowsOf) B.pre
  have hown : s.vm.findClass RX5 = some m.cls := findClass_of_methodNamed B.named
  have hlocks := B.notSynchronized
  have hl := lv_entry ([.ref (a 0), .int ar, .int kd]) (n := 5) (Nat.le_of_ble_eq_true rfl)
  rw [lg_entry_eq]
  generalize (lg_sl ([.ref (a 0), .int ar, .int kd]) ++ List.replicate (5 - (lg_sl ([.ref (a 0), .int ar, .int kd])).length) Slot.unset).toArray = ls at hl ⊢
  have hl : lv_has ls 5 [(0, .ref (a 0)), (1, .int ar), (2, .int kd)] := hl
  refine lv_iconst (v := 0) hx hb dX5_rowsOf_0 (by decide) ?_
  refine lv_istore_n (lv' := [(3, .int 0), (0, .ref (a 0)), (1, .int ar), (2, .int kd)]) hx hb dX5_rowsOf_1 rfl hl (by decide) rfl (fun ls hl => ?_)
  refine lv_iconst (v := 0) hx hb dX5_rowsOf_2 (by decide) ?_
  refine lv_istore (lv' := [(4, .int 0), (3, .int 0), (0, .ref (a 0)), (1, .int ar), (2, .int kd)]) hx hb dX5_rowsOf_3 hl (by decide) rfl (fun ls hl => ?_)
  have lp : ∀ (d k : Nat), 0 ≤ k → k ≤ n → n + 1 ≤ k + d → ∀ (acc : Int32), acc = cnt (fun i => fitB g i (v 3) (v 4) kd ar) k → ∀ (ls : Array Slot), lv_has ls 5 [(4, .int (nI k)), (3, .int acc), (0, .ref (a 0)), (1, .int ar), (2, .int kd)] → W p l e (headSpec wsX5_rowsOf ({ frames := 2, cells := 0, slots := 0, locals := 47 })).room s m ([.ref (a 0), .int ar, .int kd] : List Value).toArray below meth c s.heap [] 0 0 (MQ below (vp_Si (fun r => r = cnt (fun i => fitB g i (v 3) (v 4) kd ar) n)) ([.ref (a 0), .int ar, .int kd] : List Value).toArray s 0 0 (fun _ => False)) (F0 m 5 ls []) := by
    intro d
    induction d with
    | zero => intro k h0 h1 h2; exact absurd h2 (by omega)
    | succ d ih =>
      intro k hk0 hkn hkd acc ea_acc ls hl
      subst ea_acc
      refine lv_iload hx hb dX5_rowsOf_5 (lv_at hl 0 rfl) ?_
      refine lv_aload_n hx hb dX5_rowsOf_7 rfl (lv_at hl 2 rfl) ?_
      refine va_get (D := (dC, dI)) (ci := 5) (v := .int (v 1)) (C := RX5) (T := TX5) (N := 24) hx hb hts (fun w h => List.mem_cons_of_mem _ (iw_X5 w h)) hown hK hP 0 rfl rfl 1 (by decide) (hts _ (List.mem_cons_of_mem _ fl_X5_rows)) (fun _ h9 => h9) rfl dX5_rowsOf_8 ?_
      refine lv_icmp_ge (tgt := 47) hx hb dX5_rowsOf_11 (by decide) (fun c11 => ?_) (fun c11 => ?_)
      · have n11 := Int32.not_lt.mpr c11
        rw [hn] at c11
        have hkn2 : k = n := Nat.le_antisymm hkn ((nI_leI (by omega) (by omega)).mp c11)
        refine lv_iload_n hx hb dX5_rowsOf_47 rfl (lv_at hl 1 rfl) ?_
        exact W.iret (v := cnt (fun i => fitB g i (v 3) (v 4) kd ar) k) hx hb hr (fun t ht hW => ⟨_, rfl, (by subst hkn2; rfl), ht⟩) (fun _ h => absurd h List.not_mem_nil) dX5_rowsOf_48
      · have n11 := Int32.not_le.mp c11
        rw [hn] at c11
        have hk : k < n := Nat.lt_of_not_le (fun h => c11 (nI_le h (by omega)))
        refine lv_iload_n hx hb dX5_rowsOf_14 rfl (lv_at hl 1 rfl) ?_
        refine lv_aload_n hx hb dX5_rowsOf_15 rfl (lv_at hl 2 rfl) ?_
        refine lv_iload hx hb dX5_rowsOf_16 (lv_at hl 0 rfl) ?_
        refine lv_aload_n hx hb dX5_rowsOf_18 rfl (lv_at hl 2 rfl) ?_
        refine va_get (D := (dC, dI)) (ci := 5) (v := .int (v 3)) (C := RX5) (T := TX5) (N := 24) hx hb hts (fun w h => List.mem_cons_of_mem _ (iw_X5 w h)) hown hK hP 0 rfl rfl 14 (by decide) (hts _ (List.mem_cons_of_mem _ fl_X5_from)) (fun _ h9 => h9) rfl dX5_rowsOf_19 ?_
        refine lv_aload_n hx hb dX5_rowsOf_22 rfl (lv_at hl 2 rfl) ?_
        refine va_get (D := (dC, dI)) (ci := 5) (v := .int (v 4)) (C := RX5) (T := TX5) (N := 24) hx hb hts (fun w h => List.mem_cons_of_mem _ (iw_X5 w h)) hown hK hP 0 rfl rfl 15 (by decide) (hts _ (List.mem_cons_of_mem _ fl_X5_to)) (fun _ h9 => h9) rfl dX5_rowsOf_23 ?_
        refine lv_iload_n hx hb dX5_rowsOf_26 rfl (lv_at hl 4 rfl) ?_
        refine lv_iload_n hx hb dX5_rowsOf_27 rfl (lv_at hl 3 rfl) ?_
        refine vp_callSi (W.runV (As := [.int (nI k), .int (v 3), .int (v 4), .int kd, .int ar]) (rest := [.int (cnt (fun i => fitB g i (v 3) (v 4) kd ar) k)]) ⟨hx, hb, hml, hown, hts⟩ (m_fits l dC dI cI cZ cJ a v g k (v 3) (v 4) kd ar (by omega)) (cwV 5 hts (gd_V ml_X5_X5_fits im_X5_fits se_X5_fits in_X5 kX5_fits) rfl rfl rfl (by decide +kernel) ⟨Nat.le_of_ble_eq_true rfl, Nat.le_of_ble_eq_true rfl⟩) ⟨fun _ U g mk q => by obtain ⟨q0, qP, qK⟩ := q; exact ⟨q0, qP, va_K.moved (u := U) (U := U.calling g mk _) (Vm.Alike.refl U.vm) qK⟩, va_recv hK hP (ci := 5) (q0 := 0) rfl rfl, fun U hU hW => ⟨rfl, by rw [hU]; exact hP, va_K.moved hW.alike hK⟩⟩ rfl rfl hl.1 rfl (lv_room (Nat.le_of_ble_eq_true rfl)) dX5_rowsOf_28 ⟨Nat.zero_le _, Nat.zero_le _⟩) (fun r28 hr28 => ?_)
        subst hr28
        refine lv_if_eq (tgt := 38) hx hb dX5_rowsOf_31 (by decide) (fun c31 => ?_) (fun c31 => ?_)
        · have c31 := bI_0.mp c31
          refine lv_iconst (v := 0) hx hb dX5_rowsOf_38 (by decide) ?_
          refine lv_iadd hx hb dX5_rowsOf_39 ?_
          refine lv_istore_n (lv' := [(3, .int ((cnt (fun i => fitB g i (v 3) (v 4) kd ar) k) + 0)), (4, .int (nI k)), (0, .ref (a 0)), (1, .int ar), (2, .int kd)]) hx hb dX5_rowsOf_40 rfl hl (by decide) rfl (fun ls hl => ?_)
          refine lv_iinc (v := nI (k + 1)) (lv' := [(4, .int (nI (k + 1))), (3, .int ((cnt (fun i => fitB g i (v 3) (v 4) kd ar) k) + 0)), (0, .ref (a 0)), (1, .int ar), (2, .int kd)]) hx hb dX5_rowsOf_41 hl (k := 1) rfl (nI_1 k) (by decide) rfl (fun ls hl => ?_)
          refine lv_goto (tgt := 5) hx hb dX5_rowsOf_44 (by decide) ?_
          exact ih (k + 1) (by omega) (by omega) (by omega) _ (by simp [cnt_s, bI, c11, n11, c31]) ls (lv_sub hl [0, 1, 2, 3, 4] rfl)
        · have c31 := bI_n0.mp c31
          refine lv_iconst (v := 1) hx hb dX5_rowsOf_34 (by decide) ?_
          refine lv_goto (tgt := 39) hx hb dX5_rowsOf_35 (by decide) ?_
          refine lv_iadd hx hb dX5_rowsOf_39 ?_
          refine lv_istore_n (lv' := [(3, .int ((cnt (fun i => fitB g i (v 3) (v 4) kd ar) k) + 1)), (4, .int (nI k)), (0, .ref (a 0)), (1, .int ar), (2, .int kd)]) hx hb dX5_rowsOf_40 rfl hl (by decide) rfl (fun ls hl => ?_)
          refine lv_iinc (v := nI (k + 1)) (lv' := [(4, .int (nI (k + 1))), (3, .int ((cnt (fun i => fitB g i (v 3) (v 4) kd ar) k) + 1)), (0, .ref (a 0)), (1, .int ar), (2, .int kd)]) hx hb dX5_rowsOf_41 hl (k := 1) rfl (nI_1 k) (by decide) rfl (fun ls hl => ?_)
          refine lv_goto (tgt := 5) hx hb dX5_rowsOf_44 (by decide) ?_
          exact ih (k + 1) (by omega) (by omega) (by omega) _ (by simp [cnt_s, bI, c11, n11, c31]) ls (lv_sub hl [0, 1, 2, 3, 4] rfl)
  exact lp (n + 1) 0 (by omega) (by omega) (by omega) _ (rfl) ls (lv_sub hl [0, 1, 2, 3, 4] rfl)
set_option maxHeartbeats 4000000 in
set_option maxRecDepth 100000 in
theorem m_gain (l : Launch) (dC : Nat → ClassId) (dI : Nat → Nat → Nat) (cI cZ cJ : ClassId) (a : Nat → Nat) (v : Nat → Int32) (g : Nat → Nat → Int32) (st : Int32) (k0 : Nat) (hk0 : k0 < 6) : Met l yX5_gain wsX5_gain ({ frames := 0, cells := 0, slots := 0, locals := 0 }) (va_Pc [.ref (a 0), .int st, .int (nI k0)] (fun U => va_P (dC, dI) clA (wM cI cZ a v g) U.heap ∧ va_K (dC, dI) clA (tyA cI cZ cJ) U)) (vp_Si (fun r => r = isum (gnM g st k0) 6)) 0 0 (fun _ => False) := by
  refine Met.ofW (cc := cX5_gain) (maxL := 5) (ret := (some .int)) (by decide) rfl ?_
  intro p e s m args below meth c s₁ B hml hv
  obtain ⟨rfl, hP, hK⟩ := hv
  have hx := B.exec
  have hb := B.bytes
  have hr := B.returns
  have hts := atoms_spec (ws := wsX5_gain) B.pre
  have hown : s.vm.findClass RX5 = some m.cls := findClass_of_methodNamed B.named
  have hlocks := B.notSynchronized
  have hl := lv_entry ([.ref (a 0), .int st, .int (nI k0)]) (n := 5) (Nat.le_of_ble_eq_true rfl)
  rw [lg_entry_eq]
  generalize (lg_sl ([.ref (a 0), .int st, .int (nI k0)]) ++ List.replicate (5 - (lg_sl ([.ref (a 0), .int st, .int (nI k0)])).length) Slot.unset).toArray = ls at hl ⊢
  have hl : lv_has ls 5 [(0, .ref (a 0)), (1, .int st), (2, .int (nI k0))] := hl
  refine lv_iconst (v := 0) hx hb dX5_gain_0 (by decide) ?_
  refine lv_istore_n (lv' := [(3, .int 0), (0, .ref (a 0)), (1, .int st), (2, .int (nI k0))]) hx hb dX5_gain_1 rfl hl (by decide) rfl (fun ls hl => ?_)
  refine lv_iconst (v := 0) hx hb dX5_gain_2 (by decide) ?_
  refine lv_istore (lv' := [(4, .int 0), (3, .int 0), (0, .ref (a 0)), (1, .int st), (2, .int (nI k0))]) hx hb dX5_gain_3 hl (by decide) rfl (fun ls hl => ?_)
  have lp : ∀ (d k : Nat), 0 ≤ k → k ≤ 6 → 6 + 1 ≤ k + d → ∀ (acc : Int32), acc = isum (gnM g st k0) k → ∀ (ls : Array Slot), lv_has ls 5 [(4, .int (nI k)), (3, .int acc), (0, .ref (a 0)), (1, .int st), (2, .int (nI k0))] → W p l e (headSpec wsX5_gain ({ frames := 0, cells := 0, slots := 0, locals := 0 })).room s m ([.ref (a 0), .int st, .int (nI k0)] : List Value).toArray below meth c s.heap [] 0 0 (MQ below (vp_Si (fun r => r = isum (gnM g st k0) 6)) ([.ref (a 0), .int st, .int (nI k0)] : List Value).toArray s 0 0 (fun _ => False)) (F0 m 5 ls []) := by
    intro d
    induction d with
    | zero => intro k h0 h1 h2; exact absurd h2 (by omega)
    | succ d ih =>
      intro k hk0 hkn hkd acc ea_acc ls hl
      subst ea_acc
      refine lv_iload hx hb dX5_gain_5 (lv_at hl 0 rfl) ?_
      refine lv_bipush (v := 6) hx hb dX5_gain_7 (by decide) ?_
      refine lv_icmp_ge (tgt := 72) hx hb dX5_gain_9 (by decide) (fun c9 => ?_) (fun c9 => ?_)
      · have n9 := Int32.not_lt.mpr c9
        have hkn2 : k = 6 := Nat.le_antisymm hkn ((nI_leI (a := 6) (b := k) (by decide) (by omega)).mp c9)
        refine lv_iload_n hx hb dX5_gain_72 rfl (lv_at hl 1 rfl) ?_
        exact W.iret (v := isum (gnM g st k0) k) hx hb hr (fun t ht hW => ⟨_, rfl, (by subst hkn2; rfl), ht⟩) (fun _ h => absurd h List.not_mem_nil) dX5_gain_73
      · have n9 := Int32.not_le.mp c9
        have hk : k < 6 := Nat.lt_of_not_le (fun h => c9 (nI_le (a := 6) h (by omega)))
        refine lv_iload_n hx hb dX5_gain_12 rfl (lv_at hl 3 rfl) ?_
        refine lv_iload hx hb dX5_gain_13 (lv_at hl 0 rfl) ?_
        refine lv_ishr hx hb dX5_gain_15 ?_
        refine lv_iconst (v := 1) hx hb dX5_gain_16 (by decide) ?_
        refine lv_iand hx hb dX5_gain_17 ?_
        refine lv_iconst (v := 1) hx hb dX5_gain_18 (by decide) ?_
        refine lv_icmp_ne (tgt := 66) hx hb dX5_gain_19 (by decide) (fun c19 => ?_) (fun c19 => ?_)
        · refine lv_iinc (v := nI (k + 1)) (lv' := [(4, .int (nI (k + 1))), (3, .int (isum (gnM g st k0) k)), (0, .ref (a 0)), (1, .int st), (2, .int (nI k0))]) hx hb dX5_gain_66 hl (k := 0) rfl (nI_1 k) (by decide) rfl (fun ls hl => ?_)
          refine lv_goto (tgt := 5) hx hb dX5_gain_69 (by decide) ?_
          exact ih (k + 1) (by omega) (by omega) (by omega) _ (by simp [isum_s, gnM, c9, n9, c19]) ls (lv_sub hl [0, 1, 2, 3, 4] rfl)
        · refine lv_iload_n hx hb dX5_gain_22 rfl (lv_at hl 1 rfl) ?_
          refine lv_aload_n hx hb dX5_gain_23 rfl (lv_at hl 2 rfl) ?_
          refine va_get (D := (dC, dI)) (ci := 5) (v := .ref (a 13)) (C := RX5) (T := TX5) (N := 24) hx hb hts (fun w h => List.mem_cons_of_mem _ (iw_X5 w h)) hown hK hP 0 rfl rfl 20 (by decide) (hts _ (List.mem_cons_of_mem _ fl_X5_counts)) (fun _ h9 => h9) rfl dX5_gain_24 ?_
          refine lv_iload_n hx hb dX5_gain_27 rfl (lv_at hl 4 rfl) ?_
          refine wi_ald hx hb hK hP 13 0 rfl rfl (k := k0) (by omega) (by decide) dX5_gain_28 ?_
          refine lv_aload_n hx hb dX5_gain_29 rfl (lv_at hl 2 rfl) ?_
          refine va_get (D := (dC, dI)) (ci := 5) (v := .ref (a 13)) (C := RX5) (T := TX5) (N := 24) hx hb hts (fun w h => List.mem_cons_of_mem _ (iw_X5 w h)) hown hK hP 0 rfl rfl 20 (by decide) (hts _ (List.mem_cons_of_mem _ fl_X5_counts)) (fun _ h9 => h9) rfl dX5_gain_30 ?_
          refine lv_iload hx hb dX5_gain_33 (lv_at hl 0 rfl) ?_
          refine wi_ald hx hb hK hP 13 0 rfl rfl (k := k) (by omega) (by decide) dX5_gain_35 ?_
          refine lv_icmp_le (tgt := 43) hx hb dX5_gain_36 (by decide) (fun c36 => ?_) (fun c36 => ?_)
          · have n36 := Int32.not_lt.mpr c36
            refine lv_aload_n hx hb dX5_gain_43 rfl (lv_at hl 2 rfl) ?_
            refine va_get (D := (dC, dI)) (ci := 5) (v := .ref (a 13)) (C := RX5) (T := TX5) (N := 24) hx hb hts (fun w h => List.mem_cons_of_mem _ (iw_X5 w h)) hown hK hP 0 rfl rfl 20 (by decide) (hts _ (List.mem_cons_of_mem _ fl_X5_counts)) (fun _ h9 => h9) rfl dX5_gain_44 ?_
            refine lv_iload_n hx hb dX5_gain_47 rfl (lv_at hl 4 rfl) ?_
            refine wi_ald hx hb hK hP 13 0 rfl rfl (k := k0) (by omega) (by decide) dX5_gain_48 ?_
            refine lv_aload_n hx hb dX5_gain_49 rfl (lv_at hl 2 rfl) ?_
            refine va_get (D := (dC, dI)) (ci := 5) (v := .ref (a 13)) (C := RX5) (T := TX5) (N := 24) hx hb hts (fun w h => List.mem_cons_of_mem _ (iw_X5 w h)) hown hK hP 0 rfl rfl 20 (by decide) (hts _ (List.mem_cons_of_mem _ fl_X5_counts)) (fun _ h9 => h9) rfl dX5_gain_50 ?_
            refine lv_iload hx hb dX5_gain_53 (lv_at hl 0 rfl) ?_
            refine wi_ald hx hb hK hP 13 0 rfl rfl (k := k) (by omega) (by decide) dX5_gain_55 ?_
            refine lv_icmp_ge (tgt := 63) hx hb dX5_gain_56 (by decide) (fun c56 => ?_) (fun c56 => ?_)
            · have n56 := Int32.not_lt.mpr c56
              refine lv_iconst (v := 0) hx hb dX5_gain_63 (by decide) ?_
              refine lv_iadd hx hb dX5_gain_64 ?_
              refine lv_istore_n (lv' := [(3, .int ((isum (gnM g st k0) k) + 0)), (4, .int (nI k)), (0, .ref (a 0)), (1, .int st), (2, .int (nI k0))]) hx hb dX5_gain_65 rfl hl (by decide) rfl (fun ls hl => ?_)
              refine lv_iinc (v := nI (k + 1)) (lv' := [(4, .int (nI (k + 1))), (3, .int ((isum (gnM g st k0) k) + 0)), (0, .ref (a 0)), (1, .int st), (2, .int (nI k0))]) hx hb dX5_gain_66 hl (k := 1) rfl (nI_1 k) (by decide) rfl (fun ls hl => ?_)
              refine lv_goto (tgt := 5) hx hb dX5_gain_69 (by decide) ?_
              exact ih (k + 1) (by omega) (by omega) (by omega) _ (by simp [isum_s, gnM, c9, n9, c19, c36, n36, c56, n56]) ls (lv_sub hl [0, 1, 2, 3, 4] rfl)
            · have n56 := Int32.not_le.mp c56
              refine lv_iconst (v := (-1)) hx hb dX5_gain_59 (by decide) ?_
              refine lv_goto (tgt := 64) hx hb dX5_gain_60 (by decide) ?_
              refine lv_iadd hx hb dX5_gain_64 ?_
              refine lv_istore_n (lv' := [(3, .int ((isum (gnM g st k0) k) + (-1))), (4, .int (nI k)), (0, .ref (a 0)), (1, .int st), (2, .int (nI k0))]) hx hb dX5_gain_65 rfl hl (by decide) rfl (fun ls hl => ?_)
              refine lv_iinc (v := nI (k + 1)) (lv' := [(4, .int (nI (k + 1))), (3, .int ((isum (gnM g st k0) k) + (-1))), (0, .ref (a 0)), (1, .int st), (2, .int (nI k0))]) hx hb dX5_gain_66 hl (k := 1) rfl (nI_1 k) (by decide) rfl (fun ls hl => ?_)
              refine lv_goto (tgt := 5) hx hb dX5_gain_69 (by decide) ?_
              exact ih (k + 1) (by omega) (by omega) (by omega) _ (by simp [isum_s, gnM, c9, n9, c19, c36, n36, c56, n56]) ls (lv_sub hl [0, 1, 2, 3, 4] rfl)
          · have n36 := Int32.not_le.mp c36
            refine lv_iconst (v := 1) hx hb dX5_gain_39 (by decide) ?_
            refine lv_goto (tgt := 64) hx hb dX5_gain_40 (by decide) ?_
            refine lv_iadd hx hb dX5_gain_64 ?_
            refine lv_istore_n (lv' := [(3, .int ((isum (gnM g st k0) k) + 1)), (4, .int (nI k)), (0, .ref (a 0)), (1, .int st), (2, .int (nI k0))]) hx hb dX5_gain_65 rfl hl (by decide) rfl (fun ls hl => ?_)
            refine lv_iinc (v := nI (k + 1)) (lv' := [(4, .int (nI (k + 1))), (3, .int ((isum (gnM g st k0) k) + 1)), (0, .ref (a 0)), (1, .int st), (2, .int (nI k0))]) hx hb dX5_gain_66 hl (k := 1) rfl (nI_1 k) (by decide) rfl (fun ls hl => ?_)
            refine lv_goto (tgt := 5) hx hb dX5_gain_69 (by decide) ?_
            exact ih (k + 1) (by omega) (by omega) (by omega) _ (by simp [isum_s, gnM, c9, n9, c19, c36, n36]) ls (lv_sub hl [0, 1, 2, 3, 4] rfl)
  exact lp (6 + 1) 0 (by omega) (by omega) (by omega) _ (rfl) ls (lv_sub hl [0, 1, 2, 3, 4] rfl)
