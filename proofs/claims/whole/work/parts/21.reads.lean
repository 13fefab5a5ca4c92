
def icmp (x y : Int32) : Int32 := if x < y then -1 else if x = y then 0 else 1
def takB (p t : Int32) : Bool := decide (¬ ((t >>> (p &&& 31)) &&& 1) = 0)
def gainI (g : Nat → Nat → Int32) (n : Nat) (j : Nat) (t : Int32) : Int32 := isum (fun i => if takB (nI i) t = true then icmp (g 12 j) (g 12 i) else 0) n
def msk : Nat → Int32
  | 0 => 0
  | k + 1 => msk k ||| ((1 : Int32) <<< (nI k &&& 31))
def facI : Nat → Int32
  | 0 => 1
  | 1 => 1
  | k + 2 => facI (k + 1) * nI (k + 2)
def lastB (g : Nat → Nat → Int32) (n j : Nat) : Bool := decide (∀ i, i < n → j < i → ¬ g 1 i = g 1 j)
def chgB (g : Nat → Nat → Int32) (n : Nat) (f t : Int32) (i : Nat) : Bool := decide (f < g 1 i) && decide (g 1 i ≤ t) && lastB g n i && decide (¬ mkOn g n (g 1 i) = mkOn g n (g 1 i - 1))
def totI (g : Nat → Nat → Int32) (n nd : Nat) (w f t kd ar : Int32) : Int32 := isum (fun i => if askB g i f t kd ar = true then amt g i w (mkOn g nd (g 3 i)) else 0) n
/-- Euclid's steps -/
def eu (a b : Int32) : Nat → Int32 × Int32
  | 0 => (a, b)
  | k + 1 => if (eu a b k).2 = 0 then eu a b k else ((eu a b k).2, (eu a b k).1 - (eu a b k).1 / (eu a b k).2 * (eu a b k).2)
theorem eu_stay (a b : Int32) {k : Nat} (h : (eu a b k).2 = 0) : ∀ d, eu a b (k + d) = eu a b k := by
  intro d
  induction d with
  | zero => rfl
  | succ d ih => rw [Nat.add_succ, eu, ih, if_pos h]
/-- 64 and 10, as numbers that nothing unfolds -/
theorem n64_ex : ∃ n : Nat, n = 64 := ⟨64, rfl⟩
noncomputable def n64 : Nat := Classical.choose n64_ex
theorem n64_eq : n64 = 64 := Classical.choose_spec n64_ex
theorem n10_ex : ∃ n : Nat, n = 10 := ⟨10, rfl⟩
noncomputable def n10 : Nat := Classical.choose n10_ex
theorem n10_eq : n10 = 10 := Classical.choose_spec n10_ex
noncomputable def gcdI (a b : Int32) : Int32 := (eu a b n64).1
theorem eu_end (a b : Int32) {k : Nat} (hk : k ≤ 64) (h : (eu a b k).2 = 0) : (eu a b k).1 = gcdI a b := by
  have := eu_stay a b h (64 - k)
  rw [Nat.add_sub_cancel' hk] at this
  rw [gcdI, n64_eq, this]
theorem eu_64 (a b : Int32) {k : Nat} (hk : k = 64) : (eu a b k).1 = gcdI a b := by
  rw [gcdI, n64_eq, hk]
noncomputable def lowT (x a b : Int32) : Int32 := if 0 < gcdI a b then x / gcdI a b else x
/-- the shown area with the fewest rows, but not none -/
def canB (g : Nat → Nat → Int32) (k : Nat) : Bool := decide (g 14 k = 0) && decide (0 < g 13 k)
def fewI (g : Nat → Nat → Int32) : Nat → Int32
  | 0 => -1
  | k + 1 => if canB g k = true ∧ (fewI g k < 0 ∨ g 13 k < g 13 (fewI g k).toNatClampNeg) then nI k else fewI g k
theorem fewI_in (g : Nat → Nat → Int32) : ∀ k, k ≤ 10 → fewI g k < 0 ∨ ∃ j, j < k ∧ fewI g k = nI j := by
  intro k
  induction k with
  | zero => intro _; exact Or.inl (by show (-1 : Int32) < 0; decide)
  | succ k ih =>
    intro hk
    rw [fewI]
    split
    · exact Or.inr ⟨k, by omega, rfl⟩
    · rcases ih (by omega) with h | ⟨j, h1, h2⟩
      · exact Or.inl h
      · exact Or.inr ⟨j, by omega, h2⟩
noncomputable def fewest (g : Nat → Nat → Int32) : Int32 := fewI g n10
theorem fewI_10 (g : Nat → Nat → Int32) {k : Nat} (hk : k = 10) : fewI g k = fewest g := by
  rw [fewest, n10_eq, hk]
theorem fewI_at (g : Nat → Nat → Int32) {k : Nat} (hk : k ≤ 10) (h : ¬ fewI g k < 0) : vp_in (fewI g k) 10 := by
  rcases fewI_in g k hk with h1 | ⟨j, h1, h2⟩
  · exact absurd h1 h
  · rw [h2]; exact vp_in_nI (by omega) (by decide)
theorem not_last (g : Nat → Nat → Int32) {n j i : Nat} (h1 : i < n) (h2 : j < i) (h3 : g 1 i = g 1 j) : lastB g n j = false := by
  rw [lastB, decide_eq_false_iff_not]
  exact fun h => h i h1 h2 h3

set_option maxHeartbeats 4000000 in
set_option maxRecDepth 100000 in
theorem c_icmp (l : Launch) (dC : Nat → ClassId) (dI : Nat → Nat → Nat) (cI cZ cJ : ClassId) (a : Nat → Nat) (v : Nat → Int32) (g : Nat → Nat → Int32) (x y : Int32) : Met l yInteger_compare wsInteger_compare ({ frames := 0, cells := 0, slots := 0, locals := 0 }) (va_Pc [.int x, .int y] (fun U => va_P (dC, dI) clA (wA cI cZ a v g) U.heap ∧ va_K (dC, dI) clA (tyA cI cZ cJ) U)) (vp_Si (fun r => r = icmp x y)) 0 0 (fun _ => False) := by
  refine Met.ofW (cc := cInteger_compare) (maxL := 2) (ret := (some .int)) (by decide) rfl ?_
  intro p e s m args below meth c s₁ B hml hv
  obtain ⟨rfl, hP, hK⟩ := hv
  have hx := B.exec
  have hb := B.bytes
  have hr := B.returns
  have hts := atoms_spec (ws := wsInteger_compare) B.pre
  have hown : s.vm.findClass RInteger = some m.cls := findClass_of_methodNamed B.named
  have hlocks := B.notSynchronized
  have hl := lv_entry ([.int x, .int y]) (n := 2) (Nat.le_of_ble_eq_true rfl)
  rw [lg_entry_eq]
  generalize (lg_sl ([.int x, .int y]) ++ List.replicate (2 - (lg_sl ([.int x, .int y])).length) Slot.unset).toArray = ls at hl ⊢
  have hl : lv_has ls 2 [(0, .int x), (1, .int y)] := hl
  refine lv_iload_n hx hb dInteger_compare_0 rfl (lv_at hl 0 rfl) ?_
  refine lv_iload_n hx hb dInteger_compare_1 rfl (lv_at hl 1 rfl) ?_
  refine lv_icmp_ge (tgt := 9) hx hb dInteger_compare_2 (by decide) (fun c2 => ?_) (fun c2 => ?_)
  · have n2 := Int32.not_lt.mpr c2
    refine lv_iload_n hx hb dInteger_compare_9 rfl (lv_at hl 0 rfl) ?_
    refine lv_iload_n hx hb dInteger_compare_10 rfl (lv_at hl 1 rfl) ?_
    refine lv_icmp_ne (tgt := 18) hx hb dInteger_compare_11 (by decide) (fun c11 => ?_) (fun c11 => ?_)
    · refine lv_iconst (v := 1) hx hb dInteger_compare_18 (by decide) ?_
      exact W.iret (v := 1) hx hb hr (fun t ht hW => ⟨_, rfl, (by simp [icmp, c2, n2, c11]), ht⟩) (fun _ h => absurd h List.not_mem_nil) dInteger_compare_19
    · refine lv_iconst (v := 0) hx hb dInteger_compare_14 (by decide) ?_
      refine lv_goto (tgt := 19) hx hb dInteger_compare_15 (by decide) ?_
      exact W.iret (v := 0) hx hb hr (fun t ht hW => ⟨_, rfl, (by simp [icmp, c2, n2, c11]), ht⟩) (fun _ h => absurd h List.not_mem_nil) dInteger_compare_19
  · have n2 := Int32.not_le.mp c2
    refine lv_iconst (v := (-1)) hx hb dInteger_compare_5 (by decide) ?_
    refine lv_goto (tgt := 19) hx hb dInteger_compare_6 (by decide) ?_
    exact W.iret (v := -1) hx hb hr (fun t ht hW => ⟨_, rfl, (by simp [icmp, c2, n2]), ht⟩) (fun _ h => absurd h List.not_mem_nil) dInteger_compare_19
set_option maxHeartbeats 4000000 in
set_option maxRecDepth 100000 in
theorem c_isize (l : Launch) (dC : Nat → ClassId) (dI : Nat → Nat → Nat) (cI cZ cJ : ClassId) (a : Nat → Nat) (v : Nat → Int32) (g : Nat → Nat → Int32)  : Met l yX1_size wsX1_size ({ frames := 0, cells := 0, slots := 0, locals := 0 }) (va_Pc [.ref (a 5)] (fun U => va_P (dC, dI) clA (wA cI cZ a v g) U.heap ∧ va_K (dC, dI) clA (tyA cI cZ cJ) U)) (vp_Si (fun r => r = v 5)) 0 0 (fun _ => False) := by
  refine Met.ofW (cc := cX1_size) (maxL := 1) (ret := (some .int)) (by decide) rfl ?_
  intro p e s m args below meth c s₁ B hml hv
  obtain ⟨rfl, hP, hK⟩ := hv
  have hx := B.exec
  have hb := B.bytes
  have hr := B.returns
  have hts := atoms_spec (ws := wsX1_size) B.pre
  have hown : s.vm.findClass RX1 = some m.cls := findClass_of_methodNamed B.named
  have hlocks := B.notSynchronized
  have hl := lv_entry ([.ref (a 5)]) (n := 1) (Nat.le_of_ble_eq_true rfl)
  rw [lg_entry_eq]
  generalize (lg_sl ([.ref (a 5)]) ++ List.replicate (1 - (lg_sl ([.ref (a 5)])).length) Slot.unset).toArray = ls at hl ⊢
  have hl : lv_has ls 1 [(0, .ref (a 5))] := hl
  refine lv_aload_n hx hb dX1_size_0 rfl (lv_at hl 0 rfl) ?_
  refine va_get (D := (dC, dI)) (ci := 1) (v := .int (v 5)) (C := RX1) (T := TX1) (N := 10) hx hb hts (fun w h => List.mem_cons_of_mem _ (iw_X1 w h)) hown hK hP 5 rfl rfl 9 (by decide) (hts _ (List.mem_cons_of_mem _ fl_X1_size)) (fun _ h9 => h9) rfl dX1_size_1 ?_
  exact W.iret (v := v 5) hx hb hr (fun t ht hW => ⟨_, rfl, rfl, ht⟩) (fun _ h => absurd h List.not_mem_nil) dX1_size_4
set_option maxHeartbeats 4000000 in
set_option maxRecDepth 100000 in
theorem c_ifull (l : Launch) (dC : Nat → ClassId) (dI : Nat → Nat → Nat) (cI cZ cJ : ClassId) (a : Nat → Nat) (v : Nat → Int32) (g : Nat → Nat → Int32)  : Met l yX1_isFull wsX1_isFull ({ frames := 0, cells := 0, slots := 0, locals := 0 }) (va_Pc [.ref (a 5)] (fun U => va_P (dC, dI) clA (wA cI cZ a v g) U.heap ∧ va_K (dC, dI) clA (tyA cI cZ cJ) U)) (vp_Si (fun r => r = bI (decide (200 ≤ v 5)))) 0 0 (fun _ => False) := by
  refine Met.ofW (cc := cX1_isFull) (maxL := 1) (ret := (some .boolean)) (by decide) rfl ?_
  intro p e s m args below meth c s₁ B hml hv
  obtain ⟨rfl, hP, hK⟩ := hv
  have hx := B.exec
  have hb := B.bytes
  have hr := B.returns
  have hts := atoms_spec (ws := wsX1_isFull) B.pre
  have hown : s.vm.findClass RX1 = some m.cls := findClass_of_methodNamed B.named
  have hlocks := B.notSynchronized
  have hl := lv_entry ([.ref (a 5)]) (n := 1) (Nat.le_of_ble_eq_true rfl)
  rw [lg_entry_eq]
  generalize (lg_sl ([.ref (a 5)]) ++ List.replicate (1 - (lg_sl ([.ref (a 5)])).length) Slot.unset).toArray = ls at hl ⊢
  have hl : lv_has ls 1 [(0, .ref (a 5))] := hl
  refine lv_aload_n hx hb dX1_isFull_0 rfl (lv_at hl 0 rfl) ?_
  refine va_get (D := (dC, dI)) (ci := 1) (v := .int (v 5)) (C := RX1) (T := TX1) (N := 10) hx hb hts (fun w h => List.mem_cons_of_mem _ (iw_X1 w h)) hown hK hP 5 rfl rfl 9 (by decide) (hts _ (List.mem_cons_of_mem _ fl_X1_size)) (fun _ h9 => h9) rfl dX1_isFull_1 ?_
  refine lv_sipush (v := 200) hx hb dX1_isFull_4 (by decide) ?_
  refine lv_icmp_lt (tgt := 14) hx hb dX1_isFull_7 (by decide) (fun c7 => ?_) (fun c7 => ?_)
  · have n7 := Int32.not_le.mpr c7
    refine lv_iconst (v := 0) hx hb dX1_isFull_14 (by decide) ?_
    exact W.zret (v := 0) hx hb hr rfl (fun t ht hW => ⟨_, rfl, (by simp [bI, c7, n7]), ht⟩) (fun _ h => absurd h List.not_mem_nil) dX1_isFull_15
  · have n7 := Int32.not_lt.mp c7
    refine lv_iconst (v := 1) hx hb dX1_isFull_10 (by decide) ?_
    refine lv_goto (tgt := 15) hx hb dX1_isFull_11 (by decide) ?_
    exact W.zret (v := 1) hx hb hr rfl (fun t ht hW => ⟨_, rfl, (by simp [bI, c7, n7]), ht⟩) (fun _ h => absurd h List.not_mem_nil) dX1_isFull_15
set_option maxHeartbeats 4000000 in
set_option maxRecDepth 100000 in
theorem c_dfull (l : Launch) (dC : Nat → ClassId) (dI : Nat → Nat → Nat) (cI cZ cJ : ClassId) (a : Nat → Nat) (v : Nat → Int32) (g : Nat → Nat → Int32)  : Met l yX0_isFull wsX0_isFull ({ frames := 0, cells := 0, slots := 0, locals := 0 }) (va_Pc [.ref (a 2)] (fun U => va_P (dC, dI) clA (wA cI cZ a v g) U.heap ∧ va_K (dC, dI) clA (tyA cI cZ cJ) U)) (vp_Si (fun r => r = bI (decide (6 ≤ v 4)))) 0 0 (fun _ => False) := by
  refine Met.ofW (cc := cX0_isFull) (maxL := 1) (ret := (some .boolean)) (by decide) rfl ?_
  intro p e s m args below meth c s₁ B hml hv
  obtain ⟨rfl, hP, hK⟩ := hv
  have hx := B.exec
  have hb := B.bytes
  have hr := B.returns
  have hts := atoms_spec (ws := wsX0_isFull) B.pre
  have hown : s.vm.findClass RX0 = some m.cls := findClass_of_methodNamed B.named
  have hlocks := B.notSynchronized
  have hl := lv_entry ([.ref (a 2)]) (n := 1) (Nat.le_of_ble_eq_true rfl)
  rw [lg_entry_eq]
  generalize (lg_sl ([.ref (a 2)]) ++ List.replicate (1 - (lg_sl ([.ref (a 2)])).length) Slot.unset).toArray = ls at hl ⊢
  have hl : lv_has ls 1 [(0, .ref (a 2))] := hl
  refine lv_aload_n hx hb dX0_isFull_0 rfl (lv_at hl 0 rfl) ?_
  refine va_get (D := (dC, dI)) (ci := 0) (v := .int (v 4)) (C := RX0) (T := TX0) (N := 3) hx hb hts (fun w h => List.mem_cons_of_mem _ (iw_X0 w h)) hown hK hP 2 rfl rfl 2 (by decide) (hts _ (List.mem_cons_of_mem _ fl_X0_size)) (fun _ h9 => h9) rfl dX0_isFull_1 ?_
  refine lv_bipush (v := 6) hx hb dX0_isFull_4 (by decide) ?_
  refine lv_icmp_lt (tgt := 13) hx hb dX0_isFull_6 (by decide) (fun c6 => ?_) (fun c6 => ?_)
  · have n6 := Int32.not_le.mpr c6
    refine lv_iconst (v := 0) hx hb dX0_isFull_13 (by decide) ?_
    exact W.zret (v := 0) hx hb hr rfl (fun t ht hW => ⟨_, rfl, (by simp [bI, c6, n6]), ht⟩) (fun _ h => absurd h List.not_mem_nil) dX0_isFull_14
  · have n6 := Int32.not_lt.mp c6
    refine lv_iconst (v := 1) hx hb dX0_isFull_9 (by decide) ?_
    refine lv_goto (tgt := 14) hx hb dX0_isFull_10 (by decide) ?_
    exact W.zret (v := 1) hx hb hr rfl (fun t ht hW => ⟨_, rfl, (by simp [bI, c6, n6]), ht⟩) (fun _ h => absurd h List.not_mem_nil) dX0_isFull_14
set_option maxHeartbeats 4000000 in
set_option maxRecDepth 100000 in
theorem c_amount (l : Launch) (dC : Nat → ClassId) (dI : Nat → Nat → Nat) (cI cZ cJ : ClassId) (a : Nat → Nat) (v : Nat → Int32) (g : Nat → Nat → Int32) (k : Nat) (w mk : Int32) (hk : k < 200) : Met l yX1_amount wsX1_amount ({ frames := 3, cells := 0, slots := 0, locals := 65 }) (va_Pc [.ref (a 5), .int (nI k), .int w, .int mk] (fun U => va_P (dC, dI) clA (wA cI cZ a v g) U.heap ∧ va_K (dC, dI) clA (tyA cI cZ cJ) U)) (vp_Si (fun r => r = amt g k w mk)) 0 0 (fun _ => False) := by
  refine Met.ofW (cc := cX1_amount) (maxL := 4) (ret := (some .int)) (by decide) rfl ?_
  intro p e s m args below meth c s₁ B hml hv
  obtain ⟨rfl, hP, hK⟩ := hv
  have hx := B.exec
  have hb := B.bytes
  have hr := B.returns
  have hts := atoms_spec (ws := wsX1_amount) B.pre
  have hown : s.vm.findClass RX1 = some m.cls := findClass_of_methodNamed B.named
  have hlocks := B.notSynchronized
  have hl := lv_entry ([.ref (a 5), .int (nI k), .int w, .int mk]) (n := 4) (Nat.le_of_ble_eq_true rfl)
  rw [lg_entry_eq]
  generalize (lg_sl ([.ref (a 5), .int (nI k), .int w, .int mk]) ++ List.replicate (4 - (lg_sl ([.ref (a 5), .int (nI k), .int w, .int mk])).length) Slot.unset).toArray = ls at hl ⊢
  have hl : lv_has ls 4 [(0, .ref (a 5)), (1, .int (nI k)), (2, .int w), (3, .int mk)] := hl
  refine lv_iload_n hx hb dX1_amount_0 rfl (lv_at hl 2 rfl) ?_
  by_cases s1_0 : w = 0
  · refine lv_tableIn (off := 35) (tgt := 36) hx hb dX1_amount_1 (by rw [s1_0]; decide) (by rw [s1_0]; decide) (by rw [s1_0]; decide) (by decide) ?_
    refine lv_iconst (v := 1) hx hb dX1_amount_36 (by decide) ?_
    exact W.iret (v := 1) hx hb hr (fun t ht hW => ⟨_, rfl, (by simp [amt, bI, s1_0]), ht⟩) (fun _ h => absurd h List.not_mem_nil) dX1_amount_37
  · skip
    by_cases s1_1 : w = 1
    · refine lv_tableIn (off := 37) (tgt := 38) hx hb dX1_amount_1 (by rw [s1_1]; decide) (by rw [s1_1]; decide) (by rw [s1_1]; decide) (by decide) ?_
      refine lv_aload_n hx hb dX1_amount_38 rfl (lv_at hl 0 rfl) ?_
      refine va_get (D := (dC, dI)) (ci := 1) (v := .ref (a 11)) (C := RX1) (T := TX1) (N := 10) hx hb hts (fun w h => List.mem_cons_of_mem _ (iw_X1 w h)) hown hK hP 5 rfl rfl 5 (by decide) (hts _ (List.mem_cons_of_mem _ fl_X1_marks)) (fun _ h9 => h9) rfl dX1_amount_39 ?_
      refine lv_iload_n hx hb dX1_amount_42 rfl (lv_at hl 1 rfl) ?_
      refine wi_ald hx hb hK hP 11 0 rfl rfl (k := k) (by omega) (by decide) dX1_amount_43 ?_
      refine lv_iconst (v := 1) hx hb dX1_amount_44 (by decide) ?_
      refine lv_iand hx hb dX1_amount_45 ?_
      refine lv_if_eq (tgt := 53) hx hb dX1_amount_46 (by decide) (fun c46 => ?_) (fun c46 => ?_)
      · refine lv_iconst (v := 0) hx hb dX1_amount_53 (by decide) ?_
        exact W.iret (v := 0) hx hb hr (fun t ht hW => ⟨_, rfl, (by simp [amt, bI, s1_0, s1_1, c46]), ht⟩) (fun _ h => absurd h List.not_mem_nil) dX1_amount_54
      · refine lv_iconst (v := 1) hx hb dX1_amount_49 (by decide) ?_
        refine lv_goto (tgt := 54) hx hb dX1_amount_50 (by decide) ?_
        exact W.iret (v := 1) hx hb hr (fun t ht hW => ⟨_, rfl, (by simp [amt, bI, s1_0, s1_1, c46]), ht⟩) (fun _ h => absurd h List.not_mem_nil) dX1_amount_54
    · skip
      by_cases s1_2 : w = 2
      · refine lv_tableIn (off := 54) (tgt := 55) hx hb dX1_amount_1 (by rw [s1_2]; decide) (by rw [s1_2]; decide) (by rw [s1_2]; decide) (by decide) ?_
        refine lv_aload_n hx hb dX1_amount_55 rfl (lv_at hl 0 rfl) ?_
        refine lv_iload_n hx hb dX1_amount_56 rfl (lv_at hl 1 rfl) ?_
        refine lv_iload_n hx hb dX1_amount_57 rfl (lv_at hl 3 rfl) ?_
        refine vp_callSi (W.runV (As := [.int (nI k), .int mk]) (rest := []) ⟨hx, hb, hml, hown, hts⟩ (c_isWithin l dC dI cI cZ cJ a v g k mk (by omega)) (cwV 2 hts (gd_V ml_X1_X1_isWithin im_X1_isWithin se_X1_isWithin in_X1 kX1_isWithin) rfl rfl rfl (by decide +kernel) ⟨Nat.le_of_ble_eq_true rfl, Nat.le_of_ble_eq_true rfl⟩) ⟨fun _ U g mk q => by obtain ⟨q0, qP, qK⟩ := q; exact ⟨q0, qP, va_K.moved (u := U) (U := U.calling g mk _) (Vm.Alike.refl U.vm) qK⟩, va_recv hK hP (ci := 1) (q0 := 5) rfl rfl, fun U hU hW => ⟨rfl, by rw [hU]; exact hP, va_K.moved hW.alike hK⟩⟩ rfl rfl hl.1 rfl (lv_room (Nat.le_of_ble_eq_true rfl)) dX1_amount_58 ⟨Nat.zero_le _, Nat.zero_le _⟩) (fun r58 hr58 => ?_)
        subst hr58
        refine lv_if_eq (tgt := 68) hx hb dX1_amount_61 (by decide) (fun c61 => ?_) (fun c61 => ?_)
        · have c61 := bI_0.mp c61
          refine lv_iconst (v := 0) hx hb dX1_amount_68 (by decide) ?_
          exact W.iret (v := 0) hx hb hr (fun t ht hW => ⟨_, rfl, (by simp [amt, bI, s1_0, s1_1, s1_2, c61]), ht⟩) (fun _ h => absurd h List.not_mem_nil) dX1_amount_69
        · have c61 := bI_n0.mp c61
          refine lv_iconst (v := 1) hx hb dX1_amount_64 (by decide) ?_
          refine lv_goto (tgt := 69) hx hb dX1_amount_65 (by decide) ?_
          exact W.iret (v := 1) hx hb hr (fun t ht hW => ⟨_, rfl, (by simp [amt, bI, s1_0, s1_1, s1_2, c61]), ht⟩) (fun _ h => absurd h List.not_mem_nil) dX1_amount_69
      · skip
        by_cases s1_3 : w = 3
        · refine lv_tableIn (off := 69) (tgt := 70) hx hb dX1_amount_1 (by rw [s1_3]; decide) (by rw [s1_3]; decide) (by rw [s1_3]; decide) (by decide) ?_
          refine lv_aload_n hx hb dX1_amount_70 rfl (lv_at hl 0 rfl) ?_
          refine lv_iload_n hx hb dX1_amount_71 rfl (lv_at hl 1 rfl) ?_
          refine lv_iload_n hx hb dX1_amount_72 rfl (lv_at hl 3 rfl) ?_
          refine vp_callSi (W.runV (As := [.int (nI k), .int mk]) (rest := []) ⟨hx, hb, hml, hown, hts⟩ (c_isWithout l dC dI cI cZ cJ a v g k mk (by omega)) (cwV 2 hts (gd_V ml_X1_X1_isWithout im_X1_isWithout se_X1_isWithout in_X1 kX1_isWithout) rfl rfl rfl (by decide +kernel) ⟨Nat.le_of_ble_eq_true rfl, Nat.le_of_ble_eq_true rfl⟩) ⟨fun _ U g mk q => by obtain ⟨q0, qP, qK⟩ := q; exact ⟨q0, qP, va_K.moved (u := U) (U := U.calling g mk _) (Vm.Alike.refl U.vm) qK⟩, va_recv hK hP (ci := 1) (q0 := 5) rfl rfl, fun U hU hW => ⟨rfl, by rw [hU]; exact hP, va_K.moved hW.alike hK⟩⟩ rfl rfl hl.1 rfl (lv_room (Nat.le_of_ble_eq_true rfl)) dX1_amount_73 ⟨Nat.zero_le _, Nat.zero_le _⟩) (fun r73 hr73 => ?_)
          subst hr73
          refine lv_if_eq (tgt := 83) hx hb dX1_amount_76 (by decide) (fun c76 => ?_) (fun c76 => ?_)
          · have c76 := bI_0.mp c76
            refine lv_iconst (v := 0) hx hb dX1_amount_83 (by decide) ?_
            exact W.iret (v := 0) hx hb hr (fun t ht hW => ⟨_, rfl, (by simp [amt, bI, s1_0, s1_1, s1_2, s1_3, c76]), ht⟩) (fun _ h => absurd h List.not_mem_nil) dX1_amount_84
          · have c76 := bI_n0.mp c76
            refine lv_iconst (v := 1) hx hb dX1_amount_79 (by decide) ?_
            refine lv_goto (tgt := 84) hx hb dX1_amount_80 (by decide) ?_
            exact W.iret (v := 1) hx hb hr (fun t ht hW => ⟨_, rfl, (by simp [amt, bI, s1_0, s1_1, s1_2, s1_3, c76]), ht⟩) (fun _ h => absurd h List.not_mem_nil) dX1_amount_84
        · skip
          by_cases s1_4 : w = 4
          · refine lv_tableIn (off := 84) (tgt := 85) hx hb dX1_amount_1 (by rw [s1_4]; decide) (by rw [s1_4]; decide) (by rw [s1_4]; decide) (by decide) ?_
            refine lv_aload_n hx hb dX1_amount_85 rfl (lv_at hl 0 rfl) ?_
            refine va_get (D := (dC, dI)) (ci := 1) (v := .ref (a 12)) (C := RX1) (T := TX1) (N := 10) hx hb hts (fun w h => List.mem_cons_of_mem _ (iw_X1 w h)) hown hK hP 5 rfl rfl 6 (by decide) (hts _ (List.mem_cons_of_mem _ fl_X1_turnOuts)) (fun _ h9 => h9) rfl dX1_amount_86 ?_
            refine lv_iload_n hx hb dX1_amount_89 rfl (lv_at hl 1 rfl) ?_
            refine wi_ald hx hb hK hP 12 0 rfl rfl (k := k) (by omega) (by decide) dX1_amount_90 ?_
            refine vp_callSi (W.runS (As := [.int (g 9 k)]) (rest := []) ⟨hx, hb, hml, hown, hts⟩ (c_secondsOf l dC dI cI cZ cJ a v g (g 9 k)) (cwS 1 hts (gd_S ml_X1_X1_secondsOf sm_X1_secondsOf in_X1 kX1_secondsOf) rfl rfl rfl (by decide +kernel) ⟨Nat.le_of_ble_eq_true rfl, Nat.le_of_ble_eq_true rfl⟩) ⟨fun _ U g mk q => by obtain ⟨q0, qP, qK⟩ := q; exact ⟨q0, qP, va_K.moved (u := U) (U := U.calling g mk _) (Vm.Alike.refl U.vm) qK⟩, fun U hU hW => ⟨rfl, by rw [hU]; exact hP, va_K.moved hW.alike hK⟩⟩ rfl rfl hl.1 rfl (lv_room (Nat.le_of_ble_eq_true rfl)) dX1_amount_91 ⟨Nat.zero_le _, Nat.zero_le _⟩) (fun r91 hr91 => ?_)
            subst hr91
            exact W.iret (v := secs (g 9 k)) hx hb hr (fun t ht hW => ⟨_, rfl, (by simp [amt, bI, s1_0, s1_1, s1_2, s1_3, s1_4]), ht⟩) (fun _ h => absurd h List.not_mem_nil) dX1_amount_94
          · skip
            have t1_0 := lv_neT s1_0 (show (0 : Int32).toInt = 0 by decide)
            have t1_1 := lv_neT s1_1 (show (1 : Int32).toInt = 1 by decide)
            have t1_2 := lv_neT s1_2 (show (2 : Int32).toInt = 2 by decide)
            have t1_3 := lv_neT s1_3 (show (3 : Int32).toInt = 3 by decide)
            have t1_4 := lv_neT s1_4 (show (4 : Int32).toInt = 4 by decide)
            refine lv_tableOut (tgt := 95) hx hb dX1_amount_1 (by omega) (by decide) ?_
            refine lv_iconst (v := 0) hx hb dX1_amount_95 (by decide) ?_
            exact W.iret (v := 0) hx hb hr (fun t ht hW => ⟨_, rfl, (by simp [amt, bI, s1_0, s1_1, s1_2, s1_3, s1_4]), ht⟩) (fun _ h => absurd h List.not_mem_nil) dX1_amount_96
set_option maxHeartbeats 4000000 in
set_option maxRecDepth 100000 in
theorem c_markOn (l : Launch) (dC : Nat → ClassId) (dI : Nat → Nat → Nat) (cI cZ cJ : ClassId) (a : Nat → Nat) (v : Nat → Int32) (g : Nat → Nat → Int32)  (nd : Nat) (hnd : v 4 = nI nd) (hnd2 : nd ≤ 6) (day : Int32) : Met l yX0_markOn wsX0_markOn ({ frames := 0, cells := 0, slots := 0, locals := 0 }) (va_Pc [.ref (a 2), .int day] (fun U => va_P (dC, dI) clA (wA cI cZ a v g) U.heap ∧ va_K (dC, dI) clA (tyA cI cZ cJ) U)) (vp_Si (fun r => r = mkOn g nd day)) 0 0 (fun _ => False) := by
  refine Met.ofW (cc := cX0_markOn) (maxL := 5) (ret := (some .int)) (by decide) rfl ?_
  intro p e s m args below meth c s₁ B hml hv
  obtain ⟨rfl, hP, hK⟩ := hv
  have hx := B.exec
  have hb := B.bytes
  have hr := B.returns
  have hts := atoms_spec (ws := wsX0_markOn) B.pre
  have hown : s.vm.findClass RX0 = some m.cls := findClass_of_methodNamed B.named
  have hlocks := B.notSynchronized
  have hl := lv_entry ([.ref (a 2), .int day]) (n := 5) (Nat.le_of_ble_eq_true rfl)
  rw [lg_entry_eq]
  generalize (lg_sl ([.ref (a 2), .int day]) ++ List.replicate (5 - (lg_sl ([.ref (a 2), .int day])).length) Slot.unset).toArray = ls at hl ⊢
  have hl : lv_has ls 5 [(0, .ref (a 2)), (1, .int day)] := hl
  refine lv_iconst (v := (-1)) hx hb dX0_markOn_0 (by decide) ?_
  refine lv_istore_n (lv' := [(2, .int (-1)), (0, .ref (a 2)), (1, .int day)]) hx hb dX0_markOn_1 rfl hl (by decide) rfl (fun ls hl => ?_)
  refine lv_iconst (v := 0) hx hb dX0_markOn_2 (by decide) ?_
  refine lv_istore_n (lv' := [(3, .int 0), (2, .int (-1)), (0, .ref (a 2)), (1, .int day)]) hx hb dX0_markOn_3 rfl hl (by decide) rfl (fun ls hl => ?_)
  refine lv_iconst (v := 0) hx hb dX0_markOn_4 (by decide) ?_
  refine lv_istore (lv' := [(4, .int 0), (3, .int 0), (2, .int (-1)), (0, .ref (a 2)), (1, .int day)]) hx hb dX0_markOn_5 hl (by decide) rfl (fun ls hl => ?_)
  have lp : ∀ (d k : Nat), 0 ≤ k → k ≤ nd → nd + 1 ≤ k + d → ∀ (mk si : Int32), mk = (mkF g day k).1 → si = (mkF g day k).2 → ∀ (ls : Array Slot), lv_has ls 5 [(4, .int (nI k)), (2, .int mk), (3, .int si), (0, .ref (a 2)), (1, .int day)] → W p l e (headSpec wsX0_markOn ({ frames := 0, cells := 0, slots := 0, locals := 0 })).room s m ([.ref (a 2), .int day] : List Value).toArray below meth c s.heap [] 0 0 (MQ below (vp_Si (fun r => r = mkOn g nd day)) ([.ref (a 2), .int day] : List Value).toArray s 0 0 (fun _ => False)) (F0 m 7 ls []) := by
    intro d
    induction d with
    | zero => intro k h0 h1 h2; exact absurd h2 (by omega)
    | succ d ih =>
      intro k hk0 hkn hkd mk si ea_mk ea_si ls hl
      subst ea_mk ea_si
      refine lv_iload hx hb dX0_markOn_7 (lv_at hl 0 rfl) ?_
      refine lv_aload_n hx hb dX0_markOn_9 rfl (lv_at hl 3 rfl) ?_
      refine va_get (D := (dC, dI)) (ci := 0) (v := .int (v 4)) (C := RX0) (T := TX0) (N := 3) hx hb hts (fun w h => List.mem_cons_of_mem _ (iw_X0 w h)) hown hK hP 2 rfl rfl 2 (by decide) (hts _ (List.mem_cons_of_mem _ fl_X0_size)) (fun _ h9 => h9) rfl dX0_markOn_10 ?_
      refine lv_icmp_ge (tgt := 60) hx hb dX0_markOn_13 (by decide) (fun c13 => ?_) (fun c13 => ?_)
      · have n13 := Int32.not_lt.mpr c13
        rw [hnd] at c13
        have hkn2 : k = nd := Nat.le_antisymm hkn ((nI_leI (by omega) (by omega)).mp c13)
        refine lv_iload_n hx hb dX0_markOn_60 rfl (lv_at hl 1 rfl) ?_
        exact W.iret (v := (mkF g day k).1) hx hb hr (fun t ht hW => ⟨_, rfl, (by subst hkn2; rfl), ht⟩) (fun _ h => absurd h List.not_mem_nil) dX0_markOn_61
      · have n13 := Int32.not_le.mp c13
        rw [hnd] at c13
        have hk : k < nd := Nat.lt_of_not_le (fun h => c13 (nI_le h (by omega)))
        refine lv_aload_n hx hb dX0_markOn_16 rfl (lv_at hl 3 rfl) ?_
        refine va_get (D := (dC, dI)) (ci := 0) (v := .ref (a 3)) (C := RX0) (T := TX0) (N := 3) hx hb hts (fun w h => List.mem_cons_of_mem _ (iw_X0 w h)) hown hK hP 2 rfl rfl 0 (by decide) (hts _ (List.mem_cons_of_mem _ fl_X0_days)) (fun _ h9 => h9) rfl dX0_markOn_17 ?_
        refine lv_iload hx hb dX0_markOn_20 (lv_at hl 0 rfl) ?_
        refine wi_ald hx hb hK hP 3 0 rfl rfl (k := k) (by omega) (by decide) dX0_markOn_22 ?_
        refine lv_iload_n hx hb dX0_markOn_23 rfl (lv_at hl 4 rfl) ?_
        refine lv_icmp_gt (tgt := 54) hx hb dX0_markOn_24 (by decide) (fun c24 => ?_) (fun c24 => ?_)
        · have n24 := Int32.not_le.mpr c24
          refine lv_iinc (v := nI (k + 1)) (lv' := [(4, .int (nI (k + 1))), (2, .int ((mkF g day k).1)), (3, .int ((mkF g day k).2)), (0, .ref (a 2)), (1, .int day)]) hx hb dX0_markOn_54 hl (k := 0) rfl (nI_1 k) (by decide) rfl (fun ls hl => ?_)
          refine lv_goto (tgt := 7) hx hb dX0_markOn_57 (by decide) ?_
          exact ih (k + 1) (by omega) (by omega) (by omega) _ _ (by simp [mkF, c13, n13, c24, n24]) (by simp [mkF, c13, n13, c24, n24]) ls (lv_sub hl [0, 1, 2, 3, 4] rfl)
        · have n24 := Int32.not_lt.mp c24
          refine lv_aload_n hx hb dX0_markOn_27 rfl (lv_at hl 3 rfl) ?_
          refine va_get (D := (dC, dI)) (ci := 0) (v := .ref (a 3)) (C := RX0) (T := TX0) (N := 3) hx hb hts (fun w h => List.mem_cons_of_mem _ (iw_X0 w h)) hown hK hP 2 rfl rfl 0 (by decide) (hts _ (List.mem_cons_of_mem _ fl_X0_days)) (fun _ h9 => h9) rfl dX0_markOn_28 ?_
          refine lv_iload hx hb dX0_markOn_31 (lv_at hl 0 rfl) ?_
          refine wi_ald hx hb hK hP 3 0 rfl rfl (k := k) (by omega) (by decide) dX0_markOn_33 ?_
          refine lv_iload_n hx hb dX0_markOn_34 rfl (lv_at hl 2 rfl) ?_
          refine lv_icmp_lt (tgt := 54) hx hb dX0_markOn_35 (by decide) (fun c35 => ?_) (fun c35 => ?_)
          · have n35 := Int32.not_le.mpr c35
            refine lv_iinc (v := nI (k + 1)) (lv' := [(4, .int (nI (k + 1))), (2, .int ((mkF g day k).1)), (3, .int ((mkF g day k).2)), (0, .ref (a 2)), (1, .int day)]) hx hb dX0_markOn_54 hl (k := 0) rfl (nI_1 k) (by decide) rfl (fun ls hl => ?_)
            refine lv_goto (tgt := 7) hx hb dX0_markOn_57 (by decide) ?_
            exact ih (k + 1) (by omega) (by omega) (by omega) _ _ (by simp [mkF, c13, n13, c24, n24, c35, n35]) (by simp [mkF, c13, n13, c24, n24, c35, n35]) ls (lv_sub hl [0, 1, 2, 3, 4] rfl)
          · have n35 := Int32.not_lt.mp c35
            refine lv_aload_n hx hb dX0_markOn_38 rfl (lv_at hl 3 rfl) ?_
            refine va_get (D := (dC, dI)) (ci := 0) (v := .ref (a 3)) (C := RX0) (T := TX0) (N := 3) hx hb hts (fun w h => List.mem_cons_of_mem _ (iw_X0 w h)) hown hK hP 2 rfl rfl 0 (by decide) (hts _ (List.mem_cons_of_mem _ fl_X0_days)) (fun _ h9 => h9) rfl dX0_markOn_39 ?_
            refine lv_iload hx hb dX0_markOn_42 (lv_at hl 0 rfl) ?_
            refine wi_ald hx hb hK hP 3 0 rfl rfl (k := k) (by omega) (by decide) dX0_markOn_44 ?_
            refine lv_istore_n (lv' := [(3, .int (g 1 k)), (4, .int (nI k)), (2, .int ((mkF g day k).1)), (0, .ref (a 2)), (1, .int day)]) hx hb dX0_markOn_45 rfl hl (by decide) rfl (fun ls hl => ?_)
            refine lv_aload_n hx hb dX0_markOn_46 rfl (lv_at hl 3 rfl) ?_
            refine va_get (D := (dC, dI)) (ci := 0) (v := .ref (a 4)) (C := RX0) (T := TX0) (N := 3) hx hb hts (fun w h => List.mem_cons_of_mem _ (iw_X0 w h)) hown hK hP 2 rfl rfl 1 (by decide) (hts _ (List.mem_cons_of_mem _ fl_X0_limits)) (fun _ h9 => h9) rfl dX0_markOn_47 ?_
            refine lv_iload hx hb dX0_markOn_50 (lv_at hl 1 rfl) ?_
            refine wi_ald hx hb hK hP 4 0 rfl rfl (k := k) (by omega) (by decide) dX0_markOn_52 ?_
            refine lv_istore_n (lv' := [(2, .int (g 2 k)), (3, .int (g 1 k)), (4, .int (nI k)), (0, .ref (a 2)), (1, .int day)]) hx hb dX0_markOn_53 rfl hl (by decide) rfl (fun ls hl => ?_)
            refine lv_iinc (v := nI (k + 1)) (lv' := [(4, .int (nI (k + 1))), (2, .int (g 2 k)), (3, .int (g 1 k)), (0, .ref (a 2)), (1, .int day)]) hx hb dX0_markOn_54 hl (k := 2) rfl (nI_1 k) (by decide) rfl (fun ls hl => ?_)
            refine lv_goto (tgt := 7) hx hb dX0_markOn_57 (by decide) ?_
            exact ih (k + 1) (by omega) (by omega) (by omega) _ _ (by simp [mkF, c13, n13, c24, n24, c35, n35]) (by simp [mkF, c13, n13, c24, n24, c35, n35]) ls (lv_sub hl [0, 1, 2, 3, 4] rfl)
  exact lp (nd + 1) 0 (by omega) (by omega) (by omega) _ _ (rfl) (rfl) ls (lv_sub hl [0, 2, 1, 3, 4] rfl)
set_option maxHeartbeats 4000000 in
set_option maxRecDepth 100000 in
theorem c_last (l : Launch) (dC : Nat → ClassId) (dI : Nat → Nat → Nat) (cI cZ cJ : ClassId) (a : Nat → Nat) (v : Nat → Int32) (g : Nat → Nat → Int32) (nd : Nat) (hnd : v 4 = nI nd) (hnd2 : nd ≤ 6) (j : Nat) (hj : j < nd) : Met l yX0_isLastOfItsDay wsX0_isLastOfItsDay ({ frames := 0, cells := 0, slots := 0, locals := 0 }) (va_Pc [.ref (a 2), .int (nI j)] (fun U => va_P (dC, dI) clA (wA cI cZ a v g) U.heap ∧ va_K (dC, dI) clA (tyA cI cZ cJ) U)) (vp_Si (fun r => r = bI (lastB g nd j))) 0 0 (fun _ => False) := by
  refine Met.ofW (cc := cX0_isLastOfItsDay) (maxL := 3) (ret := (some .boolean)) (by decide) rfl ?_
  intro p e s m args below meth c s₁ B hml hv
  obtain ⟨rfl, hP, hK⟩ := hv
  have hx := B.exec
  have hb := B.bytes
  have hr := B.returns
  have hts := atoms_spec (ws := wsX0_isLastOfItsDay) B.pre
  have hown : s.vm.findClass RX0 = some m.cls := findClass_of_methodNamed B.named
  have hlocks := B.notSynchronized
  have hl := lv_entry ([.ref (a 2), .int (nI j)]) (n := 3) (Nat.le_of_ble_eq_true rfl)
  rw [lg_entry_eq]
  generalize (lg_sl ([.ref (a 2), .int (nI j)]) ++ List.replicate (3 - (lg_sl ([.ref (a 2), .int (nI j)])).length) Slot.unset).toArray = ls at hl ⊢
  have hl : lv_has ls 3 [(0, .ref (a 2)), (1, .int (nI j))] := hl
  refine lv_iload_n hx hb dX0_isLastOfItsDay_0 rfl (lv_at hl 1 rfl) ?_
  refine lv_iconst (v := 1) hx hb dX0_isLastOfItsDay_1 (by decide) ?_
  refine lv_iadd hx hb dX0_isLastOfItsDay_2 ?_
  rw [nI_1 j]
  refine lv_istore_n (lv' := [(2, .int (nI (j + 1))), (0, .ref (a 2)), (1, .int (nI j))]) hx hb dX0_isLastOfItsDay_3 rfl hl (by decide) rfl (fun ls hl => ?_)
  have lp : ∀ (d k : Nat), j + 1 ≤ k → k ≤ nd → nd + 1 ≤ k + d → (∀ i, i < k → j < i → ¬ g 1 i = g 1 j) → ∀ (ls : Array Slot), lv_has ls 3 [(2, .int (nI k)), (0, .ref (a 2)), (1, .int (nI j))] → W p l e (headSpec wsX0_isLastOfItsDay ({ frames := 0, cells := 0, slots := 0, locals := 0 })).room s m ([.ref (a 2), .int (nI j)] : List Value).toArray below meth c s.heap [] 0 0 (MQ below (vp_Si (fun r => r = bI (lastB g nd j))) ([.ref (a 2), .int (nI j)] : List Value).toArray s 0 0 (fun _ => False)) (F0 m 4 ls []) := by
    intro d
    induction d with
    | zero => intro k h0 h1 h2; exact absurd h2 (by omega)
    | succ d ih =>
      intro k hk0 hkn hkd hall ls hl
      refine lv_iload_n hx hb dX0_isLastOfItsDay_4 rfl (lv_at hl 0 rfl) ?_
      refine lv_aload_n hx hb dX0_isLastOfItsDay_5 rfl (lv_at hl 1 rfl) ?_
      refine va_get (D := (dC, dI)) (ci := 0) (v := .int (v 4)) (C := RX0) (T := TX0) (N := 3) hx hb hts (fun w h => List.mem_cons_of_mem _ (iw_X0 w h)) hown hK hP 2 rfl rfl 2 (by decide) (hts _ (List.mem_cons_of_mem _ fl_X0_size)) (fun _ h9 => h9) rfl dX0_isLastOfItsDay_6 ?_
      refine lv_icmp_ge (tgt := 35) hx hb dX0_isLastOfItsDay_9 (by decide) (fun c9 => ?_) (fun c9 => ?_)
      · have n9 := Int32.not_lt.mpr c9
        rw [hnd] at c9
        have hkn2 : k = nd := Nat.le_antisymm hkn ((nI_leI (by omega) (by omega)).mp c9)
        refine lv_iconst (v := 1) hx hb dX0_isLastOfItsDay_35 (by decide) ?_
        exact W.zret (v := 1) hx hb hr rfl (fun t ht hW => ⟨_, rfl, (by subst hkn2; rw [show lastB g k j = true from decide_eq_true hall]; rfl), ht⟩) (fun _ h => absurd h List.not_mem_nil) dX0_isLastOfItsDay_36
      · have n9 := Int32.not_le.mp c9
        rw [hnd] at c9
        have hk : k < nd := Nat.lt_of_not_le (fun h => c9 (nI_le h (by omega)))
        refine lv_aload_n hx hb dX0_isLastOfItsDay_12 rfl (lv_at hl 1 rfl) ?_
        refine va_get (D := (dC, dI)) (ci := 0) (v := .ref (a 3)) (C := RX0) (T := TX0) (N := 3) hx hb hts (fun w h => List.mem_cons_of_mem _ (iw_X0 w h)) hown hK hP 2 rfl rfl 0 (by decide) (hts _ (List.mem_cons_of_mem _ fl_X0_days)) (fun _ h9 => h9) rfl dX0_isLastOfItsDay_13 ?_
        refine lv_iload_n hx hb dX0_isLastOfItsDay_16 rfl (lv_at hl 0 rfl) ?_
        refine wi_ald hx hb hK hP 3 0 rfl rfl (k := k) (by omega) (by decide) dX0_isLastOfItsDay_17 ?_
        refine lv_aload_n hx hb dX0_isLastOfItsDay_18 rfl (lv_at hl 1 rfl) ?_
        refine va_get (D := (dC, dI)) (ci := 0) (v := .ref (a 3)) (C := RX0) (T := TX0) (N := 3) hx hb hts (fun w h => List.mem_cons_of_mem _ (iw_X0 w h)) hown hK hP 2 rfl rfl 0 (by decide) (hts _ (List.mem_cons_of_mem _ fl_X0_days)) (fun _ h9 => h9) rfl dX0_isLastOfItsDay_19 ?_
        refine lv_iload_n hx hb dX0_isLastOfItsDay_22 rfl (lv_at hl 2 rfl) ?_
        refine wi_ald hx hb hK hP 3 0 rfl rfl (k := j) (by omega) (by decide) dX0_isLastOfItsDay_23 ?_
        refine lv_icmp_ne (tgt := 29) hx hb dX0_isLastOfItsDay_24 (by decide) (fun c24 => ?_) (fun c24 => ?_)
        · refine lv_iinc (v := nI (k + 1)) (lv' := [(2, .int (nI (k + 1))), (0, .ref (a 2)), (1, .int (nI j))]) hx hb dX0_isLastOfItsDay_29 hl (k := 0) rfl (nI_1 k) (by decide) rfl (fun ls hl => ?_)
          refine lv_goto (tgt := 4) hx hb dX0_isLastOfItsDay_32 (by decide) ?_
          exact ih (k + 1) (by omega) (by omega) (by omega) (fun i h1 h2 => by rcases Nat.lt_or_ge i k with h | h; exact hall i h h2; rw [show i = k by omega]; exact c24) ls (lv_sub hl [0, 1, 2] rfl)
        · refine lv_iconst (v := 0) hx hb dX0_isLastOfItsDay_27 (by decide) ?_
          exact W.zret (v := 0) hx hb hr rfl (fun t ht hW => ⟨_, rfl, (by rw [not_last g hk (by omega) c24]; rfl), ht⟩) (fun _ h => absurd h List.not_mem_nil) dX0_isLastOfItsDay_28
  exact lp (nd + 1) (j + 1) (by omega) (by omega) (by omega) (fun i h1 h2 => absurd h1 (by omega)) ls (lv_sub hl [0, 1, 2] rfl)
set_option maxHeartbeats 4000000 in
set_option maxRecDepth 100000 in
theorem c_changes (l : Launch) (dC : Nat → ClassId) (dI : Nat → Nat → Nat) (cI cZ cJ : ClassId) (a : Nat → Nat) (v : Nat → Int32) (g : Nat → Nat → Int32)  (nd : Nat) (hnd : v 4 = nI nd) (hnd2 : nd ≤ 6) (f t : Int32) : Met l yX0_changes wsX0_changes ({ frames := 1, cells := 0, slots := 0, locals := 24 }) (va_Pc [.ref (a 2), .int f, .int t] (fun U => va_P (dC, dI) clA (wA cI cZ a v g) U.heap ∧ va_K (dC, dI) clA (tyA cI cZ cJ) U)) (vp_Si (fun r => r = cnt (fun i => chgB g nd f t i) nd)) 0 0 (fun _ => False) := by
  refine Met.ofW (cc := cX0_changes) (maxL := 7) (ret := (some .int)) (by decide) rfl ?_
  intro p e s m args below meth c s₁ B hml hv
  obtain ⟨rfl, hP, hK⟩ := hv
  have hx := B.exec
  have hb := B.bytes
  have hr := B.returns
  have hts := atoms_spec (ws := wsX0_changes) B.pre
  have hown : s.vm.findClass RX0 = some m.cls := findClass_of_methodNamed B.named
  have hlocks := B.notSynchronized
  have hl := lv_entry ([.ref (a 2), .int f, .int t]) (n := 7) (Nat.le_of_ble_eq_true rfl)
  rw [lg_entry_eq]
  generalize (lg_sl ([.ref (a 2), .int f, .int t]) ++ List.replicate (7 - (lg_sl ([.ref (a 2), .int f, .int t])).length) Slot.unset).toArray = ls at hl ⊢
  have hl : lv_has ls 7 [(0, .ref (a 2)), (1, .int f), (2, .int t)] := hl
  refine lv_iconst (v := 0) hx hb dX0_changes_0 (by decide) ?_
  refine lv_istore_n (lv' := [(3, .int 0), (0, .ref (a 2)), (1, .int f), (2, .int t)]) hx hb dX0_changes_1 rfl hl (by decide) rfl (fun ls hl => ?_)
  refine lv_iconst (v := 0) hx hb dX0_changes_2 (by decide) ?_
  refine lv_istore (lv' := [(4, .int 0), (3, .int 0), (0, .ref (a 2)), (1, .int f), (2, .int t)]) hx hb dX0_changes_3 hl (by decide) rfl (fun ls hl => ?_)
  have lp : ∀ (d k : Nat), 0 ≤ k → k ≤ nd → nd + 1 ≤ k + d → ∀ (acc : Int32), acc = cnt (fun i => chgB g nd f t i) k → ∀ (ls : Array Slot), lv_has ls 7 [(4, .int (nI k)), (3, .int acc), (0, .ref (a 2)), (1, .int f), (2, .int t)] → W p l e (headSpec wsX0_changes ({ frames := 1, cells := 0, slots := 0, locals := 24 })).room s m ([.ref (a 2), .int f, .int t] : List Value).toArray below meth c s.heap [] 0 0 (MQ below (vp_Si (fun r => r = cnt (fun i => chgB g nd f t i) nd)) ([.ref (a 2), .int f, .int t] : List Value).toArray s 0 0 (fun _ => False)) (F0 m 5 ls []) := by
    intro d
    induction d with
    | zero => intro k h0 h1 h2; exact absurd h2 (by omega)
    | succ d ih =>
      intro k hk0 hkn hkd acc ea_acc ls hl
      subst ea_acc
      refine lv_iload hx hb dX0_changes_5 (lv_at hl 0 rfl) ?_
      refine lv_aload_n hx hb dX0_changes_7 rfl (lv_at hl 2 rfl) ?_
      refine va_get (D := (dC, dI)) (ci := 0) (v := .int (v 4)) (C := RX0) (T := TX0) (N := 3) hx hb hts (fun w h => List.mem_cons_of_mem _ (iw_X0 w h)) hown hK hP 2 rfl rfl 2 (by decide) (hts _ (List.mem_cons_of_mem _ fl_X0_size)) (fun _ h9 => h9) rfl dX0_changes_8 ?_
      refine lv_icmp_ge (tgt := 82) hx hb dX0_changes_11 (by decide) (fun c11 => ?_) (fun c11 => ?_)
      · have n11 := Int32.not_lt.mpr c11
        rw [hnd] at c11
        have hkn2 : k = nd := Nat.le_antisymm hkn ((nI_leI (by omega) (by omega)).mp c11)
        refine lv_iload_n hx hb dX0_changes_82 rfl (lv_at hl 1 rfl) ?_
        exact W.iret (v := cnt (fun i => chgB g nd f t i) k) hx hb hr (fun t ht hW => ⟨_, rfl, (by subst hkn2; rfl), ht⟩) (fun _ h => absurd h List.not_mem_nil) dX0_changes_83
      · have n11 := Int32.not_le.mp c11
        rw [hnd] at c11
        have hk : k < nd := Nat.lt_of_not_le (fun h => c11 (nI_le h (by omega)))
        refine lv_aload_n hx hb dX0_changes_14 rfl (lv_at hl 2 rfl) ?_
        refine va_get (D := (dC, dI)) (ci := 0) (v := .ref (a 3)) (C := RX0) (T := TX0) (N := 3) hx hb hts (fun w h => List.mem_cons_of_mem _ (iw_X0 w h)) hown hK hP 2 rfl rfl 0 (by decide) (hts _ (List.mem_cons_of_mem _ fl_X0_days)) (fun _ h9 => h9) rfl dX0_changes_15 ?_
        refine lv_iload hx hb dX0_changes_18 (lv_at hl 0 rfl) ?_
        refine wi_ald hx hb hK hP 3 0 rfl rfl (k := k) (by omega) (by decide) dX0_changes_20 ?_
        refine lv_istore (lv' := [(5, .int (g 1 k)), (4, .int (nI k)), (3, .int (cnt (fun i => chgB g nd f t i) k)), (0, .ref (a 2)), (1, .int f), (2, .int t)]) hx hb dX0_changes_21 hl (by decide) rfl (fun ls hl => ?_)
        refine lv_iload hx hb dX0_changes_23 (lv_at hl 0 rfl) ?_
        refine lv_iload_n hx hb dX0_changes_25 rfl (lv_at hl 4 rfl) ?_
        refine lv_icmp_le (tgt := 39) hx hb dX0_changes_26 (by decide) (fun c26 => ?_) (fun c26 => ?_)
        · have n26 := Int32.not_lt.mpr c26
          refine lv_iconst (v := 0) hx hb dX0_changes_39 (by decide) ?_
          refine lv_istore (lv' := [(6, .int 0), (5, .int (g 1 k)), (4, .int (nI k)), (3, .int (cnt (fun i => chgB g nd f t i) k)), (0, .ref (a 2)), (1, .int f), (2, .int t)]) hx hb dX0_changes_40 hl (by decide) rfl (fun ls hl => ?_)
          refine lv_iload hx hb dX0_changes_42 (lv_at hl 0 rfl) ?_
          refine lv_if_eq (tgt := 76) hx hb dX0_changes_44 (by decide) (fun c44 => ?_) (fun c44 => ?_)
          · refine lv_iinc (v := nI (k + 1)) (lv' := [(4, .int (nI (k + 1))), (6, .int 0), (5, .int (g 1 k)), (3, .int (cnt (fun i => chgB g nd f t i) k)), (0, .ref (a 2)), (1, .int f), (2, .int t)]) hx hb dX0_changes_76 hl (k := 2) rfl (nI_1 k) (by decide) rfl (fun ls hl => ?_)
            refine lv_goto (tgt := 5) hx hb dX0_changes_79 (by decide) ?_
            exact ih (k + 1) (by omega) (by omega) (by omega) _ (by simp [cnt_s, bI, chgB, c11, n11, c26, n26]) ls (lv_sub hl [0, 3, 4, 5, 6] rfl)
          · exact absurd c44 (by decide)
        · have n26 := Int32.not_le.mp c26
          refine lv_iload hx hb dX0_changes_29 (lv_at hl 0 rfl) ?_
          refine lv_iload_n hx hb dX0_changes_31 rfl (lv_at hl 5 rfl) ?_
          refine lv_icmp_gt (tgt := 39) hx hb dX0_changes_32 (by decide) (fun c32 => ?_) (fun c32 => ?_)
          · have n32 := Int32.not_le.mpr c32
            refine lv_iconst (v := 0) hx hb dX0_changes_39 (by decide) ?_
            refine lv_istore (lv' := [(6, .int 0), (5, .int (g 1 k)), (4, .int (nI k)), (3, .int (cnt (fun i => chgB g nd f t i) k)), (0, .ref (a 2)), (1, .int f), (2, .int t)]) hx hb dX0_changes_40 hl (by decide) rfl (fun ls hl => ?_)
            refine lv_iload hx hb dX0_changes_42 (lv_at hl 0 rfl) ?_
            refine lv_if_eq (tgt := 76) hx hb dX0_changes_44 (by decide) (fun c44 => ?_) (fun c44 => ?_)
            · refine lv_iinc (v := nI (k + 1)) (lv' := [(4, .int (nI (k + 1))), (6, .int 0), (5, .int (g 1 k)), (3, .int (cnt (fun i => chgB g nd f t i) k)), (0, .ref (a 2)), (1, .int f), (2, .int t)]) hx hb dX0_changes_76 hl (k := 2) rfl (nI_1 k) (by decide) rfl (fun ls hl => ?_)
              refine lv_goto (tgt := 5) hx hb dX0_changes_79 (by decide) ?_
              exact ih (k + 1) (by omega) (by omega) (by omega) _ (by simp [cnt_s, bI, chgB, c11, n11, c26, n26, c32, n32]) ls (lv_sub hl [0, 3, 4, 5, 6] rfl)
            · exact absurd c44 (by decide)
          · have n32 := Int32.not_lt.mp c32
            refine lv_iconst (v := 1) hx hb dX0_changes_35 (by decide) ?_
            refine lv_goto (tgt := 40) hx hb dX0_changes_36 (by decide) ?_
            refine lv_istore (lv' := [(6, .int 1), (5, .int (g 1 k)), (4, .int (nI k)), (3, .int (cnt (fun i => chgB g nd f t i) k)), (0, .ref (a 2)), (1, .int f), (2, .int t)]) hx hb dX0_changes_40 hl (by decide) rfl (fun ls hl => ?_)
            refine lv_iload hx hb dX0_changes_42 (lv_at hl 0 rfl) ?_
            refine lv_if_eq (tgt := 76) hx hb dX0_changes_44 (by decide) (fun c44 => ?_) (fun c44 => ?_)
            · exact absurd c44 (by decide)
            · refine lv_aload_n hx hb dX0_changes_47 rfl (lv_at hl 4 rfl) ?_
              refine lv_iload hx hb dX0_changes_48 (lv_at hl 2 rfl) ?_
              refine vp_callSi (W.runV (As := [.int (nI k)]) (rest := []) ⟨hx, hb, hml, hown, hts⟩ (c_last l dC dI cI cZ cJ a v g nd hnd hnd2 k (by omega)) (cwV 1 hts (gd_V ml_X0_X0_isLastOfItsDay im_X0_isLastOfItsDay se_X0_isLastOfItsDay in_X0 kX0_isLastOfItsDay) rfl rfl rfl (by decide +kernel) ⟨Nat.le_of_ble_eq_true rfl, Nat.le_of_ble_eq_true rfl⟩) ⟨fun _ U g mk q => by obtain ⟨q0, qP, qK⟩ := q; exact ⟨q0, qP, va_K.moved (u := U) (U := U.calling g mk _) (Vm.Alike.refl U.vm) qK⟩, va_recv hK hP (ci := 0) (q0 := 2) rfl rfl, fun U hU hW => ⟨rfl, by rw [hU]; exact hP, va_K.moved hW.alike hK⟩⟩ rfl rfl hl.1 rfl (lv_room (Nat.le_of_ble_eq_true rfl)) dX0_changes_50 ⟨Nat.zero_le _, Nat.zero_le _⟩) (fun r50 hr50 => ?_)
              subst hr50
              refine lv_if_eq (tgt := 76) hx hb dX0_changes_53 (by decide) (fun c53 => ?_) (fun c53 => ?_)
              · have c53 := bI_0.mp c53
                refine lv_iinc (v := nI (k + 1)) (lv' := [(4, .int (nI (k + 1))), (6, .int 1), (5, .int (g 1 k)), (3, .int (cnt (fun i => chgB g nd f t i) k)), (0, .ref (a 2)), (1, .int f), (2, .int t)]) hx hb dX0_changes_76 hl (k := 2) rfl (nI_1 k) (by decide) rfl (fun ls hl => ?_)
                refine lv_goto (tgt := 5) hx hb dX0_changes_79 (by decide) ?_
                exact ih (k + 1) (by omega) (by omega) (by omega) _ (by simp [cnt_s, bI, chgB, c11, n11, c26, n26, c32, n32, c53]) ls (lv_sub hl [0, 3, 4, 5, 6] rfl)
              · have c53 := bI_n0.mp c53
                refine lv_aload_n hx hb dX0_changes_56 rfl (lv_at hl 4 rfl) ?_
                refine lv_iload hx hb dX0_changes_57 (lv_at hl 1 rfl) ?_
                refine vp_callSi (W.runV (As := [.int (g 1 k)]) (rest := []) ⟨hx, hb, hml, hown, hts⟩ (c_markOn l dC dI cI cZ cJ a v g nd hnd hnd2 (g 1 k)) (cwV 1 hts (gd_V ml_X0_X0_markOn im_X0_markOn se_X0_markOn in_X0 kX0_markOn) rfl rfl rfl (by decide +kernel) ⟨Nat.le_of_ble_eq_true rfl, Nat.le_of_ble_eq_true rfl⟩) ⟨fun _ U g mk q => by obtain ⟨q0, qP, qK⟩ := q; exact ⟨q0, qP, va_K.moved (u := U) (U := U.calling g mk _) (Vm.Alike.refl U.vm) qK⟩, va_recv hK hP (ci := 0) (q0 := 2) rfl rfl, fun U hU hW => ⟨rfl, by rw [hU]; exact hP, va_K.moved hW.alike hK⟩⟩ rfl rfl hl.1 rfl (lv_room (Nat.le_of_ble_eq_true rfl)) dX0_changes_59 ⟨Nat.zero_le _, Nat.zero_le _⟩) (fun r59 hr59 => ?_)
                subst hr59
                refine lv_aload_n hx hb dX0_changes_62 rfl (lv_at hl 4 rfl) ?_
                refine lv_iload hx hb dX0_changes_63 (lv_at hl 1 rfl) ?_
                refine lv_iconst (v := 1) hx hb dX0_changes_65 (by decide) ?_
                refine lv_isub hx hb dX0_changes_66 ?_
                refine vp_callSi (W.runV (As := [.int ((g 1 k) - 1)]) (rest := [.int (mkOn g nd (g 1 k))]) ⟨hx, hb, hml, hown, hts⟩ (c_markOn l dC dI cI cZ cJ a v g nd hnd hnd2 ((g 1 k) - 1)) (cwV 1 hts (gd_V ml_X0_X0_markOn im_X0_markOn se_X0_markOn in_X0 kX0_markOn) rfl rfl rfl (by decide +kernel) ⟨Nat.le_of_ble_eq_true rfl, Nat.le_of_ble_eq_true rfl⟩) ⟨fun _ U g mk q => by obtain ⟨q0, qP, qK⟩ := q; exact ⟨q0, qP, va_K.moved (u := U) (U := U.calling g mk _) (Vm.Alike.refl U.vm) qK⟩, va_recv hK hP (ci := 0) (q0 := 2) rfl rfl, fun U hU hW => ⟨rfl, by rw [hU]; exact hP, va_K.moved hW.alike hK⟩⟩ rfl rfl hl.1 rfl (lv_room (Nat.le_of_ble_eq_true rfl)) dX0_changes_67 ⟨Nat.zero_le _, Nat.zero_le _⟩) (fun r67 hr67 => ?_)
                subst hr67
                refine lv_icmp_eq (tgt := 76) hx hb dX0_changes_70 (by decide) (fun c70 => ?_) (fun c70 => ?_)
                · refine lv_iinc (v := nI (k + 1)) (lv' := [(4, .int (nI (k + 1))), (6, .int 1), (5, .int (g 1 k)), (3, .int (cnt (fun i => chgB g nd f t i) k)), (0, .ref (a 2)), (1, .int f), (2, .int t)]) hx hb dX0_changes_76 hl (k := 2) rfl (nI_1 k) (by decide) rfl (fun ls hl => ?_)
                  refine lv_goto (tgt := 5) hx hb dX0_changes_79 (by decide) ?_
                  exact ih (k + 1) (by omega) (by omega) (by omega) _ (by simp [cnt_s, bI, chgB, c11, n11, c26, n26, c32, n32, c53, c70]) ls (lv_sub hl [0, 3, 4, 5, 6] rfl)
                · refine lv_iinc (v := (cnt (fun i => chgB g nd f t i) k) + 1) (lv' := [(3, .int ((cnt (fun i => chgB g nd f t i) k) + 1)), (6, .int 1), (5, .int (g 1 k)), (4, .int (nI k)), (0, .ref (a 2)), (1, .int f), (2, .int t)]) hx hb dX0_changes_73 hl (k := 3) rfl rfl (by decide) rfl (fun ls hl => ?_)
                  refine lv_iinc (v := nI (k + 1)) (lv' := [(4, .int (nI (k + 1))), (3, .int ((cnt (fun i => chgB g nd f t i) k) + 1)), (6, .int 1), (5, .int (g 1 k)), (0, .ref (a 2)), (1, .int f), (2, .int t)]) hx hb dX0_changes_76 hl (k := 3) rfl (nI_1 k) (by decide) rfl (fun ls hl => ?_)
                  refine lv_goto (tgt := 5) hx hb dX0_changes_79 (by decide) ?_
                  exact ih (k + 1) (by omega) (by omega) (by omega) _ (by simp [cnt_s, bI, chgB, c11, n11, c26, n26, c32, n32, c53, c70]) ls (lv_sub hl [0, 1, 4, 5, 6] rfl)
  exact lp (nd + 1) 0 (by omega) (by omega) (by omega) _ (rfl) ls (lv_sub hl [0, 1, 2, 3, 4] rfl)
set_option maxHeartbeats 4000000 in
set_option maxRecDepth 100000 in
theorem c_total (l : Launch) (dC : Nat → ClassId) (dI : Nat → Nat → Nat) (cI cZ cJ : ClassId) (a : Nat → Nat) (v : Nat → Int32) (g : Nat → Nat → Int32)  (n : Nat) (hn : v 5 = nI n) (hn2 : n ≤ 200) (nd : Nat) (hnd : v 4 = nI nd) (hnd2 : nd ≤ 6) (w f t kd ar : Int32) : Met l yX1_total wsX1_total ({ frames := 4, cells := 0, slots := 0, locals := 88 }) (va_Pc [.ref (a 5), .int w, .ref (a 2), .int f, .int t, .int kd, .int ar] (fun U => va_P (dC, dI) clA (wA cI cZ a v g) U.heap ∧ va_K (dC, dI) clA (tyA cI cZ cJ) U)) (vp_Si (fun r => r = totI g n nd w f t kd ar)) 0 0 (fun _ => False) := by
  refine Met.ofW (cc := cX1_total) (maxL := 9) (ret := (some .int)) (by decide) rfl ?_
  intro p e s m args below meth c s₁ B hml hv
  obtain ⟨rfl, hP, hK⟩ := hv
  have hx := B.exec
  have hb := B.bytes
  have hr := B.returns
  have hts := atoms_spec (ws := wsX1_total) B.pre
  have hown : s.vm.findClass RX1 = some m.cls := findClass_of_methodNamed B.named
  have hlocks := B.notSynchronized
  have hl := lv_entry ([.ref (a 5), .int w, .ref (a 2), .int f, .int t, .int kd, .int ar]) (n := 9) (Nat.le_of_ble_eq_true rfl)
  rw [lg_entry_eq]
  generalize (lg_sl ([.ref (a 5), .int w, .ref (a 2), .int f, .int t, .int kd, .int ar]) ++ List.replicate (9 - (lg_sl ([.ref (a 5), .int w, .ref (a 2), .int f, .int t, .int kd, .int ar])).length) Slot.unset).toArray = ls at hl ⊢
  have hl : lv_has ls 9 [(0, .ref (a 5)), (1, .int w), (2, .ref (a 2)), (3, .int f), (4, .int t), (5, .int kd), (6, .int ar)] := hl
  refine lv_iconst (v := 0) hx hb dX1_total_0 (by decide) ?_
  refine lv_istore (lv' := [(7, .int 0), (0, .ref (a 5)), (1, .int w), (2, .ref (a 2)), (3, .int f), (4, .int t), (5, .int kd), (6, .int ar)]) hx hb dX1_total_1 hl (by decide) rfl (fun ls hl => ?_)
  refine lv_iconst (v := 0) hx hb dX1_total_3 (by decide) ?_
  refine lv_istore (lv' := [(8, .int 0), (7, .int 0), (0, .ref (a 5)), (1, .int w), (2, .ref (a 2)), (3, .int f), (4, .int t), (5, .int kd), (6, .int ar)]) hx hb dX1_total_4 hl (by decide) rfl (fun ls hl => ?_)
  have lp : ∀ (d k : Nat), 0 ≤ k → k ≤ n → n + 1 ≤ k + d → ∀ (acc : Int32), acc = isum (fun i => if askB g i f t kd ar = true then amt g i w (mkOn g nd (g 3 i)) else 0) k → ∀ (ls : Array Slot), lv_has ls 9 [(8, .int (nI k)), (7, .int acc), (0, .ref (a 5)), (1, .int w), (2, .ref (a 2)), (3, .int f), (4, .int t), (5, .int kd), (6, .int ar)] → W p l e (headSpec wsX1_total ({ frames := 4, cells := 0, slots := 0, locals := 88 })).room s m ([.ref (a 5), .int w, .ref (a 2), .int f, .int t, .int kd, .int ar] : List Value).toArray below meth c s.heap [] 0 0 (MQ below (vp_Si (fun r => r = totI g n nd w f t kd ar)) ([.ref (a 5), .int w, .ref (a 2), .int f, .int t, .int kd, .int ar] : List Value).toArray s 0 0 (fun _ => False)) (F0 m 6 ls []) := by
    intro d
    induction d with
    | zero => intro k h0 h1 h2; exact absurd h2 (by omega)
    | succ d ih =>
      intro k hk0 hkn hkd acc ea_acc ls hl
      subst ea_acc
      refine lv_iload hx hb dX1_total_6 (lv_at hl 0 rfl) ?_
      refine lv_aload_n hx hb dX1_total_8 rfl (lv_at hl 2 rfl) ?_
      refine va_get (D := (dC, dI)) (ci := 1) (v := .int (v 5)) (C := RX1) (T := TX1) (N := 10) hx hb hts (fun w h => List.mem_cons_of_mem _ (iw_X1 w h)) hown hK hP 5 rfl rfl 9 (by decide) (hts _ (List.mem_cons_of_mem _ fl_X1_size)) (fun _ h9 => h9) rfl dX1_total_9 ?_
      refine lv_icmp_ge (tgt := 60) hx hb dX1_total_12 (by decide) (fun c12 => ?_) (fun c12 => ?_)
      · have n12 := Int32.not_lt.mpr c12
        rw [hn] at c12
        have hkn2 : k = n := Nat.le_antisymm hkn ((nI_leI (by omega) (by omega)).mp c12)
        refine lv_iload hx hb dX1_total_60 (lv_at hl 1 rfl) ?_
        exact W.iret (v := isum (fun i => if askB g i f t kd ar = true then amt g i w (mkOn g nd (g 3 i)) else 0) k) hx hb hr (fun t ht hW => ⟨_, rfl, (by subst hkn2; rfl), ht⟩) (fun _ h => absurd h List.not_mem_nil) dX1_total_62
      · have n12 := Int32.not_le.mp c12
        rw [hn] at c12
        have hk : k < n := Nat.lt_of_not_le (fun h => c12 (nI_le h (by omega)))
        refine lv_aload_n hx hb dX1_total_15 rfl (lv_at hl 2 rfl) ?_
        refine lv_iload hx hb dX1_total_16 (lv_at hl 0 rfl) ?_
        refine lv_iload_n hx hb dX1_total_18 rfl (lv_at hl 5 rfl) ?_
        refine lv_iload hx hb dX1_total_19 (lv_at hl 6 rfl) ?_
        refine lv_iload hx hb dX1_total_21 (lv_at hl 7 rfl) ?_
        refine lv_iload hx hb dX1_total_23 (lv_at hl 8 rfl) ?_
        refine vp_callSi (W.runV (As := [.int (nI k), .int f, .int t, .int kd, .int ar]) (rest := []) ⟨hx, hb, hml, hown, hts⟩ (c_isAsked l dC dI cI cZ cJ a v g k f t kd ar (by omega)) (cwV 5 hts (gd_V ml_X1_X1_isAsked im_X1_isAsked se_X1_isAsked in_X1 kX1_isAsked) rfl rfl rfl (by decide +kernel) ⟨Nat.le_of_ble_eq_true rfl, Nat.le_of_ble_eq_true rfl⟩) ⟨fun _ U g mk q => by obtain ⟨q0, qP, qK⟩ := q; exact ⟨q0, qP, va_K.moved (u := U) (U := U.calling g mk _) (Vm.Alike.refl U.vm) qK⟩, va_recv hK hP (ci := 1) (q0 := 5) rfl rfl, fun U hU hW => ⟨rfl, by rw [hU]; exact hP, va_K.moved hW.alike hK⟩⟩ rfl rfl hl.1 rfl (lv_room (Nat.le_of_ble_eq_true rfl)) dX1_total_25 ⟨Nat.zero_le _, Nat.zero_le _⟩) (fun r25 hr25 => ?_)
        subst hr25
        refine lv_if_eq (tgt := 54) hx hb dX1_total_28 (by decide) (fun c28 => ?_) (fun c28 => ?_)
        · have c28 := bI_0.mp c28
          refine lv_iinc (v := nI (k + 1)) (lv' := [(8, .int (nI (k + 1))), (7, .int (isum (fun i => if askB g i f t kd ar = true then amt g i w (mkOn g nd (g 3 i)) else 0) k)), (0, .ref (a 5)), (1, .int w), (2, .ref (a 2)), (3, .int f), (4, .int t), (5, .int kd), (6, .int ar)]) hx hb dX1_total_54 hl (k := 0) rfl (nI_1 k) (by decide) rfl (fun ls hl => ?_)
          refine lv_goto (tgt := 6) hx hb dX1_total_57 (by decide) ?_
          exact ih (k + 1) (by omega) (by omega) (by omega) _ (by simp [isum_s, c12, n12, c28]) ls (lv_sub hl [0, 1, 2, 3, 4, 5, 6, 7, 8] rfl)
        · have c28 := bI_n0.mp c28
          refine lv_iload hx hb dX1_total_31 (lv_at hl 1 rfl) ?_
          refine lv_aload_n hx hb dX1_total_33 rfl (lv_at hl 2 rfl) ?_
          refine lv_iload hx hb dX1_total_34 (lv_at hl 0 rfl) ?_
          refine lv_iload_n hx hb dX1_total_36 rfl (lv_at hl 3 rfl) ?_
          refine lv_aload_n hx hb dX1_total_37 rfl (lv_at hl 4 rfl) ?_
          refine lv_aload_n hx hb dX1_total_38 rfl (lv_at hl 2 rfl) ?_
          refine va_get (D := (dC, dI)) (ci := 1) (v := .ref (a 6)) (C := RX1) (T := TX1) (N := 10) hx hb hts (fun w h => List.mem_cons_of_mem _ (iw_X1 w h)) hown hK hP 5 rfl rfl 0 (by decide) (hts _ (List.mem_cons_of_mem _ fl_X1_days)) (fun _ h9 => h9) rfl dX1_total_39 ?_
          refine lv_iload hx hb dX1_total_42 (lv_at hl 0 rfl) ?_
          refine wi_ald hx hb hK hP 6 0 rfl rfl (k := k) (by omega) (by decide) dX1_total_44 ?_
          refine vp_callSi (W.runV (As := [.int (g 3 k)]) (rest := [.int w, .int (nI k), .ref (a 5), .int (isum (fun i => if askB g i f t kd ar = true then amt g i w (mkOn g nd (g 3 i)) else 0) k)]) ⟨hx, hb, hml, hown, hts⟩ (c_markOn l dC dI cI cZ cJ a v g nd hnd hnd2 (g 3 k)) (cwV 1 hts (gd_V ml_X1_X0_markOn im_X0_markOn se_X0_markOn in_X0 kX0_markOn) rfl rfl rfl (by decide +kernel) ⟨Nat.le_of_ble_eq_true rfl, Nat.le_of_ble_eq_true rfl⟩) ⟨fun _ U g mk q => by obtain ⟨q0, qP, qK⟩ := q; exact ⟨q0, qP, va_K.moved (u := U) (U := U.calling g mk _) (Vm.Alike.refl U.vm) qK⟩, va_recv hK hP (ci := 0) (q0 := 2) rfl rfl, fun U hU hW => ⟨rfl, by rw [hU]; exact hP, va_K.moved hW.alike hK⟩⟩ rfl rfl hl.1 rfl (lv_room (Nat.le_of_ble_eq_true rfl)) dX1_total_45 ⟨Nat.zero_le _, Nat.zero_le _⟩) (fun r45 hr45 => ?_)
          subst hr45
          refine vp_callSi (W.runV (As := [.int (nI k), .int w, .int (mkOn g nd (g 3 k))]) (rest := [.int (isum (fun i => if askB g i f t kd ar = true then amt g i w (mkOn g nd (g 3 i)) else 0) k)]) ⟨hx, hb, hml, hown, hts⟩ (c_amount l dC dI cI cZ cJ a v g k w (mkOn g nd (g 3 k)) (by omega)) (cwV 3 hts (gd_V ml_X1_X1_amount im_X1_amount se_X1_amount in_X1 kX1_amount) rfl rfl rfl (by decide +kernel) ⟨Nat.le_of_ble_eq_true rfl, Nat.le_of_ble_eq_true rfl⟩) ⟨fun _ U g mk q => by obtain ⟨q0, qP, qK⟩ := q; exact ⟨q0, qP, va_K.moved (u := U) (U := U.calling g mk _) (Vm.Alike.refl U.vm) qK⟩, va_recv hK hP (ci := 1) (q0 := 5) rfl rfl, fun U hU hW => ⟨rfl, by rw [hU]; exact hP, va_K.moved hW.alike hK⟩⟩ rfl rfl hl.1 rfl (lv_room (Nat.le_of_ble_eq_true rfl)) dX1_total_48 ⟨Nat.zero_le _, Nat.zero_le _⟩) (fun r48 hr48 => ?_)
          subst hr48
          refine lv_iadd hx hb dX1_total_51 ?_
          refine lv_topi (fun x51 e51 => ?_)
          refine lv_istore (lv' := [(7, .int x51), (8, .int (nI k)), (0, .ref (a 5)), (1, .int w), (2, .ref (a 2)), (3, .int f), (4, .int t), (5, .int kd), (6, .int ar)]) hx hb dX1_total_52 hl (by decide) rfl (fun ls hl => ?_)
          refine lv_iinc (v := nI (k + 1)) (lv' := [(8, .int (nI (k + 1))), (7, .int x51), (0, .ref (a 5)), (1, .int w), (2, .ref (a 2)), (3, .int f), (4, .int t), (5, .int kd), (6, .int ar)]) hx hb dX1_total_54 hl (k := 1) rfl (nI_1 k) (by decide) rfl (fun ls hl => ?_)
          refine lv_goto (tgt := 6) hx hb dX1_total_57 (by decide) ?_
          exact ih (k + 1) (by omega) (by omega) (by omega) _ (by simp [isum_s, c12, n12, c28, e51]) ls (lv_sub hl [0, 1, 2, 3, 4, 5, 6, 7, 8] rfl)
  exact lp (n + 1) 0 (by omega) (by omega) (by omega) _ (rfl) ls (lv_sub hl [0, 1, 2, 3, 4, 5, 6, 7, 8] rfl)
set_option maxHeartbeats 4000000 in
set_option maxRecDepth 100000 in
theorem c_taken (l : Launch) (dC : Nat → ClassId) (dI : Nat → Nat → Nat) (cI cZ cJ : ClassId) (a : Nat → Nat) (v : Nat → Int32) (g : Nat → Nat → Int32) (x t : Int32) : Met l yX3_isTaken wsX3_isTaken ({ frames := 0, cells := 0, slots := 0, locals := 0 }) (va_Pc [.int x, .int t] (fun U => va_P (dC, dI) clA (wA cI cZ a v g) U.heap ∧ va_K (dC, dI) clA (tyA cI cZ cJ) U)) (vp_Si (fun r => r = bI (takB x t))) 0 0 (fun _ => False) := by
  refine Met.ofW (cc := cX3_isTaken) (maxL := 2) (ret := (some .boolean)) (by decide) rfl ?_
  intro p e s m args below meth c s₁ B hml hv
  obtain ⟨rfl, hP, hK⟩ := hv
  have hx := B.exec
  have hb := B.bytes
  have hr := B.returns
  have hts := atoms_spec (ws := wsX3_isTaken) B.pre
  have hown : s.vm.findClass RX3 = some m.cls := findClass_of_methodNamed B.named
  have hlocks := B.notSynchronized
  have hl := lv_entry ([.int x, .int t]) (n := 2) (Nat.le_of_ble_eq_true rfl)
  rw [lg_entry_eq]
  generalize (lg_sl ([.int x, .int t]) ++ List.replicate (2 - (lg_sl ([.int x, .int t])).length) Slot.unset).toArray = ls at hl ⊢
  have hl : lv_has ls 2 [(0, .int x), (1, .int t)] := hl
  refine lv_iload_n hx hb dX3_isTaken_0 rfl (lv_at hl 1 rfl) ?_
  refine lv_iload_n hx hb dX3_isTaken_1 rfl (lv_at hl 0 rfl) ?_
  refine lv_ishr hx hb dX3_isTaken_2 ?_
  refine lv_iconst (v := 1) hx hb dX3_isTaken_3 (by decide) ?_
  refine lv_iand hx hb dX3_isTaken_4 ?_
  refine lv_if_eq (tgt := 12) hx hb dX3_isTaken_5 (by decide) (fun c5 => ?_) (fun c5 => ?_)
  · refine lv_iconst (v := 0) hx hb dX3_isTaken_12 (by decide) ?_
    exact W.zret (v := 0) hx hb hr rfl (fun t ht hW => ⟨_, rfl, (by simp [bI, takB, c5]), ht⟩) (fun _ h => absurd h List.not_mem_nil) dX3_isTaken_13
  · refine lv_iconst (v := 1) hx hb dX3_isTaken_8 (by decide) ?_
    refine lv_goto (tgt := 13) hx hb dX3_isTaken_9 (by decide) ?_
    exact W.zret (v := 1) hx hb hr rfl (fun t ht hW => ⟨_, rfl, (by simp [bI, takB, c5]), ht⟩) (fun _ h => absurd h List.not_mem_nil) dX3_isTaken_13
set_option maxHeartbeats 4000000 in
set_option maxRecDepth 100000 in
theorem c_gain (l : Launch) (dC : Nat → ClassId) (dI : Nat → Nat → Nat) (cI cZ cJ : ClassId) (a : Nat → Nat) (v : Nat → Int32) (g : Nat → Nat → Int32) (pr : Int32) (np : Nat) (hnp : pr = nI np) (hnp2 : np ≤ 6) (j : Nat) (tk : Int32) (hj : j < 6) : Met l yX3_gain wsX3_gain ({ frames := 1, cells := 0, slots := 0, locals := 21 }) (va_Pc [.ref (a 16), .int pr, .int (nI j), .int tk] (fun U => va_P (dC, dI) clA (wA cI cZ a v g) U.heap ∧ va_K (dC, dI) clA (tyA cI cZ cJ) U)) (vp_Si (fun r => r = gainI g np j tk)) 0 0 (fun _ => False) := by
  refine Met.ofW (cc := cX3_gain) (maxL := 6) (ret := (some .int)) (by decide) rfl ?_
  intro p e s m args below meth c s₁ B hml hv
  obtain ⟨rfl, hP, hK⟩ := hv
  have hx := B.exec
  have hb := B.bytes
  have hr := B.returns
  have hts := atoms_spec (ws := wsX3_gain) B.pre
  have hown : s.vm.findClass RX3 = some m.cls := findClass_of_methodNamed B.named
  have hlocks := B.notSynchronized
  have hl := lv_entry ([.ref (a 16), .int pr, .int (nI j), .int tk]) (n := 6) (Nat.le_of_ble_eq_true rfl)
  rw [lg_entry_eq]
  generalize (lg_sl ([.ref (a 16), .int pr, .int (nI j), .int tk]) ++ List.replicate (6 - (lg_sl ([.ref (a 16), .int pr, .int (nI j), .int tk])).length) Slot.unset).toArray = ls at hl ⊢
  have hl : lv_has ls 6 [(0, .ref (a 16)), (1, .int pr), (2, .int (nI j)), (3, .int tk)] := hl
  refine lv_iconst (v := 0) hx hb dX3_gain_0 (by decide) ?_
  refine lv_istore (lv' := [(4, .int 0), (0, .ref (a 16)), (1, .int pr), (2, .int (nI j)), (3, .int tk)]) hx hb dX3_gain_1 hl (by decide) rfl (fun ls hl => ?_)
  refine lv_iconst (v := 0) hx hb dX3_gain_3 (by decide) ?_
  refine lv_istore (lv' := [(5, .int 0), (4, .int 0), (0, .ref (a 16)), (1, .int pr), (2, .int (nI j)), (3, .int tk)]) hx hb dX3_gain_4 hl (by decide) rfl (fun ls hl => ?_)
  have lp : ∀ (d k : Nat), 0 ≤ k → k ≤ np → np + 1 ≤ k + d → ∀ (acc : Int32), acc = isum (fun i => if takB (nI i) tk = true then icmp (g 12 j) (g 12 i) else 0) k → ∀ (ls : Array Slot), lv_has ls 6 [(5, .int (nI k)), (4, .int acc), (0, .ref (a 16)), (1, .int pr), (2, .int (nI j)), (3, .int tk)] → W p l e (headSpec wsX3_gain ({ frames := 1, cells := 0, slots := 0, locals := 21 })).room s m ([.ref (a 16), .int pr, .int (nI j), .int tk] : List Value).toArray below meth c s.heap [] 0 0 (MQ below (vp_Si (fun r => r = gainI g np j tk)) ([.ref (a 16), .int pr, .int (nI j), .int tk] : List Value).toArray s 0 0 (fun _ => False)) (F0 m 6 ls []) := by
    intro d
    induction d with
    | zero => intro k h0 h1 h2; exact absurd h2 (by omega)
    | succ d ih =>
      intro k hk0 hkn hkd acc ea_acc ls hl
      subst ea_acc
      refine lv_iload hx hb dX3_gain_6 (lv_at hl 0 rfl) ?_
      refine lv_iload_n hx hb dX3_gain_8 rfl (lv_at hl 3 rfl) ?_
      refine lv_icmp_ge (tgt := 42) hx hb dX3_gain_9 (by decide) (fun c9 => ?_) (fun c9 => ?_)
      · have n9 := Int32.not_lt.mpr c9
        rw [hnp] at c9
        have hkn2 : k = np := Nat.le_antisymm hkn ((nI_leI (by omega) (by omega)).mp c9)
        refine lv_iload hx hb dX3_gain_42 (lv_at hl 1 rfl) ?_
        exact W.iret (v := isum (fun i => if takB (nI i) tk = true then icmp (g 12 j) (g 12 i) else 0) k) hx hb hr (fun t ht hW => ⟨_, rfl, (by subst hkn2; rfl), ht⟩) (fun _ h => absurd h List.not_mem_nil) dX3_gain_44
      · have n9 := Int32.not_le.mp c9
        rw [hnp] at c9
        have hk : k < np := Nat.lt_of_not_le (fun h => c9 (nI_le h (by omega)))
        refine lv_iload hx hb dX3_gain_12 (lv_at hl 0 rfl) ?_
        refine lv_iload_n hx hb dX3_gain_14 rfl (lv_at hl 5 rfl) ?_
        refine vp_callSi (W.runS (As := [.int (nI k), .int tk]) (rest := []) ⟨hx, hb, hml, hown, hts⟩ (c_taken l dC dI cI cZ cJ a v g (nI k) tk) (cwS 2 hts (gd_S ml_X3_X3_isTaken sm_X3_isTaken in_X3 kX3_isTaken) rfl rfl rfl (by decide +kernel) ⟨Nat.le_of_ble_eq_true rfl, Nat.le_of_ble_eq_true rfl⟩) ⟨fun _ U g mk q => by obtain ⟨q0, qP, qK⟩ := q; exact ⟨q0, qP, va_K.moved (u := U) (U := U.calling g mk _) (Vm.Alike.refl U.vm) qK⟩, fun U hU hW => ⟨rfl, by rw [hU]; exact hP, va_K.moved hW.alike hK⟩⟩ rfl rfl hl.1 rfl (lv_room (Nat.le_of_ble_eq_true rfl)) dX3_gain_15 ⟨Nat.zero_le _, Nat.zero_le _⟩) (fun r15 hr15 => ?_)
        subst hr15
        refine lv_if_eq (tgt := 36) hx hb dX3_gain_18 (by decide) (fun c18 => ?_) (fun c18 => ?_)
        · have c18 := bI_0.mp c18
          refine lv_iinc (v := nI (k + 1)) (lv' := [(5, .int (nI (k + 1))), (4, .int (isum (fun i => if takB (nI i) tk = true then icmp (g 12 j) (g 12 i) else 0) k)), (0, .ref (a 16)), (1, .int pr), (2, .int (nI j)), (3, .int tk)]) hx hb dX3_gain_36 hl (k := 0) rfl (nI_1 k) (by decide) rfl (fun ls hl => ?_)
          refine lv_goto (tgt := 6) hx hb dX3_gain_39 (by decide) ?_
          exact ih (k + 1) (by omega) (by omega) (by omega) _ (by simp [isum_s, c9, n9, c18]) ls (lv_sub hl [0, 1, 2, 3, 4, 5] rfl)
        · have c18 := bI_n0.mp c18
          refine lv_iload hx hb dX3_gain_21 (lv_at hl 1 rfl) ?_
          refine lv_aload_n hx hb dX3_gain_23 rfl (lv_at hl 2 rfl) ?_
          refine lv_iload_n hx hb dX3_gain_24 rfl (lv_at hl 4 rfl) ?_
          refine wi_ald hx hb hK hP 16 0 rfl rfl (k := j) (by omega) (by decide) dX3_gain_25 ?_
          refine lv_aload_n hx hb dX3_gain_26 rfl (lv_at hl 2 rfl) ?_
          refine lv_iload hx hb dX3_gain_27 (lv_at hl 0 rfl) ?_
          refine wi_ald hx hb hK hP 16 0 rfl rfl (k := k) (by omega) (by decide) dX3_gain_29 ?_
          refine vp_callSi (W.runS (As := [.int (g 12 j), .int (g 12 k)]) (rest := [.int (isum (fun i => if takB (nI i) tk = true then icmp (g 12 j) (g 12 i) else 0) k)]) ⟨hx, hb, hml, hown, hts⟩ (c_icmp l dC dI cI cZ cJ a v g (g 12 j) (g 12 k)) (va_cwS 2 hts (gd_J ml_X3_Integer_compare sm_Integer_compare in_Integer kInteger_compare) rfl rfl rfl (by decide +kernel) ⟨Nat.le_of_ble_eq_true rfl, Nat.le_of_ble_eq_true rfl⟩) ⟨fun _ U g mk q => by obtain ⟨q0, qP, qK⟩ := q; exact ⟨q0, qP, va_K.moved (u := U) (U := U.calling g mk _) (Vm.Alike.refl U.vm) qK⟩, fun U hU hW => ⟨rfl, by rw [hU]; exact hP, va_K.moved hW.alike hK⟩⟩ rfl rfl hl.1 rfl (lv_room (Nat.le_of_ble_eq_true rfl)) dX3_gain_30 ⟨Nat.zero_le _, Nat.zero_le _⟩) (fun r30 hr30 => ?_)
          subst hr30
          refine lv_iadd hx hb dX3_gain_33 ?_
          refine lv_topi (fun x33 e33 => ?_)
          refine lv_istore (lv' := [(4, .int x33), (5, .int (nI k)), (0, .ref (a 16)), (1, .int pr), (2, .int (nI j)), (3, .int tk)]) hx hb dX3_gain_34 hl (by decide) rfl (fun ls hl => ?_)
          refine lv_iinc (v := nI (k + 1)) (lv' := [(5, .int (nI (k + 1))), (4, .int x33), (0, .ref (a 16)), (1, .int pr), (2, .int (nI j)), (3, .int tk)]) hx hb dX3_gain_36 hl (k := 1) rfl (nI_1 k) (by decide) rfl (fun ls hl => ?_)
          refine lv_goto (tgt := 6) hx hb dX3_gain_39 (by decide) ?_
          exact ih (k + 1) (by omega) (by omega) (by omega) _ (by simp [isum_s, c9, n9, c18, e33]) ls (lv_sub hl [0, 1, 2, 3, 4, 5] rfl)
  exact lp (np + 1) 0 (by omega) (by omega) (by omega) _ (rfl) ls (lv_sub hl [0, 1, 2, 3, 4, 5] rfl)
