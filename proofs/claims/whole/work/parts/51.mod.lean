
theorem bI_vn (b : Bool) : vp_nar .boolean (bI b) = bI b := by cases b <;> rfl
theorem th3 {a b c : Bool} (h : decide (0 < thI (bI a) (bI b) (bI c)) = false) : a = false ∧ b = false ∧ c = false := by
  cases a <;> cases b <;> cases c <;> first | exact ⟨rfl, rfl, rfl⟩ | exact absurd h (by decide)
theorem th2 {a b : Bool} (h : decide (0 < thI (bI a) (bI b) 0) = false) : a = false ∧ b = false := by
  cases a <;> cases b <;> first | exact ⟨rfl, rfl⟩ | exact absurd h (by decide)
theorem th1 {a : Bool} (h : decide (0 < thI (bI a) 0 0) = false) : a = false := by
  cases a <;> first | rfl | exact absurd h (by decide)
theorem inB_nat {x : Int32} {n : Nat} (hn : n < 2 ^ 31) (h : inB x 0 (nI n - 1) = true) : ∃ k : Nat, k < n ∧ x = nI k := by
  simp only [inB, Bool.and_eq_true, decide_eq_true_eq] at h
  obtain ⟨j, hj, rfl⟩ := nI_of (Int32.not_lt.mpr h.1)
  rcases Nat.eq_zero_or_pos n with rfl | hp
  · exact absurd (Int32.le_trans (nI_pos' hj) h.2) (by decide)
  · obtain ⟨q, rfl⟩ : ∃ q, n = q + 1 := ⟨n - 1, by omega⟩
    rw [nI_pred] at h
    exact ⟨j, Nat.lt_succ_of_le ((nI_leI hj (by omega)).mp h.2), rfl⟩
theorem inB_natL {x : Int32} {n : Nat} (hn : n < 2 ^ 31) (h : inB x 0 (nI n) = true) : ∃ k : Nat, k < n + 1 ∧ x = nI k := by
  simp only [inB, Bool.and_eq_true, decide_eq_true_eq] at h
  obtain ⟨j, hj, rfl⟩ := nI_of (Int32.not_lt.mpr h.1)
  exact ⟨j, Nat.lt_succ_of_le ((nI_leI hj hn).mp h.2), rfl⟩
def isM (g : Nat → Nat → Int32) (nd : Nat) (w : Int32) (k : Nat) : Bool := decide (w = 0) || (decide (w = 1) && decide (¬ g 5 k = 0)) || (decide (w = 2) && wiM g nd k) || (decide (w = 3) && woM g nd k)
def cM (g : Nat → Nat → Int32) (nd : Nat) (w : Int32) (k : Nat) : Int32 := if w = 4 then (if 0 < g 7 k then g 7 k else 0) else bI (isM g nd w k)
def kM (g : Nat → Nat → Int32) (k : Nat) : Int32 := (if 0 < g 7 k then g 7 k else 0) + (if 0 < g 8 k then g 8 k else 0)

set_option maxHeartbeats 4000000 in
set_option maxRecDepth 100000 in
theorem m_throwing (l : Launch) (dC : Nat → ClassId) (dI : Nat → Nat → Nat) (cI cZ cJ : ClassId) (a : Nat → Nat) (v : Nat → Int32) (g : Nat → Nat → Int32) (sz : Nat) (x y z : Int32) : Met l yX5_throwing wsX5_throwing ({ frames := 1, cells := 0, slots := 0, locals := 23 }) (va_Pc [.ref (a 0), .int x, .int y, .int z] (fun U => U.heap.size = sz ∧ va_P (dC, dI) clA (wM cI cZ a v g) U.heap ∧ va_K (dC, dI) clA (tyA cI cZ cJ) U ∧ va_D (fun _ => True) (wM cI cZ a v g))) (va_Qi (fun (r : Int32) (u : StA) => r = bI (decide (0 < thI x y z)) ∧ u = (upd v 0 (thI x y z), g)) (atM dC dI cI cZ cJ a (va_A (wM cI cZ a v g) sz)) (va_A (wM cI cZ a v g) sz))  0 0 (va_A (wM cI cZ a v g) sz) := by
  refine Met.ofW (cc := cX5_throwing) (maxL := 4) (ret := (some .boolean)) (by decide) rfl ?_
  intro p e s m args below meth c s₁ B hml hv
  obtain ⟨rfl, hsz, hP, hK, hD0⟩ := hv
  have hx := B.exec
  have hb := B.bytes
  have hr := B.returns
  have hts := atoms_spec (ws := wsX5_throwing) B.pre
  have hown : s.vm.findClass RX5 = some m.cls := findClass_of_methodNamed B.named
  have hlocks := B.notSynchronized
  subst hsz
  have hD := hD0.self (sz := s.heap.size)
  generalize hAe : va_A (wM cI cZ a v g) s.heap.size = A at hD ⊢
  have hA : ∀ q : Nat, s.heap.size ≤ q → A q := fun q h => by rw [← hAe]; exact Or.inr h
  have hS : va_S A s.heap s.heap [] := va_S.rf
  have hP : va_P (dC, dI) clA (wM cI cZ a v g) s.heap := hP
  have hl := lv_entry ([.ref (a 0), .int x, .int y, .int z]) (n := 4) (Nat.le_of_ble_eq_true rfl)
  rw [lg_entry_eq]
  generalize (lg_sl ([.ref (a 0), .int x, .int y, .int z]) ++ List.replicate (4 - (lg_sl ([.ref (a 0), .int x, .int y, .int z])).length) Slot.unset).toArray = ls at hl ⊢
  have hl : lv_has ls 4 [(0, .ref (a 0)), (1, .int x), (2, .int y), (3, .int z)] := hl
  refine lv_aload_n hx hb dX5_throwing_0 rfl (lv_at hl 0 rfl) ?_
  refine lv_aload_n hx hb dX5_throwing_1 rfl (lv_at hl 0 rfl) ?_
  refine lv_iload_n hx hb dX5_throwing_2 rfl (lv_at hl 1 rfl) ?_
  refine lv_iload_n hx hb dX5_throwing_3 rfl (lv_at hl 2 rfl) ?_
  refine lv_iload_n hx hb dX5_throwing_4 rfl (lv_at hl 3 rfl) ?_
  refine vp_callSi (W.runV (As := [.int x, .int y, .int z]) (rest := [.ref (a 0)]) ⟨hx, hb, hml, hown, hts⟩ (m_thrownBy l dC dI cI cZ cJ a v g x y z) (cwV 3 hts (gd_V ml_X5_X5_thrownBy im_X5_thrownBy se_X5_thrownBy in_X5 kX5_thrownBy) rfl rfl rfl (by decide +kernel) ⟨Nat.le_of_ble_eq_true rfl, Nat.le_of_ble_eq_true rfl⟩) ⟨fun _ U g mk q => by obtain ⟨q0, qP, qK⟩ := q; exact ⟨q0, qP, va_K.moved (u := U) (U := U.calling g mk _) (Vm.Alike.refl U.vm) qK⟩, va_recv hK hP (ci := 5) (q0 := 0) rfl rfl, fun U hU hW => ⟨rfl, by rw [hU]; exact hP, va_K.moved hW.alike hK⟩⟩ rfl rfl hl.1 rfl (lv_room (Nat.le_of_ble_eq_true rfl)) dX5_throwing_5 ⟨Nat.le_of_ble_eq_true rfl, Nat.le_of_ble_eq_true rfl⟩) (fun r5 hr5 => ?_)
  subst hr5
  refine va_put (D := (dC, dI)) (ci := 5) (v := .int (thI x y z)) (ty := .int) (C := RX5) (T := TX5) (N := 24) hx hb hts (fun w h => List.mem_cons_of_mem _ (iw_X5 w h)) tyX5 tyX5_ok nmX5 hown hK hP hD hS 0 rfl rfl 0 (by decide) (hts _ (List.mem_cons_of_mem _ fl_X5_thrown)) (fun _ h9 => h9) rfl (by decide +kernel) rfl rfl (Nat.le_of_ble_eq_true rfl) dX5_throwing_8 (fun H locs hP hD hS => ?_)
  have hP : va_P (dC, dI) clA (wM cI cZ a (upd v 0 (thI x y z)) g) H := hP
  have hD : va_D A (wM cI cZ a (upd v 0 (thI x y z)) g) := hD
  refine lv_aload_n hx hb dX5_throwing_11 rfl (lv_at hl 0 rfl) ?_
  refine va_get (D := (dC, dI)) (ci := 5) (v := .int (thI x y z)) (C := RX5) (T := TX5) (N := 24) hx hb hts (fun w h => List.mem_cons_of_mem _ (iw_X5 w h)) hown hK hP 0 rfl rfl 0 (by decide) (hts _ (List.mem_cons_of_mem _ fl_X5_thrown)) (fun _ h9 => h9) rfl dX5_throwing_12 ?_
  refine lv_if_le (tgt := 22) hx hb dX5_throwing_15 (by decide) (fun c15 => ?_) (fun c15 => ?_)
  · have n15 := Int32.not_lt.mpr c15
    refine lv_iconst (v := 0) hx hb dX5_throwing_22 (by decide) ?_
    exact (W.zret (v := 0) hx hb hr rfl (fun t9 ht hW => ⟨⟨_, ((upd v 0 (thI x y z)), g), rfl, ⟨by simp [bI, c15, n15], rfl⟩, ⟨by rw [ht]; exact hP, va_K.moved hW.alike hK, hD⟩⟩, hS.F ht⟩) hS.2.2 dX5_throwing_23)
  · have n15 := Int32.not_le.mp c15
    refine lv_iconst (v := 1) hx hb dX5_throwing_18 (by decide) ?_
    refine lv_goto (tgt := 23) hx hb dX5_throwing_19 (by decide) ?_
    exact (W.zret (v := 1) hx hb hr rfl (fun t9 ht hW => ⟨⟨_, ((upd v 0 (thI x y z)), g), rfl, ⟨by simp [bI, c15, n15], rfl⟩, ⟨by rw [ht]; exact hP, va_K.moved hW.alike hK, hD⟩⟩, hS.F ht⟩) hS.2.2 dX5_throwing_23)
set_option maxHeartbeats 4000000 in
set_option maxRecDepth 100000 in
theorem m_row (l : Launch) (dC : Nat → ClassId) (dI : Nat → Nat → Nat) (cI cZ cJ : ClassId) (a : Nat → Nat) (v : Nat → Int32) (g : Nat → Nat → Int32) (sz : Nat) (n : Nat) (hn : v 1 = nI n) (hn2 : n ≤ 200) (d ho kd ar st mk : Int32) : Met l yX5_row wsX5_row ({ frames := 2, cells := 0, slots := 0, locals := 46 }) (va_Pc [.ref (a 0), .int d, .int ho, .int kd, .int ar, .int st, .int mk] (fun U => U.heap.size = sz ∧ va_P (dC, dI) clA (wM cI cZ a v g) U.heap ∧ va_K (dC, dI) clA (tyA cI cZ cJ) U ∧ va_D (fun _ => True) (wM cI cZ a v g))) (va_Qi (fun (r : Int32) (u : StA) => r = (if 0 < thI (bI (!(inB kd 0 4) || !(inB ar 0 9) || !(inB st 0 5))) (bI (!(inB d 0 9999) || !(inB ho 0 23) || !(inB mk 0 3))) (bI (decide (v 1 = 200))) then 0 else v 1 + 1 - 1) ∧ u = (if 0 < thI (bI (!(inB kd 0 4) || !(inB ar 0 9) || !(inB st 0 5))) (bI (!(inB d 0 9999) || !(inB ho 0 23) || !(inB mk 0 3))) (bI (decide (v 1 = 200))) then upd v 0 (thI (bI (!(inB kd 0 4) || !(inB ar 0 9) || !(inB st 0 5))) (bI (!(inB d 0 9999) || !(inB ho 0 23) || !(inB mk 0 3))) (bI (decide (v 1 = 200)))) else upd (upd v 0 (thI (bI (!(inB kd 0 4) || !(inB ar 0 9) || !(inB st 0 5))) (bI (!(inB d 0 9999) || !(inB ho 0 23) || !(inB mk 0 3))) (bI (decide (v 1 = 200))))) 1 (v 1 + 1), if 0 < thI (bI (!(inB kd 0 4) || !(inB ar 0 9) || !(inB st 0 5))) (bI (!(inB d 0 9999) || !(inB ho 0 23) || !(inB mk 0 3))) (bI (decide (v 1 = 200))) then g else (upg (upg (upg (upg (upg (upg (upg (upg (upg g 0 n d) 1 n ho) 2 n kd) 3 n ar) 4 n st) 5 n (bI (decide (mk - mk / 2 * 2 = 1)))) 6 n (bI (decide (1 < mk)))) 7 n (-1)) 8 n (-1)))) (atM dC dI cI cZ cJ a (va_A (wM cI cZ a v g) sz)) (va_A (wM cI cZ a v g) sz))  0 0 (va_A (wM cI cZ a v g) sz) := by
  refine Met.ofW (cc := cX5_row) (maxL := 8) (ret := (some .int)) (by decide) rfl ?_
  intro p e s m args below meth c s₁ B hml hv
  obtain ⟨rfl, hsz, hP, hK, hD0⟩ := hv
  have hx := B.exec
  have hb := B.bytes
  have hr := B.returns
  have hts := atoms_spec (ws := wsX5_row) B.pre
  have hown : s.vm.findClass RX5 = some m.cls := findClass_of_methodNamed B.named
  have hlocks := B.notSynchronized
  subst hsz
  have hD := hD0.self (sz := s.heap.size)
  generalize hAe : va_A (wM cI cZ a v g) s.heap.size = A at hD ⊢
  have hA : ∀ q : Nat, s.heap.size ≤ q → A q := fun q h => by rw [← hAe]; exact Or.inr h
  have hS : va_S A s.heap s.heap [] := va_S.rf
  have hP : va_P (dC, dI) clA (wM cI cZ a v g) s.heap := hP
  have hl := lv_entry ([.ref (a 0), .int d, .int ho, .int kd, .int ar, .int st, .int mk]) (n := 8) (Nat.le_of_ble_eq_true rfl)
  rw [lg_entry_eq]
  generalize (lg_sl ([.ref (a 0), .int d, .int ho, .int kd, .int ar, .int st, .int mk]) ++ List.replicate (8 - (lg_sl ([.ref (a 0), .int d, .int ho, .int kd, .int ar, .int st, .int mk])).length) Slot.unset).toArray = ls at hl ⊢
  have hl : lv_has ls 8 [(0, .ref (a 0)), (1, .int d), (2, .int ho), (3, .int kd), (4, .int ar), (5, .int st), (6, .int mk)] := hl
  have jn35 : ∀ xj : Int32, xj = bI (!(inB kd 0 4) || !(inB ar 0 9) || !(inB st 0 5)) → W p l e (headSpec wsX5_row ({ frames := 2, cells := 0, slots := 0, locals := 46 })).room s m ([.ref (a 0), .int d, .int ho, .int kd, .int ar, .int st, .int mk] : List Value).toArray below meth c s.heap [] 0 0 (MQ below (va_Qi (fun (r : Int32) (u : StA) => r = (if 0 < thI (bI (!(inB kd 0 4) || !(inB ar 0 9) || !(inB st 0 5))) (bI (!(inB d 0 9999) || !(inB ho 0 23) || !(inB mk 0 3))) (bI (decide (v 1 = 200))) then 0 else v 1 + 1 - 1) ∧ u = (if 0 < thI (bI (!(inB kd 0 4) || !(inB ar 0 9) || !(inB st 0 5))) (bI (!(inB d 0 9999) || !(inB ho 0 23) || !(inB mk 0 3))) (bI (decide (v 1 = 200))) then upd v 0 (thI (bI (!(inB kd 0 4) || !(inB ar 0 9) || !(inB st 0 5))) (bI (!(inB d 0 9999) || !(inB ho 0 23) || !(inB mk 0 3))) (bI (decide (v 1 = 200)))) else upd (upd v 0 (thI (bI (!(inB kd 0 4) || !(inB ar 0 9) || !(inB st 0 5))) (bI (!(inB d 0 9999) || !(inB ho 0 23) || !(inB mk 0 3))) (bI (decide (v 1 = 200))))) 1 (v 1 + 1), if 0 < thI (bI (!(inB kd 0 4) || !(inB ar 0 9) || !(inB st 0 5))) (bI (!(inB d 0 9999) || !(inB ho 0 23) || !(inB mk 0 3))) (bI (decide (v 1 = 200))) then g else (upg (upg (upg (upg (upg (upg (upg (upg (upg g 0 n d) 1 n ho) 2 n kd) 3 n ar) 4 n st) 5 n (bI (decide (mk - mk / 2 * 2 = 1)))) 6 n (bI (decide (1 < mk)))) 7 n (-1)) 8 n (-1)))) (atM dC dI cI cZ cJ a A) A) ([.ref (a 0), .int d, .int ho, .int kd, .int ar, .int st, .int mk] : List Value).toArray s 0 0 A) (F0 m 35 ls [(.int xj)]) := by
    intro xj ej
    subst ej
    refine lv_istore (lv' := [(7, .int (bI (!(inB kd 0 4) || !(inB ar 0 9) || !(inB st 0 5)))), (0, .ref (a 0)), (1, .int d), (2, .int ho), (3, .int kd), (4, .int ar), (5, .int st), (6, .int mk)]) hx hb dX5_row_35 hl (by decide) rfl (fun ls hl => ?_)
    refine lv_aload_n hx hb dX5_row_37 rfl (lv_at hl 1 rfl) ?_
    refine lv_iload hx hb dX5_row_38 (lv_at hl 0 rfl) ?_
    have jn72 : ∀ xj : Int32, xj = bI (!(inB d 0 9999) || !(inB ho 0 23) || !(inB mk 0 3)) → W p l e (headSpec wsX5_row ({ frames := 2, cells := 0, slots := 0, locals := 46 })).room s m ([.ref (a 0), .int d, .int ho, .int kd, .int ar, .int st, .int mk] : List Value).toArray below meth c s.heap [] 0 0 (MQ below (va_Qi (fun (r : Int32) (u : StA) => r = (if 0 < thI (bI (!(inB kd 0 4) || !(inB ar 0 9) || !(inB st 0 5))) (bI (!(inB d 0 9999) || !(inB ho 0 23) || !(inB mk 0 3))) (bI (decide (v 1 = 200))) then 0 else v 1 + 1 - 1) ∧ u = (if 0 < thI (bI (!(inB kd 0 4) || !(inB ar 0 9) || !(inB st 0 5))) (bI (!(inB d 0 9999) || !(inB ho 0 23) || !(inB mk 0 3))) (bI (decide (v 1 = 200))) then upd v 0 (thI (bI (!(inB kd 0 4) || !(inB ar 0 9) || !(inB st 0 5))) (bI (!(inB d 0 9999) || !(inB ho 0 23) || !(inB mk 0 3))) (bI (decide (v 1 = 200)))) else upd (upd v 0 (thI (bI (!(inB kd 0 4) || !(inB ar 0 9) || !(inB st 0 5))) (bI (!(inB d 0 9999) || !(inB ho 0 23) || !(inB mk 0 3))) (bI (decide (v 1 = 200))))) 1 (v 1 + 1), if 0 < thI (bI (!(inB kd 0 4) || !(inB ar 0 9) || !(inB st 0 5))) (bI (!(inB d 0 9999) || !(inB ho 0 23) || !(inB mk 0 3))) (bI (decide (v 1 = 200))) then g else (upg (upg (upg (upg (upg (upg (upg (upg (upg g 0 n d) 1 n ho) 2 n kd) 3 n ar) 4 n st) 5 n (bI (decide (mk - mk / 2 * 2 = 1)))) 6 n (bI (decide (1 < mk)))) 7 n (-1)) 8 n (-1)))) (atM dC dI cI cZ cJ a A) A) ([.ref (a 0), .int d, .int ho, .int kd, .int ar, .int st, .int mk] : List Value).toArray s 0 0 A) (F0 m 72 ls [(.int xj), .int (bI (!(inB kd 0 4) || !(inB ar 0 9) || !(inB st 0 5))), .ref (a 0)]) := by
      intro xj ej
      subst ej
      have jn87 : ∀ xj : Int32, xj = bI (decide (v 1 = 200)) → W p l e (headSpec wsX5_row ({ frames := 2, cells := 0, slots := 0, locals := 46 })).room s m ([.ref (a 0), .int d, .int ho, .int kd, .int ar, .int st, .int mk] : List Value).toArray below meth c s.heap [] 0 0 (MQ below (va_Qi (fun (r : Int32) (u : StA) => r = (if 0 < thI (bI (!(inB kd 0 4) || !(inB ar 0 9) || !(inB st 0 5))) (bI (!(inB d 0 9999) || !(inB ho 0 23) || !(inB mk 0 3))) (bI (decide (v 1 = 200))) then 0 else v 1 + 1 - 1) ∧ u = (if 0 < thI (bI (!(inB kd 0 4) || !(inB ar 0 9) || !(inB st 0 5))) (bI (!(inB d 0 9999) || !(inB ho 0 23) || !(inB mk 0 3))) (bI (decide (v 1 = 200))) then upd v 0 (thI (bI (!(inB kd 0 4) || !(inB ar 0 9) || !(inB st 0 5))) (bI (!(inB d 0 9999) || !(inB ho 0 23) || !(inB mk 0 3))) (bI (decide (v 1 = 200)))) else upd (upd v 0 (thI (bI (!(inB kd 0 4) || !(inB ar 0 9) || !(inB st 0 5))) (bI (!(inB d 0 9999) || !(inB ho 0 23) || !(inB mk 0 3))) (bI (decide (v 1 = 200))))) 1 (v 1 + 1), if 0 < thI (bI (!(inB kd 0 4) || !(inB ar 0 9) || !(inB st 0 5))) (bI (!(inB d 0 9999) || !(inB ho 0 23) || !(inB mk 0 3))) (bI (decide (v 1 = 200))) then g else (upg (upg (upg (upg (upg (upg (upg (upg (upg g 0 n d) 1 n ho) 2 n kd) 3 n ar) 4 n st) 5 n (bI (decide (mk - mk / 2 * 2 = 1)))) 6 n (bI (decide (1 < mk)))) 7 n (-1)) 8 n (-1)))) (atM dC dI cI cZ cJ a A) A) ([.ref (a 0), .int d, .int ho, .int kd, .int ar, .int st, .int mk] : List Value).toArray s 0 0 A) (F0 m 87 ls [(.int xj), .int (bI (!(inB d 0 9999) || !(inB ho 0 23) || !(inB mk 0 3))), .int (bI (!(inB kd 0 4) || !(inB ar 0 9) || !(inB st 0 5))), .ref (a 0)]) := by
        intro xj ej
        subst ej
        have hFc := va_free (wc := (wM cI cZ a v g)) hD hS hA [0, 1, 2, 3, 4, 5, 6, 7, 8, 9, 10, 11, 12, 13, 14, 15, 16] rfl
        refine va_calli (va_runV (As := [.int (bI (!(inB kd 0 4) || !(inB ar 0 9) || !(inB st 0 5))), .int (bI (!(inB d 0 9999) || !(inB ho 0 23) || !(inB mk 0 3))), .int (bI (decide (v 1 = 200)))]) (rest := []) ⟨hx, hb, hml, hown, hts⟩ (m_throwing l dC dI cI cZ cJ a v g s.heap.size (bI (!(inB kd 0 4) || !(inB ar 0 9) || !(inB st 0 5))) (bI (!(inB d 0 9999) || !(inB ho 0 23) || !(inB mk 0 3))) (bI (decide (v 1 = 200)))) (cwV 3 hts (gd_V ml_X5_X5_throwing im_X5_throwing se_X5_throwing in_X5 kX5_throwing) rfl rfl rfl (by decide +kernel) ⟨Nat.le_of_ble_eq_true rfl, Nat.le_of_ble_eq_true rfl⟩) ⟨fun _ U g mk q => by obtain ⟨q0, q1, qP, qK, qD⟩ := q; exact ⟨q0, q1, qP, va_K.moved (u := U) (U := U.calling g mk _) (Vm.Alike.refl U.vm) qK, qD⟩, va_recv hK hP (ci := 5) (q0 := 0) rfl rfl, fun U hU hW => ⟨rfl, by rw [hU], by rw [hU]; exact hP, va_K.moved hW.alike hK, hD.weaken (fun _ _ _ _ => trivial)⟩⟩ rfl rfl hl.1 rfl (lv_room (Nat.le_of_ble_eq_true rfl)) dX5_row_87 ⟨Nat.le_of_ble_eq_true rfl, Nat.le_of_ble_eq_true rfl⟩) hS (fun q _ h => hFc q h) hFc (fun r87 u9 t9 H1 locs ht hvm hw hB hz1 hk1 hS => ?_)
        obtain ⟨rfl, rfl⟩ := hw
        obtain ⟨hP, hK1, hD1⟩ := hB
        rw [ht] at hP
        have hD := hD1.weaken (fun k q _ h => hFc q.1 h)
        clear hFc hk1 hD1 hK1
        generalize H1 = H at hP hS ⊢
        have hP : va_P (dC, dI) clA (wM cI cZ a (upd v 0 (thI (bI (!(inB kd 0 4) || !(inB ar 0 9) || !(inB st 0 5))) (bI (!(inB d 0 9999) || !(inB ho 0 23) || !(inB mk 0 3))) (bI (decide (v 1 = 200))))) g) H := hP
        have hD : va_D A (wM cI cZ a (upd v 0 (thI (bI (!(inB kd 0 4) || !(inB ar 0 9) || !(inB st 0 5))) (bI (!(inB d 0 9999) || !(inB ho 0 23) || !(inB mk 0 3))) (bI (decide (v 1 = 200))))) g) := hD
        refine lv_if_eq (tgt := 95) hx hb dX5_row_90 (by decide) (fun c90 => ?_) (fun c90 => ?_)
        · have c90 := bI_0.mp c90
          have hn3 : n < 200 := Nat.lt_of_le_of_ne hn2 (fun h => of_decide_eq_false (th3 c90).2.2 (by rw [hn, h]; rfl))
          refine lv_aload_n hx hb dX5_row_95 rfl (lv_at hl 1 rfl) ?_
          refine va_get (D := (dC, dI)) (ci := 5) (v := .ref (a 1)) (C := RX5) (T := TX5) (N := 24) hx hb hts (fun w h => List.mem_cons_of_mem _ (iw_X5 w h)) hown hK hP 0 rfl rfl 2 (by decide) (hts _ (List.mem_cons_of_mem _ fl_X5_day)) (fun _ h9 => h9) rfl dX5_row_96 ?_
          refine lv_aload_n hx hb dX5_row_99 rfl (lv_at hl 1 rfl) ?_
          refine va_get (D := (dC, dI)) (ci := 5) (v := .int (v 1)) (C := RX5) (T := TX5) (N := 24) hx hb hts (fun w h => List.mem_cons_of_mem _ (iw_X5 w h)) hown hK hP 0 rfl rfl 1 (by decide) (hts _ (List.mem_cons_of_mem _ fl_X5_rows)) (fun _ h9 => h9) rfl dX5_row_100 ?_
          refine lv_iload_n hx hb dX5_row_103 rfl (lv_at hl 2 rfl) ?_
          refine wi_astE hx hb hK hP hD hS 1 0 rfl rfl (k := n) hn (by omega) (by decide) dX5_row_104 (fun H locs hP hD hS => ?_)
          have hP : va_P (dC, dI) clA (wM cI cZ a (upd v 0 (thI (bI (!(inB kd 0 4) || !(inB ar 0 9) || !(inB st 0 5))) (bI (!(inB d 0 9999) || !(inB ho 0 23) || !(inB mk 0 3))) (bI (decide (v 1 = 200))))) (upg g 0 n d)) H := hP
          have hD : va_D A (wM cI cZ a (upd v 0 (thI (bI (!(inB kd 0 4) || !(inB ar 0 9) || !(inB st 0 5))) (bI (!(inB d 0 9999) || !(inB ho 0 23) || !(inB mk 0 3))) (bI (decide (v 1 = 200))))) (upg g 0 n d)) := hD
          refine lv_aload_n hx hb dX5_row_105 rfl (lv_at hl 1 rfl) ?_
          refine va_get (D := (dC, dI)) (ci := 5) (v := .ref (a 2)) (C := RX5) (T := TX5) (N := 24) hx hb hts (fun w h => List.mem_cons_of_mem _ (iw_X5 w h)) hown hK hP 0 rfl rfl 3 (by decide) (hts _ (List.mem_cons_of_mem _ fl_X5_hour)) (fun _ h9 => h9) rfl dX5_row_106 ?_
          refine lv_aload_n hx hb dX5_row_109 rfl (lv_at hl 1 rfl) ?_
          refine va_get (D := (dC, dI)) (ci := 5) (v := .int (v 1)) (C := RX5) (T := TX5) (N := 24) hx hb hts (fun w h => List.mem_cons_of_mem _ (iw_X5 w h)) hown hK hP 0 rfl rfl 1 (by decide) (hts _ (List.mem_cons_of_mem _ fl_X5_rows)) (fun _ h9 => h9) rfl dX5_row_110 ?_
          refine lv_iload_n hx hb dX5_row_113 rfl (lv_at hl 3 rfl) ?_
          refine wi_astE hx hb hK hP hD hS 2 0 rfl rfl (k := n) hn (by omega) (by decide) dX5_row_114 (fun H locs hP hD hS => ?_)
          have hP : va_P (dC, dI) clA (wM cI cZ a (upd v 0 (thI (bI (!(inB kd 0 4) || !(inB ar 0 9) || !(inB st 0 5))) (bI (!(inB d 0 9999) || !(inB ho 0 23) || !(inB mk 0 3))) (bI (decide (v 1 = 200))))) (upg (upg g 0 n d) 1 n ho)) H := hP
          have hD : va_D A (wM cI cZ a (upd v 0 (thI (bI (!(inB kd 0 4) || !(inB ar 0 9) || !(inB st 0 5))) (bI (!(inB d 0 9999) || !(inB ho 0 23) || !(inB mk 0 3))) (bI (decide (v 1 = 200))))) (upg (upg g 0 n d) 1 n ho)) := hD
          refine lv_aload_n hx hb dX5_row_115 rfl (lv_at hl 1 rfl) ?_
          refine va_get (D := (dC, dI)) (ci := 5) (v := .ref (a 3)) (C := RX5) (T := TX5) (N := 24) hx hb hts (fun w h => List.mem_cons_of_mem _ (iw_X5 w h)) hown hK hP 0 rfl rfl 4 (by decide) (hts _ (List.mem_cons_of_mem _ fl_X5_kind)) (fun _ h9 => h9) rfl dX5_row_116 ?_
          refine lv_aload_n hx hb dX5_row_119 rfl (lv_at hl 1 rfl) ?_
          refine va_get (D := (dC, dI)) (ci := 5) (v := .int (v 1)) (C := RX5) (T := TX5) (N := 24) hx hb hts (fun w h => List.mem_cons_of_mem _ (iw_X5 w h)) hown hK hP 0 rfl rfl 1 (by decide) (hts _ (List.mem_cons_of_mem _ fl_X5_rows)) (fun _ h9 => h9) rfl dX5_row_120 ?_
          refine lv_iload_n hx hb dX5_row_123 rfl (lv_at hl 4 rfl) ?_
          refine wi_astE hx hb hK hP hD hS 3 0 rfl rfl (k := n) hn (by omega) (by decide) dX5_row_124 (fun H locs hP hD hS => ?_)
          have hP : va_P (dC, dI) clA (wM cI cZ a (upd v 0 (thI (bI (!(inB kd 0 4) || !(inB ar 0 9) || !(inB st 0 5))) (bI (!(inB d 0 9999) || !(inB ho 0 23) || !(inB mk 0 3))) (bI (decide (v 1 = 200))))) (upg (upg (upg g 0 n d) 1 n ho) 2 n kd)) H := hP
          have hD : va_D A (wM cI cZ a (upd v 0 (thI (bI (!(inB kd 0 4) || !(inB ar 0 9) || !(inB st 0 5))) (bI (!(inB d 0 9999) || !(inB ho 0 23) || !(inB mk 0 3))) (bI (decide (v 1 = 200))))) (upg (upg (upg g 0 n d) 1 n ho) 2 n kd)) := hD
          refine lv_aload_n hx hb dX5_row_125 rfl (lv_at hl 1 rfl) ?_
          refine va_get (D := (dC, dI)) (ci := 5) (v := .ref (a 4)) (C := RX5) (T := TX5) (N := 24) hx hb hts (fun w h => List.mem_cons_of_mem _ (iw_X5 w h)) hown hK hP 0 rfl rfl 5 (by decide) (hts _ (List.mem_cons_of_mem _ fl_X5_area)) (fun _ h9 => h9) rfl dX5_row_126 ?_
          refine lv_aload_n hx hb dX5_row_129 rfl (lv_at hl 1 rfl) ?_
          refine va_get (D := (dC, dI)) (ci := 5) (v := .int (v 1)) (C := RX5) (T := TX5) (N := 24) hx hb hts (fun w h => List.mem_cons_of_mem _ (iw_X5 w h)) hown hK hP 0 rfl rfl 1 (by decide) (hts _ (List.mem_cons_of_mem _ fl_X5_rows)) (fun _ h9 => h9) rfl dX5_row_130 ?_
          refine lv_iload hx hb dX5_row_133 (lv_at hl 5 rfl) ?_
          refine wi_astE hx hb hK hP hD hS 4 0 rfl rfl (k := n) hn (by omega) (by decide) dX5_row_135 (fun H locs hP hD hS => ?_)
          have hP : va_P (dC, dI) clA (wM cI cZ a (upd v 0 (thI (bI (!(inB kd 0 4) || !(inB ar 0 9) || !(inB st 0 5))) (bI (!(inB d 0 9999) || !(inB ho 0 23) || !(inB mk 0 3))) (bI (decide (v 1 = 200))))) (upg (upg (upg (upg g 0 n d) 1 n ho) 2 n kd) 3 n ar)) H := hP
          have hD : va_D A (wM cI cZ a (upd v 0 (thI (bI (!(inB kd 0 4) || !(inB ar 0 9) || !(inB st 0 5))) (bI (!(inB d 0 9999) || !(inB ho 0 23) || !(inB mk 0 3))) (bI (decide (v 1 = 200))))) (upg (upg (upg (upg g 0 n d) 1 n ho) 2 n kd) 3 n ar)) := hD
          refine lv_aload_n hx hb dX5_row_136 rfl (lv_at hl 1 rfl) ?_
          refine va_get (D := (dC, dI)) (ci := 5) (v := .ref (a 5)) (C := RX5) (T := TX5) (N := 24) hx hb hts (fun w h => List.mem_cons_of_mem _ (iw_X5 w h)) hown hK hP 0 rfl rfl 6 (by decide) (hts _ (List.mem_cons_of_mem _ fl_X5_station)) (fun _ h9 => h9) rfl dX5_row_137 ?_
          refine lv_aload_n hx hb dX5_row_140 rfl (lv_at hl 1 rfl) ?_
          refine va_get (D := (dC, dI)) (ci := 5) (v := .int (v 1)) (C := RX5) (T := TX5) (N := 24) hx hb hts (fun w h => List.mem_cons_of_mem _ (iw_X5 w h)) hown hK hP 0 rfl rfl 1 (by decide) (hts _ (List.mem_cons_of_mem _ fl_X5_rows)) (fun _ h9 => h9) rfl dX5_row_141 ?_
          refine lv_iload hx hb dX5_row_144 (lv_at hl 6 rfl) ?_
          refine wi_astE hx hb hK hP hD hS 5 0 rfl rfl (k := n) hn (by omega) (by decide) dX5_row_146 (fun H locs hP hD hS => ?_)
          have hP : va_P (dC, dI) clA (wM cI cZ a (upd v 0 (thI (bI (!(inB kd 0 4) || !(inB ar 0 9) || !(inB st 0 5))) (bI (!(inB d 0 9999) || !(inB ho 0 23) || !(inB mk 0 3))) (bI (decide (v 1 = 200))))) (upg (upg (upg (upg (upg g 0 n d) 1 n ho) 2 n kd) 3 n ar) 4 n st)) H := hP
          have hD : va_D A (wM cI cZ a (upd v 0 (thI (bI (!(inB kd 0 4) || !(inB ar 0 9) || !(inB st 0 5))) (bI (!(inB d 0 9999) || !(inB ho 0 23) || !(inB mk 0 3))) (bI (decide (v 1 = 200))))) (upg (upg (upg (upg (upg g 0 n d) 1 n ho) 2 n kd) 3 n ar) 4 n st)) := hD
          refine lv_aload_n hx hb dX5_row_147 rfl (lv_at hl 1 rfl) ?_
          refine va_get (D := (dC, dI)) (ci := 5) (v := .ref (a 6)) (C := RX5) (T := TX5) (N := 24) hx hb hts (fun w h => List.mem_cons_of_mem _ (iw_X5 w h)) hown hK hP 0 rfl rfl 7 (by decide) (hts _ (List.mem_cons_of_mem _ fl_X5_wrong)) (fun _ h9 => h9) rfl dX5_row_148 ?_
          refine lv_aload_n hx hb dX5_row_151 rfl (lv_at hl 1 rfl) ?_
          refine va_get (D := (dC, dI)) (ci := 5) (v := .int (v 1)) (C := RX5) (T := TX5) (N := 24) hx hb hts (fun w h => List.mem_cons_of_mem _ (iw_X5 w h)) hown hK hP 0 rfl rfl 1 (by decide) (hts _ (List.mem_cons_of_mem _ fl_X5_rows)) (fun _ h9 => h9) rfl dX5_row_152 ?_
          have jn168 : ∀ xj : Int32, xj = bI (decide (mk - mk / 2 * 2 = 1)) → W p l e (headSpec wsX5_row ({ frames := 2, cells := 0, slots := 0, locals := 46 })).room s m ([.ref (a 0), .int d, .int ho, .int kd, .int ar, .int st, .int mk] : List Value).toArray below meth c H locs 0 0 (MQ below (va_Qi (fun (r : Int32) (u : StA) => r = (if 0 < thI (bI (!(inB kd 0 4) || !(inB ar 0 9) || !(inB st 0 5))) (bI (!(inB d 0 9999) || !(inB ho 0 23) || !(inB mk 0 3))) (bI (decide (v 1 = 200))) then 0 else v 1 + 1 - 1) ∧ u = (if 0 < thI (bI (!(inB kd 0 4) || !(inB ar 0 9) || !(inB st 0 5))) (bI (!(inB d 0 9999) || !(inB ho 0 23) || !(inB mk 0 3))) (bI (decide (v 1 = 200))) then upd v 0 (thI (bI (!(inB kd 0 4) || !(inB ar 0 9) || !(inB st 0 5))) (bI (!(inB d 0 9999) || !(inB ho 0 23) || !(inB mk 0 3))) (bI (decide (v 1 = 200)))) else upd (upd v 0 (thI (bI (!(inB kd 0 4) || !(inB ar 0 9) || !(inB st 0 5))) (bI (!(inB d 0 9999) || !(inB ho 0 23) || !(inB mk 0 3))) (bI (decide (v 1 = 200))))) 1 (v 1 + 1), if 0 < thI (bI (!(inB kd 0 4) || !(inB ar 0 9) || !(inB st 0 5))) (bI (!(inB d 0 9999) || !(inB ho 0 23) || !(inB mk 0 3))) (bI (decide (v 1 = 200))) then g else (upg (upg (upg (upg (upg (upg (upg (upg (upg g 0 n d) 1 n ho) 2 n kd) 3 n ar) 4 n st) 5 n (bI (decide (mk - mk / 2 * 2 = 1)))) 6 n (bI (decide (1 < mk)))) 7 n (-1)) 8 n (-1)))) (atM dC dI cI cZ cJ a A) A) ([.ref (a 0), .int d, .int ho, .int kd, .int ar, .int st, .int mk] : List Value).toArray s 0 0 A) (F0 m 168 ls [(.int xj), .int (v 1), .ref (a 6)]) := by
            intro xj ej
            subst ej
            refine wz_astE hx hb hK hP hD hS 6 1 rfl rfl (k := n) hn (bI_vn _) (by omega) (by decide) dX5_row_168 (fun H locs hP hD hS => ?_)
            have hP : va_P (dC, dI) clA (wM cI cZ a (upd v 0 (thI (bI (!(inB kd 0 4) || !(inB ar 0 9) || !(inB st 0 5))) (bI (!(inB d 0 9999) || !(inB ho 0 23) || !(inB mk 0 3))) (bI (decide (v 1 = 200))))) (upg (upg (upg (upg (upg (upg g 0 n d) 1 n ho) 2 n kd) 3 n ar) 4 n st) 5 n (bI (decide (mk - mk / 2 * 2 = 1))))) H := hP
            have hD : va_D A (wM cI cZ a (upd v 0 (thI (bI (!(inB kd 0 4) || !(inB ar 0 9) || !(inB st 0 5))) (bI (!(inB d 0 9999) || !(inB ho 0 23) || !(inB mk 0 3))) (bI (decide (v 1 = 200))))) (upg (upg (upg (upg (upg (upg g 0 n d) 1 n ho) 2 n kd) 3 n ar) 4 n st) 5 n (bI (decide (mk - mk / 2 * 2 = 1))))) := hD
            refine lv_aload_n hx hb dX5_row_169 rfl (lv_at hl 1 rfl) ?_
            refine va_get (D := (dC, dI)) (ci := 5) (v := .ref (a 7)) (C := RX5) (T := TX5) (N := 24) hx hb hts (fun w h => List.mem_cons_of_mem _ (iw_X5 w h)) hown hK hP 0 rfl rfl 8 (by decide) (hts _ (List.mem_cons_of_mem _ fl_X5_hidden)) (fun _ h9 => h9) rfl dX5_row_170 ?_
            refine lv_aload_n hx hb dX5_row_173 rfl (lv_at hl 1 rfl) ?_
            refine va_get (D := (dC, dI)) (ci := 5) (v := .int (v 1)) (C := RX5) (T := TX5) (N := 24) hx hb hts (fun w h => List.mem_cons_of_mem _ (iw_X5 w h)) hown hK hP 0 rfl rfl 1 (by decide) (hts _ (List.mem_cons_of_mem _ fl_X5_rows)) (fun _ h9 => h9) rfl dX5_row_174 ?_
            have jn188 : ∀ xj : Int32, xj = bI (decide (1 < mk)) → W p l e (headSpec wsX5_row ({ frames := 2, cells := 0, slots := 0, locals := 46 })).room s m ([.ref (a 0), .int d, .int ho, .int kd, .int ar, .int st, .int mk] : List Value).toArray below meth c H locs 0 0 (MQ below (va_Qi (fun (r : Int32) (u : StA) => r = (if 0 < thI (bI (!(inB kd 0 4) || !(inB ar 0 9) || !(inB st 0 5))) (bI (!(inB d 0 9999) || !(inB ho 0 23) || !(inB mk 0 3))) (bI (decide (v 1 = 200))) then 0 else v 1 + 1 - 1) ∧ u = (if 0 < thI (bI (!(inB kd 0 4) || !(inB ar 0 9) || !(inB st 0 5))) (bI (!(inB d 0 9999) || !(inB ho 0 23) || !(inB mk 0 3))) (bI (decide (v 1 = 200))) then upd v 0 (thI (bI (!(inB kd 0 4) || !(inB ar 0 9) || !(inB st 0 5))) (bI (!(inB d 0 9999) || !(inB ho 0 23) || !(inB mk 0 3))) (bI (decide (v 1 = 200)))) else upd (upd v 0 (thI (bI (!(inB kd 0 4) || !(inB ar 0 9) || !(inB st 0 5))) (bI (!(inB d 0 9999) || !(inB ho 0 23) || !(inB mk 0 3))) (bI (decide (v 1 = 200))))) 1 (v 1 + 1), if 0 < thI (bI (!(inB kd 0 4) || !(inB ar 0 9) || !(inB st 0 5))) (bI (!(inB d 0 9999) || !(inB ho 0 23) || !(inB mk 0 3))) (bI (decide (v 1 = 200))) then g else (upg (upg (upg (upg (upg (upg (upg (upg (upg g 0 n d) 1 n ho) 2 n kd) 3 n ar) 4 n st) 5 n (bI (decide (mk - mk / 2 * 2 = 1)))) 6 n (bI (decide (1 < mk)))) 7 n (-1)) 8 n (-1)))) (atM dC dI cI cZ cJ a A) A) ([.ref (a 0), .int d, .int ho, .int kd, .int ar, .int st, .int mk] : List Value).toArray s 0 0 A) (F0 m 188 ls [(.int xj), .int (v 1), .ref (a 7)]) := by
              intro xj ej
              subst ej
              refine wz_astE hx hb hK hP hD hS 7 1 rfl rfl (k := n) hn (bI_vn _) (by omega) (by decide) dX5_row_188 (fun H locs hP hD hS => ?_)
              have hP : va_P (dC, dI) clA (wM cI cZ a (upd v 0 (thI (bI (!(inB kd 0 4) || !(inB ar 0 9) || !(inB st 0 5))) (bI (!(inB d 0 9999) || !(inB ho 0 23) || !(inB mk 0 3))) (bI (decide (v 1 = 200))))) (upg (upg (upg (upg (upg (upg (upg g 0 n d) 1 n ho) 2 n kd) 3 n ar) 4 n st) 5 n (bI (decide (mk - mk / 2 * 2 = 1)))) 6 n (bI (decide (1 < mk))))) H := hP
              have hD : va_D A (wM cI cZ a (upd v 0 (thI (bI (!(inB kd 0 4) || !(inB ar 0 9) || !(inB st 0 5))) (bI (!(inB d 0 9999) || !(inB ho 0 23) || !(inB mk 0 3))) (bI (decide (v 1 = 200))))) (upg (upg (upg (upg (upg (upg (upg g 0 n d) 1 n ho) 2 n kd) 3 n ar) 4 n st) 5 n (bI (decide (mk - mk / 2 * 2 = 1)))) 6 n (bI (decide (1 < mk))))) := hD
              refine lv_aload_n hx hb dX5_row_189 rfl (lv_at hl 1 rfl) ?_
              refine va_get (D := (dC, dI)) (ci := 5) (v := .ref (a 8)) (C := RX5) (T := TX5) (N := 24) hx hb hts (fun w h => List.mem_cons_of_mem _ (iw_X5 w h)) hown hK hP 0 rfl rfl 9 (by decide) (hts _ (List.mem_cons_of_mem _ fl_X5_turnOut)) (fun _ h9 => h9) rfl dX5_row_190 ?_
              refine lv_aload_n hx hb dX5_row_193 rfl (lv_at hl 1 rfl) ?_
              refine va_get (D := (dC, dI)) (ci := 5) (v := .int (v 1)) (C := RX5) (T := TX5) (N := 24) hx hb hts (fun w h => List.mem_cons_of_mem _ (iw_X5 w h)) hown hK hP 0 rfl rfl 1 (by decide) (hts _ (List.mem_cons_of_mem _ fl_X5_rows)) (fun _ h9 => h9) rfl dX5_row_194 ?_
              refine lv_iconst (v := (-1)) hx hb dX5_row_197 (by decide) ?_
              refine wi_astE hx hb hK hP hD hS 8 0 rfl rfl (k := n) hn (by omega) (by decide) dX5_row_198 (fun H locs hP hD hS => ?_)
              have hP : va_P (dC, dI) clA (wM cI cZ a (upd v 0 (thI (bI (!(inB kd 0 4) || !(inB ar 0 9) || !(inB st 0 5))) (bI (!(inB d 0 9999) || !(inB ho 0 23) || !(inB mk 0 3))) (bI (decide (v 1 = 200))))) (upg (upg (upg (upg (upg (upg (upg (upg g 0 n d) 1 n ho) 2 n kd) 3 n ar) 4 n st) 5 n (bI (decide (mk - mk / 2 * 2 = 1)))) 6 n (bI (decide (1 < mk)))) 7 n (-1))) H := hP
              have hD : va_D A (wM cI cZ a (upd v 0 (thI (bI (!(inB kd 0 4) || !(inB ar 0 9) || !(inB st 0 5))) (bI (!(inB d 0 9999) || !(inB ho 0 23) || !(inB mk 0 3))) (bI (decide (v 1 = 200))))) (upg (upg (upg (upg (upg (upg (upg (upg g 0 n d) 1 n ho) 2 n kd) 3 n ar) 4 n st) 5 n (bI (decide (mk - mk / 2 * 2 = 1)))) 6 n (bI (decide (1 < mk)))) 7 n (-1))) := hD
              refine lv_aload_n hx hb dX5_row_199 rfl (lv_at hl 1 rfl) ?_
              refine va_get (D := (dC, dI)) (ci := 5) (v := .ref (a 9)) (C := RX5) (T := TX5) (N := 24) hx hb hts (fun w h => List.mem_cons_of_mem _ (iw_X5 w h)) hown hK hP 0 rfl rfl 10 (by decide) (hts _ (List.mem_cons_of_mem _ fl_X5_travel)) (fun _ h9 => h9) rfl dX5_row_200 ?_
              refine lv_aload_n hx hb dX5_row_203 rfl (lv_at hl 1 rfl) ?_
              refine va_get (D := (dC, dI)) (ci := 5) (v := .int (v 1)) (C := RX5) (T := TX5) (N := 24) hx hb hts (fun w h => List.mem_cons_of_mem _ (iw_X5 w h)) hown hK hP 0 rfl rfl 1 (by decide) (hts _ (List.mem_cons_of_mem _ fl_X5_rows)) (fun _ h9 => h9) rfl dX5_row_204 ?_
              refine lv_iconst (v := (-1)) hx hb dX5_row_207 (by decide) ?_
              refine wi_astE hx hb hK hP hD hS 9 0 rfl rfl (k := n) hn (by omega) (by decide) dX5_row_208 (fun H locs hP hD hS => ?_)
              have hP : va_P (dC, dI) clA (wM cI cZ a (upd v 0 (thI (bI (!(inB kd 0 4) || !(inB ar 0 9) || !(inB st 0 5))) (bI (!(inB d 0 9999) || !(inB ho 0 23) || !(inB mk 0 3))) (bI (decide (v 1 = 200))))) (upg (upg (upg (upg (upg (upg (upg (upg (upg g 0 n d) 1 n ho) 2 n kd) 3 n ar) 4 n st) 5 n (bI (decide (mk - mk / 2 * 2 = 1)))) 6 n (bI (decide (1 < mk)))) 7 n (-1)) 8 n (-1))) H := hP
              have hD : va_D A (wM cI cZ a (upd v 0 (thI (bI (!(inB kd 0 4) || !(inB ar 0 9) || !(inB st 0 5))) (bI (!(inB d 0 9999) || !(inB ho 0 23) || !(inB mk 0 3))) (bI (decide (v 1 = 200))))) (upg (upg (upg (upg (upg (upg (upg (upg (upg g 0 n d) 1 n ho) 2 n kd) 3 n ar) 4 n st) 5 n (bI (decide (mk - mk / 2 * 2 = 1)))) 6 n (bI (decide (1 < mk)))) 7 n (-1)) 8 n (-1))) := hD
              refine lv_aload_n hx hb dX5_row_209 rfl (lv_at hl 1 rfl) ?_
              refine lv_dup hx hb dX5_row_210 rfl ?_
              refine va_get (D := (dC, dI)) (ci := 5) (v := .int (v 1)) (C := RX5) (T := TX5) (N := 24) hx hb hts (fun w h => List.mem_cons_of_mem _ (iw_X5 w h)) hown hK hP 0 rfl rfl 1 (by decide) (hts _ (List.mem_cons_of_mem _ fl_X5_rows)) (fun _ h9 => h9) rfl dX5_row_211 ?_
              refine lv_iconst (v := 1) hx hb dX5_row_214 (by decide) ?_
              refine lv_iadd hx hb dX5_row_215 ?_
              refine va_put (D := (dC, dI)) (ci := 5) (v := .int ((v 1) + 1)) (ty := .int) (C := RX5) (T := TX5) (N := 24) hx hb hts (fun w h => List.mem_cons_of_mem _ (iw_X5 w h)) tyX5 tyX5_ok nmX5 hown hK hP hD hS 0 rfl rfl 1 (by decide) (hts _ (List.mem_cons_of_mem _ fl_X5_rows)) (fun _ h9 => h9) rfl (by decide +kernel) rfl rfl (Nat.le_of_ble_eq_true rfl) dX5_row_216 (fun H locs hP hD hS => ?_)
              have hP : va_P (dC, dI) clA (wM cI cZ a (upd (upd v 0 (thI (bI (!(inB kd 0 4) || !(inB ar 0 9) || !(inB st 0 5))) (bI (!(inB d 0 9999) || !(inB ho 0 23) || !(inB mk 0 3))) (bI (decide (v 1 = 200))))) 1 ((v 1) + 1)) (upg (upg (upg (upg (upg (upg (upg (upg (upg g 0 n d) 1 n ho) 2 n kd) 3 n ar) 4 n st) 5 n (bI (decide (mk - mk / 2 * 2 = 1)))) 6 n (bI (decide (1 < mk)))) 7 n (-1)) 8 n (-1))) H := hP
              have hD : va_D A (wM cI cZ a (upd (upd v 0 (thI (bI (!(inB kd 0 4) || !(inB ar 0 9) || !(inB st 0 5))) (bI (!(inB d 0 9999) || !(inB ho 0 23) || !(inB mk 0 3))) (bI (decide (v 1 = 200))))) 1 ((v 1) + 1)) (upg (upg (upg (upg (upg (upg (upg (upg (upg g 0 n d) 1 n ho) 2 n kd) 3 n ar) 4 n st) 5 n (bI (decide (mk - mk / 2 * 2 = 1)))) 6 n (bI (decide (1 < mk)))) 7 n (-1)) 8 n (-1))) := hD
              refine lv_aload_n hx hb dX5_row_219 rfl (lv_at hl 1 rfl) ?_
              refine va_get (D := (dC, dI)) (ci := 5) (v := .int ((v 1) + 1)) (C := RX5) (T := TX5) (N := 24) hx hb hts (fun w h => List.mem_cons_of_mem _ (iw_X5 w h)) hown hK hP 0 rfl rfl 1 (by decide) (hts _ (List.mem_cons_of_mem _ fl_X5_rows)) (fun _ h9 => h9) rfl dX5_row_220 ?_
              refine lv_iconst (v := 1) hx hb dX5_row_223 (by decide) ?_
              refine lv_isub hx hb dX5_row_224 ?_
              exact (W.iret (v := ((v 1) + 1) - 1) hx hb hr (fun t9 ht hW => ⟨⟨_, ((upd (upd v 0 (thI (bI (!(inB kd 0 4) || !(inB ar 0 9) || !(inB st 0 5))) (bI (!(inB d 0 9999) || !(inB ho 0 23) || !(inB mk 0 3))) (bI (decide (v 1 = 200))))) 1 ((v 1) + 1)), (upg (upg (upg (upg (upg (upg (upg (upg (upg g 0 n d) 1 n ho) 2 n kd) 3 n ar) 4 n st) 5 n (bI (decide (mk - mk / 2 * 2 = 1)))) 6 n (bI (decide (1 < mk)))) 7 n (-1)) 8 n (-1))), rfl, ⟨(by first | rfl | (simp only [if_neg (of_decide_eq_false c90)]; done) | (simp only [if_neg (of_decide_eq_false c90)])), (by first | rfl | (simp only [if_neg (of_decide_eq_false c90)]; done) | (simp only [if_neg (of_decide_eq_false c90)]))⟩, ⟨by rw [ht]; exact hP, va_K.moved hW.alike hK, hD⟩⟩, hS.F ht⟩) hS.2.2 dX5_row_225)
            refine lv_iload hx hb dX5_row_177 (lv_at hl 7 rfl) ?_
            refine lv_iconst (v := 1) hx hb dX5_row_179 (by decide) ?_
            refine lv_icmp_le (tgt := 187) hx hb dX5_row_180 (by decide) (fun c180 => ?_) (fun c180 => ?_)
            · have n180 := Int32.not_lt.mpr c180
              refine lv_iconst (v := 0) hx hb dX5_row_187 (by decide) ?_
              exact jn188 _ (by first | (simp [bI, c90, c180, n180]; done) | exact absurd (c90.symm.trans c180) (by decide))
            · have n180 := Int32.not_le.mp c180
              refine lv_iconst (v := 1) hx hb dX5_row_183 (by decide) ?_
              refine lv_goto (tgt := 188) hx hb dX5_row_184 (by decide) ?_
              exact jn188 _ (by first | (simp [bI, c90, c180, n180]; done) | exact absurd (c90.symm.trans c180) (by decide))
          refine lv_iload hx hb dX5_row_155 (lv_at hl 7 rfl) ?_
          refine lv_iconst (v := 2) hx hb dX5_row_157 (by decide) ?_
          refine lv_irem hx hb dX5_row_158 (by decide) ?_
          refine lv_iconst (v := 1) hx hb dX5_row_159 (by decide) ?_
          refine lv_icmp_ne (tgt := 167) hx hb dX5_row_160 (by decide) (fun c160 => ?_) (fun c160 => ?_)
          · refine lv_iconst (v := 0) hx hb dX5_row_167 (by decide) ?_
            exact jn168 _ (by first | (simp [bI, c90, c160]; done) | exact absurd (c90.symm.trans c160) (by decide))
          · refine lv_iconst (v := 1) hx hb dX5_row_163 (by decide) ?_
            refine lv_goto (tgt := 168) hx hb dX5_row_164 (by decide) ?_
            exact jn168 _ (by first | (simp [bI, c90, c160]; done) | exact absurd (c90.symm.trans c160) (by decide))
        · have c90 := bI_n0.mp c90
          refine lv_iconst (v := 0) hx hb dX5_row_93 (by decide) ?_
          exact (W.iret (v := 0) hx hb hr (fun t9 ht hW => ⟨⟨_, ((upd v 0 (thI (bI (!(inB kd 0 4) || !(inB ar 0 9) || !(inB st 0 5))) (bI (!(inB d 0 9999) || !(inB ho 0 23) || !(inB mk 0 3))) (bI (decide (v 1 = 200))))), g), rfl, ⟨(by first | rfl | (simp only [if_pos (of_decide_eq_true c90)]; done) | (simp only [if_pos (of_decide_eq_true c90)])), (by first | rfl | (simp only [if_pos (of_decide_eq_true c90)]; done) | (simp only [if_pos (of_decide_eq_true c90)]))⟩, ⟨by rw [ht]; exact hP, va_K.moved hW.alike hK, hD⟩⟩, hS.F ht⟩) hS.2.2 dX5_row_94)
      refine lv_aload_n hx hb dX5_row_72 rfl (lv_at hl 1 rfl) ?_
      refine va_get (D := (dC, dI)) (ci := 5) (v := .int (v 1)) (C := RX5) (T := TX5) (N := 24) hx hb hts (fun w h => List.mem_cons_of_mem _ (iw_X5 w h)) hown hK hP 0 rfl rfl 1 (by decide) (hts _ (List.mem_cons_of_mem _ fl_X5_rows)) (fun _ h9 => h9) rfl dX5_row_73 ?_
      refine lv_sipush (v := 200) hx hb dX5_row_76 (by decide) ?_
      refine lv_icmp_ne (tgt := 86) hx hb dX5_row_79 (by decide) (fun c79 => ?_) (fun c79 => ?_)
      · refine lv_iconst (v := 0) hx hb dX5_row_86 (by decide) ?_
        exact jn87 _ (by first | (simp [bI, c79]; done))
      · refine lv_iconst (v := 1) hx hb dX5_row_82 (by decide) ?_
        refine lv_goto (tgt := 87) hx hb dX5_row_83 (by decide) ?_
        exact jn87 _ (by first | (simp [bI, c79]; done))
    refine lv_iload_n hx hb dX5_row_40 rfl (lv_at hl 2 rfl) ?_
    refine vp_callSi (W.runS (As := [.int d]) (rest := [.int (bI (!(inB kd 0 4) || !(inB ar 0 9) || !(inB st 0 5))), .ref (a 0)]) ⟨hx, hb, hml, hown, hts⟩ (m_isDay l dC dI cI cZ cJ a v g d) (cwS 1 hts (gd_S ml_X5_X5_isDay sm_X5_isDay in_X5 kX5_isDay) rfl rfl rfl (by decide +kernel) ⟨Nat.le_of_ble_eq_true rfl, Nat.le_of_ble_eq_true rfl⟩) ⟨fun _ U g mk q => by obtain ⟨q0, qP, qK⟩ := q; exact ⟨q0, qP, va_K.moved (u := U) (U := U.calling g mk _) (Vm.Alike.refl U.vm) qK⟩, fun U hU hW => ⟨rfl, by rw [hU]; exact hP, va_K.moved hW.alike hK⟩⟩ rfl rfl hl.1 rfl (lv_room (Nat.le_of_ble_eq_true rfl)) dX5_row_41 ⟨Nat.le_of_ble_eq_true rfl, Nat.le_of_ble_eq_true rfl⟩) (fun r41 hr41 => ?_)
    subst hr41
    refine lv_if_eq (tgt := 67) hx hb dX5_row_44 (by decide) (fun c44 => ?_) (fun c44 => ?_)
    · have c44 := bI_0.mp c44
      refine lv_iconst (v := 1) hx hb dX5_row_67 (by decide) ?_
      refine lv_goto (tgt := 72) hx hb dX5_row_68 (by decide) ?_
      exact jn72 _ (by first | (simp [bI, c44]; done))
    · have c44 := bI_n0.mp c44
      refine lv_iload_n hx hb dX5_row_47 rfl (lv_at hl 3 rfl) ?_
      refine lv_iconst (v := 0) hx hb dX5_row_48 (by decide) ?_
      refine lv_bipush (v := 23) hx hb dX5_row_49 (by decide) ?_
      refine vp_callSi (W.runS (As := [.int ho, .int 0, .int 23]) (rest := [.int (bI (!(inB kd 0 4) || !(inB ar 0 9) || !(inB st 0 5))), .ref (a 0)]) ⟨hx, hb, hml, hown, hts⟩ (m_in l dC dI cI cZ cJ a v g ho 0 23) (cwS 3 hts (gd_S ml_X5_X5_in sm_X5_in in_X5 kX5_in) rfl rfl rfl (by decide +kernel) ⟨Nat.le_of_ble_eq_true rfl, Nat.le_of_ble_eq_true rfl⟩) ⟨fun _ U g mk q => by obtain ⟨q0, qP, qK⟩ := q; exact ⟨q0, qP, va_K.moved (u := U) (U := U.calling g mk _) (Vm.Alike.refl U.vm) qK⟩, fun U hU hW => ⟨rfl, by rw [hU]; exact hP, va_K.moved hW.alike hK⟩⟩ rfl rfl hl.1 rfl (lv_room (Nat.le_of_ble_eq_true rfl)) dX5_row_51 ⟨Nat.le_of_ble_eq_true rfl, Nat.le_of_ble_eq_true rfl⟩) (fun r51 hr51 => ?_)
      subst hr51
      refine lv_if_eq (tgt := 67) hx hb dX5_row_54 (by decide) (fun c54 => ?_) (fun c54 => ?_)
      · have c54 := bI_0.mp c54
        refine lv_iconst (v := 1) hx hb dX5_row_67 (by decide) ?_
        refine lv_goto (tgt := 72) hx hb dX5_row_68 (by decide) ?_
        exact jn72 _ (by first | (simp [bI, c44, c54]; done) | exact absurd (c44.symm.trans c54) (by decide))
      · have c54 := bI_n0.mp c54
        refine lv_iload hx hb dX5_row_57 (lv_at hl 7 rfl) ?_
        refine lv_iconst (v := 0) hx hb dX5_row_59 (by decide) ?_
        refine lv_iconst (v := 3) hx hb dX5_row_60 (by decide) ?_
        refine vp_callSi (W.runS (As := [.int mk, .int 0, .int 3]) (rest := [.int (bI (!(inB kd 0 4) || !(inB ar 0 9) || !(inB st 0 5))), .ref (a 0)]) ⟨hx, hb, hml, hown, hts⟩ (m_in l dC dI cI cZ cJ a v g mk 0 3) (cwS 3 hts (gd_S ml_X5_X5_in sm_X5_in in_X5 kX5_in) rfl rfl rfl (by decide +kernel) ⟨Nat.le_of_ble_eq_true rfl, Nat.le_of_ble_eq_true rfl⟩) ⟨fun _ U g mk q => by obtain ⟨q0, qP, qK⟩ := q; exact ⟨q0, qP, va_K.moved (u := U) (U := U.calling g mk _) (Vm.Alike.refl U.vm) qK⟩, fun U hU hW => ⟨rfl, by rw [hU]; exact hP, va_K.moved hW.alike hK⟩⟩ rfl rfl hl.1 rfl (lv_room (Nat.le_of_ble_eq_true rfl)) dX5_row_61 ⟨Nat.le_of_ble_eq_true rfl, Nat.le_of_ble_eq_true rfl⟩) (fun r61 hr61 => ?_)
        subst hr61
        refine lv_if_ne (tgt := 71) hx hb dX5_row_64 (by decide) (fun c64 => ?_) (fun c64 => ?_)
        · have c64 := bI_n0.mp c64
          refine lv_iconst (v := 0) hx hb dX5_row_71 (by decide) ?_
          exact jn72 _ (by first | (simp [bI, c44, c54, c64]; done) | exact absurd (c44.symm.trans c54) (by decide) | exact absurd (c44.symm.trans c64) (by decide) | exact absurd (c54.symm.trans c64) (by decide))
        · have c64 := bI_0.mp c64
          refine lv_iconst (v := 1) hx hb dX5_row_67 (by decide) ?_
          refine lv_goto (tgt := 72) hx hb dX5_row_68 (by decide) ?_
          exact jn72 _ (by first | (simp [bI, c44, c54, c64]; done) | exact absurd (c44.symm.trans c54) (by decide) | exact absurd (c44.symm.trans c64) (by decide) | exact absurd (c54.symm.trans c64) (by decide))
  refine lv_iload_n hx hb dX5_row_0 rfl (lv_at hl 3 rfl) ?_
  refine lv_iconst (v := 0) hx hb dX5_row_1 (by decide) ?_
  refine lv_iconst (v := 4) hx hb dX5_row_2 (by decide) ?_
  refine vp_callSi (W.runS (As := [.int kd, .int 0, .int 4]) (rest := []) ⟨hx, hb, hml, hown, hts⟩ (m_in l dC dI cI cZ cJ a v g kd 0 4) (cwS 3 hts (gd_S ml_X5_X5_in sm_X5_in in_X5 kX5_in) rfl rfl rfl (by decide +kernel) ⟨Nat.le_of_ble_eq_true rfl, Nat.le_of_ble_eq_true rfl⟩) ⟨fun _ U g mk q => by obtain ⟨q0, qP, qK⟩ := q; exact ⟨q0, qP, va_K.moved (u := U) (U := U.calling g mk _) (Vm.Alike.refl U.vm) qK⟩, fun U hU hW => ⟨rfl, by rw [hU]; exact hP, va_K.moved hW.alike hK⟩⟩ rfl rfl hl.1 rfl (lv_room (Nat.le_of_ble_eq_true rfl)) dX5_row_3 ⟨Nat.le_of_ble_eq_true rfl, Nat.le_of_ble_eq_true rfl⟩) (fun r3 hr3 => ?_)
  subst hr3
  refine lv_if_eq (tgt := 30) hx hb dX5_row_6 (by decide) (fun c6 => ?_) (fun c6 => ?_)
  · have c6 := bI_0.mp c6
    refine lv_iconst (v := 1) hx hb dX5_row_30 (by decide) ?_
    refine lv_goto (tgt := 35) hx hb dX5_row_31 (by decide) ?_
    exact jn35 _ (by first | (simp [bI, c6]; done))
  · have c6 := bI_n0.mp c6
    refine lv_iload hx hb dX5_row_9 (lv_at hl 4 rfl) ?_
    refine lv_iconst (v := 0) hx hb dX5_row_11 (by decide) ?_
    refine lv_bipush (v := 9) hx hb dX5_row_12 (by decide) ?_
    refine vp_callSi (W.runS (As := [.int ar, .int 0, .int 9]) (rest := []) ⟨hx, hb, hml, hown, hts⟩ (m_in l dC dI cI cZ cJ a v g ar 0 9) (cwS 3 hts (gd_S ml_X5_X5_in sm_X5_in in_X5 kX5_in) rfl rfl rfl (by decide +kernel) ⟨Nat.le_of_ble_eq_true rfl, Nat.le_of_ble_eq_true rfl⟩) ⟨fun _ U g mk q => by obtain ⟨q0, qP, qK⟩ := q; exact ⟨q0, qP, va_K.moved (u := U) (U := U.calling g mk _) (Vm.Alike.refl U.vm) qK⟩, fun U hU hW => ⟨rfl, by rw [hU]; exact hP, va_K.moved hW.alike hK⟩⟩ rfl rfl hl.1 rfl (lv_room (Nat.le_of_ble_eq_true rfl)) dX5_row_14 ⟨Nat.le_of_ble_eq_true rfl, Nat.le_of_ble_eq_true rfl⟩) (fun r14 hr14 => ?_)
    subst hr14
    refine lv_if_eq (tgt := 30) hx hb dX5_row_17 (by decide) (fun c17 => ?_) (fun c17 => ?_)
    · have c17 := bI_0.mp c17
      refine lv_iconst (v := 1) hx hb dX5_row_30 (by decide) ?_
      refine lv_goto (tgt := 35) hx hb dX5_row_31 (by decide) ?_
      exact jn35 _ (by first | (simp [bI, c6, c17]; done) | exact absurd (c6.symm.trans c17) (by decide))
    · have c17 := bI_n0.mp c17
      refine lv_iload hx hb dX5_row_20 (lv_at hl 5 rfl) ?_
      refine lv_iconst (v := 0) hx hb dX5_row_22 (by decide) ?_
      refine lv_iconst (v := 5) hx hb dX5_row_23 (by decide) ?_
      refine vp_callSi (W.runS (As := [.int st, .int 0, .int 5]) (rest := []) ⟨hx, hb, hml, hown, hts⟩ (m_in l dC dI cI cZ cJ a v g st 0 5) (cwS 3 hts (gd_S ml_X5_X5_in sm_X5_in in_X5 kX5_in) rfl rfl rfl (by decide +kernel) ⟨Nat.le_of_ble_eq_true rfl, Nat.le_of_ble_eq_true rfl⟩) ⟨fun _ U g mk q => by obtain ⟨q0, qP, qK⟩ := q; exact ⟨q0, qP, va_K.moved (u := U) (U := U.calling g mk _) (Vm.Alike.refl U.vm) qK⟩, fun U hU hW => ⟨rfl, by rw [hU]; exact hP, va_K.moved hW.alike hK⟩⟩ rfl rfl hl.1 rfl (lv_room (Nat.le_of_ble_eq_true rfl)) dX5_row_24 ⟨Nat.le_of_ble_eq_true rfl, Nat.le_of_ble_eq_true rfl⟩) (fun r24 hr24 => ?_)
      subst hr24
      refine lv_if_ne (tgt := 34) hx hb dX5_row_27 (by decide) (fun c27 => ?_) (fun c27 => ?_)
      · have c27 := bI_n0.mp c27
        refine lv_iconst (v := 0) hx hb dX5_row_34 (by decide) ?_
        exact jn35 _ (by first | (simp [bI, c6, c17, c27]; done) | exact absurd (c6.symm.trans c17) (by decide) | exact absurd (c6.symm.trans c27) (by decide) | exact absurd (c17.symm.trans c27) (by decide))
      · have c27 := bI_0.mp c27
        refine lv_iconst (v := 1) hx hb dX5_row_30 (by decide) ?_
        refine lv_goto (tgt := 35) hx hb dX5_row_31 (by decide) ?_
        exact jn35 _ (by first | (simp [bI, c6, c17, c27]; done) | exact absurd (c6.symm.trans c17) (by decide) | exact absurd (c6.symm.trans c27) (by decide) | exact absurd (c17.symm.trans c27) (by decide))
set_option maxHeartbeats 4000000 in
set_option maxRecDepth 100000 in
theorem m_values (l : Launch) (dC : Nat → ClassId) (dI : Nat → Nat → Nat) (cI cZ cJ : ClassId) (a : Nat → Nat) (v : Nat → Int32) (g : Nat → Nat → Int32) (sz : Nat) (n : Nat) (hn : v 1 = nI n) (hn2 : n ≤ 200) (rw x y : Int32) : Met l yX5_values wsX5_values ({ frames := 2, cells := 0, slots := 0, locals := 46 }) (va_Pc [.ref (a 0), .int rw, .int x, .int y] (fun U => U.heap.size = sz ∧ va_P (dC, dI) clA (wM cI cZ a v g) U.heap ∧ va_K (dC, dI) clA (tyA cI cZ cJ) U ∧ va_D (fun _ => True) (wM cI cZ a v g))) (va_Qv (fun (u : StA) => u = (if 0 < thI (bI (!(inB rw 0 (v 1 - 1)))) (bI (!(inB x (-1) 9999) || !(inB y (-1) 9999))) 0 then upd v 0 (thI (bI (!(inB rw 0 (v 1 - 1)))) (bI (!(inB x (-1) 9999) || !(inB y (-1) 9999))) 0) else upd v 0 (thI (bI (!(inB rw 0 (v 1 - 1)))) (bI (!(inB x (-1) 9999) || !(inB y (-1) 9999))) 0), if 0 < thI (bI (!(inB rw 0 (v 1 - 1)))) (bI (!(inB x (-1) 9999) || !(inB y (-1) 9999))) 0 then g else (upg (upg g 7 rw.toNatClampNeg x) 8 rw.toNatClampNeg y))) (atM dC dI cI cZ cJ a (va_A (wM cI cZ a v g) sz)) (va_A (wM cI cZ a v g) sz))  0 0 (va_A (wM cI cZ a v g) sz) := by
  refine Met.ofW (cc := cX5_values) (maxL := 4) (ret := none) (by decide) rfl ?_
  intro p e s m args below meth c s₁ B hml hv
  obtain ⟨rfl, hsz, hP, hK, hD0⟩ := hv
  have hx := B.exec
  have hb := B.bytes
  have hr := B.returns
  have hts := atoms_spec (ws := wsX5_values) B.pre
  have hown : s.vm.findClass RX5 = some m.cls := findClass_of_methodNamed B.named
  have hlocks := B.notSynchronized
  subst hsz
  have hD := hD0.self (sz := s.heap.size)
  generalize hAe : va_A (wM cI cZ a v g) s.heap.size = A at hD ⊢
  have hA : ∀ q : Nat, s.heap.size ≤ q → A q := fun q h => by rw [← hAe]; exact Or.inr h
  have hS : va_S A s.heap s.heap [] := va_S.rf
  have hP : va_P (dC, dI) clA (wM cI cZ a v g) s.heap := hP
  have hl := lv_entry ([.ref (a 0), .int rw, .int x, .int y]) (n := 4) (Nat.le_of_ble_eq_true rfl)
  rw [lg_entry_eq]
  generalize (lg_sl ([.ref (a 0), .int rw, .int x, .int y]) ++ List.replicate (4 - (lg_sl ([.ref (a 0), .int rw, .int x, .int y])).length) Slot.unset).toArray = ls at hl ⊢
  have hl : lv_has ls 4 [(0, .ref (a 0)), (1, .int rw), (2, .int x), (3, .int y)] := hl
  refine lv_aload_n hx hb dX5_values_0 rfl (lv_at hl 0 rfl) ?_
  have jn20 : ∀ xj : Int32, xj = bI (!(inB rw 0 (v 1 - 1))) → W p l e (headSpec wsX5_values ({ frames := 2, cells := 0, slots := 0, locals := 46 })).room s m ([.ref (a 0), .int rw, .int x, .int y] : List Value).toArray below meth c s.heap [] 0 0 (MQ below (va_Qv (fun (u : StA) => u = (if 0 < thI (bI (!(inB rw 0 (v 1 - 1)))) (bI (!(inB x (-1) 9999) || !(inB y (-1) 9999))) 0 then upd v 0 (thI (bI (!(inB rw 0 (v 1 - 1)))) (bI (!(inB x (-1) 9999) || !(inB y (-1) 9999))) 0) else upd v 0 (thI (bI (!(inB rw 0 (v 1 - 1)))) (bI (!(inB x (-1) 9999) || !(inB y (-1) 9999))) 0), if 0 < thI (bI (!(inB rw 0 (v 1 - 1)))) (bI (!(inB x (-1) 9999) || !(inB y (-1) 9999))) 0 then g else (upg (upg g 7 rw.toNatClampNeg x) 8 rw.toNatClampNeg y))) (atM dC dI cI cZ cJ a A) A) ([.ref (a 0), .int rw, .int x, .int y] : List Value).toArray s 0 0 A) (F0 m 20 ls [(.int xj), .ref (a 0)]) := by
    intro xj ej
    subst ej
    have jn47 : ∀ xj : Int32, xj = bI (!(inB x (-1) 9999) || !(inB y (-1) 9999)) → W p l e (headSpec wsX5_values ({ frames := 2, cells := 0, slots := 0, locals := 46 })).room s m ([.ref (a 0), .int rw, .int x, .int y] : List Value).toArray below meth c s.heap [] 0 0 (MQ below (va_Qv (fun (u : StA) => u = (if 0 < thI (bI (!(inB rw 0 (v 1 - 1)))) (bI (!(inB x (-1) 9999) || !(inB y (-1) 9999))) 0 then upd v 0 (thI (bI (!(inB rw 0 (v 1 - 1)))) (bI (!(inB x (-1) 9999) || !(inB y (-1) 9999))) 0) else upd v 0 (thI (bI (!(inB rw 0 (v 1 - 1)))) (bI (!(inB x (-1) 9999) || !(inB y (-1) 9999))) 0), if 0 < thI (bI (!(inB rw 0 (v 1 - 1)))) (bI (!(inB x (-1) 9999) || !(inB y (-1) 9999))) 0 then g else (upg (upg g 7 rw.toNatClampNeg x) 8 rw.toNatClampNeg y))) (atM dC dI cI cZ cJ a A) A) ([.ref (a 0), .int rw, .int x, .int y] : List Value).toArray s 0 0 A) (F0 m 47 ls [(.int xj), .int (bI (!(inB rw 0 (v 1 - 1)))), .ref (a 0)]) := by
      intro xj ej
      subst ej
      refine lv_iconst (v := 0) hx hb dX5_values_47 (by decide) ?_
      have hFc := va_free (wc := (wM cI cZ a v g)) hD hS hA [0, 1, 2, 3, 4, 5, 6, 7, 8, 9, 10, 11, 12, 13, 14, 15, 16] rfl
      refine va_calli (va_runV (As := [.int (bI (!(inB rw 0 (v 1 - 1)))), .int (bI (!(inB x (-1) 9999) || !(inB y (-1) 9999))), .int 0]) (rest := []) ⟨hx, hb, hml, hown, hts⟩ (m_throwing l dC dI cI cZ cJ a v g s.heap.size (bI (!(inB rw 0 (v 1 - 1)))) (bI (!(inB x (-1) 9999) || !(inB y (-1) 9999))) 0) (cwV 3 hts (gd_V ml_X5_X5_throwing im_X5_throwing se_X5_throwing in_X5 kX5_throwing) rfl rfl rfl (by decide +kernel) ⟨Nat.le_of_ble_eq_true rfl, Nat.le_of_ble_eq_true rfl⟩) ⟨fun _ U g mk q => by obtain ⟨q0, q1, qP, qK, qD⟩ := q; exact ⟨q0, q1, qP, va_K.moved (u := U) (U := U.calling g mk _) (Vm.Alike.refl U.vm) qK, qD⟩, va_recv hK hP (ci := 5) (q0 := 0) rfl rfl, fun U hU hW => ⟨rfl, by rw [hU], by rw [hU]; exact hP, va_K.moved hW.alike hK, hD.weaken (fun _ _ _ _ => trivial)⟩⟩ rfl rfl hl.1 rfl (lv_room (Nat.le_of_ble_eq_true rfl)) dX5_values_48 ⟨Nat.le_of_ble_eq_true rfl, Nat.le_of_ble_eq_true rfl⟩) hS (fun q _ h => hFc q h) hFc (fun r48 u9 t9 H1 locs ht hvm hw hB hz1 hk1 hS => ?_)
      obtain ⟨rfl, rfl⟩ := hw
      obtain ⟨hP, hK1, hD1⟩ := hB
      rw [ht] at hP
      have hD := hD1.weaken (fun k q _ h => hFc q.1 h)
      clear hFc hk1 hD1 hK1
      generalize H1 = H at hP hS ⊢
      have hP : va_P (dC, dI) clA (wM cI cZ a (upd v 0 (thI (bI (!(inB rw 0 (v 1 - 1)))) (bI (!(inB x (-1) 9999) || !(inB y (-1) 9999))) 0)) g) H := hP
      have hD : va_D A (wM cI cZ a (upd v 0 (thI (bI (!(inB rw 0 (v 1 - 1)))) (bI (!(inB x (-1) 9999) || !(inB y (-1) 9999))) 0)) g) := hD
      refine lv_if_eq (tgt := 55) hx hb dX5_values_51 (by decide) (fun c51 => ?_) (fun c51 => ?_)
      · have c51 := bI_0.mp c51
        have hkw : rw = nI rw.toNatClampNeg ∧ rw.toNatClampNeg < n := by
          have h := (th2 c51).1
          rw [hn, Bool.not_eq_false'] at h
          obtain ⟨k, h1, rfl⟩ := inB_nat (by omega) h
          rw [nI_clamp (by omega)]; exact ⟨rfl, h1⟩
        obtain ⟨hkw, hkw2⟩ := hkw
        refine lv_aload_n hx hb dX5_values_55 rfl (lv_at hl 0 rfl) ?_
        refine va_get (D := (dC, dI)) (ci := 5) (v := .ref (a 8)) (C := RX5) (T := TX5) (N := 24) hx hb hts (fun w h => List.mem_cons_of_mem _ (iw_X5 w h)) hown hK hP 0 rfl rfl 9 (by decide) (hts _ (List.mem_cons_of_mem _ fl_X5_turnOut)) (fun _ h9 => h9) rfl dX5_values_56 ?_
        refine lv_iload_n hx hb dX5_values_59 rfl (lv_at hl 1 rfl) ?_
        refine lv_iload_n hx hb dX5_values_60 rfl (lv_at hl 2 rfl) ?_
        refine wi_astE hx hb hK hP hD hS 8 0 rfl rfl (k := rw.toNatClampNeg) hkw (by omega) (by decide) dX5_values_61 (fun H locs hP hD hS => ?_)
        have hP : va_P (dC, dI) clA (wM cI cZ a (upd v 0 (thI (bI (!(inB rw 0 (v 1 - 1)))) (bI (!(inB x (-1) 9999) || !(inB y (-1) 9999))) 0)) (upg g 7 rw.toNatClampNeg x)) H := hP
        have hD : va_D A (wM cI cZ a (upd v 0 (thI (bI (!(inB rw 0 (v 1 - 1)))) (bI (!(inB x (-1) 9999) || !(inB y (-1) 9999))) 0)) (upg g 7 rw.toNatClampNeg x)) := hD
        refine lv_aload_n hx hb dX5_values_62 rfl (lv_at hl 0 rfl) ?_
        refine va_get (D := (dC, dI)) (ci := 5) (v := .ref (a 9)) (C := RX5) (T := TX5) (N := 24) hx hb hts (fun w h => List.mem_cons_of_mem _ (iw_X5 w h)) hown hK hP 0 rfl rfl 10 (by decide) (hts _ (List.mem_cons_of_mem _ fl_X5_travel)) (fun _ h9 => h9) rfl dX5_values_63 ?_
        refine lv_iload_n hx hb dX5_values_66 rfl (lv_at hl 1 rfl) ?_
        refine lv_iload_n hx hb dX5_values_67 rfl (lv_at hl 3 rfl) ?_
        refine wi_astE hx hb hK hP hD hS 9 0 rfl rfl (k := rw.toNatClampNeg) hkw (by omega) (by decide) dX5_values_68 (fun H locs hP hD hS => ?_)
        have hP : va_P (dC, dI) clA (wM cI cZ a (upd v 0 (thI (bI (!(inB rw 0 (v 1 - 1)))) (bI (!(inB x (-1) 9999) || !(inB y (-1) 9999))) 0)) (upg (upg g 7 rw.toNatClampNeg x) 8 rw.toNatClampNeg y)) H := hP
        have hD : va_D A (wM cI cZ a (upd v 0 (thI (bI (!(inB rw 0 (v 1 - 1)))) (bI (!(inB x (-1) 9999) || !(inB y (-1) 9999))) 0)) (upg (upg g 7 rw.toNatClampNeg x) 8 rw.toNatClampNeg y)) := hD
        exact (W.vret hx hb hr (fun t9 ht hW => ⟨⟨((upd v 0 (thI (bI (!(inB rw 0 (v 1 - 1)))) (bI (!(inB x (-1) 9999) || !(inB y (-1) 9999))) 0)), (upg (upg g 7 rw.toNatClampNeg x) 8 rw.toNatClampNeg y)), rfl, (by first | rfl | (simp only [if_neg (of_decide_eq_false c51)]; done) | (simp only [if_neg (of_decide_eq_false c51)])), ⟨by rw [ht]; exact hP, va_K.moved hW.alike hK, hD⟩⟩, hS.F ht⟩) hS.2.2 dX5_values_69)
      · have c51 := bI_n0.mp c51
        exact (W.vret hx hb hr (fun t9 ht hW => ⟨⟨((upd v 0 (thI (bI (!(inB rw 0 (v 1 - 1)))) (bI (!(inB x (-1) 9999) || !(inB y (-1) 9999))) 0)), g), rfl, (by first | rfl | (simp only [if_pos (of_decide_eq_true c51)]; done) | (simp only [if_pos (of_decide_eq_true c51)])), ⟨by rw [ht]; exact hP, va_K.moved hW.alike hK, hD⟩⟩, hS.F ht⟩) hS.2.2 dX5_values_54)
    refine lv_iload_n hx hb dX5_values_20 rfl (lv_at hl 2 rfl) ?_
    refine lv_iconst (v := (-1)) hx hb dX5_values_21 (by decide) ?_
    refine lv_sipush (v := 9999) hx hb dX5_values_22 (by decide) ?_
    refine vp_callSi (W.runS (As := [.int x, .int (-1), .int 9999]) (rest := [.int (bI (!(inB rw 0 (v 1 - 1)))), .ref (a 0)]) ⟨hx, hb, hml, hown, hts⟩ (m_in l dC dI cI cZ cJ a v g x (-1) 9999) (cwS 3 hts (gd_S ml_X5_X5_in sm_X5_in in_X5 kX5_in) rfl rfl rfl (by decide +kernel) ⟨Nat.le_of_ble_eq_true rfl, Nat.le_of_ble_eq_true rfl⟩) ⟨fun _ U g mk q => by obtain ⟨q0, qP, qK⟩ := q; exact ⟨q0, qP, va_K.moved (u := U) (U := U.calling g mk _) (Vm.Alike.refl U.vm) qK⟩, fun U hU hW => ⟨rfl, by rw [hU]; exact hP, va_K.moved hW.alike hK⟩⟩ rfl rfl hl.1 rfl (lv_room (Nat.le_of_ble_eq_true rfl)) dX5_values_25 ⟨Nat.le_of_ble_eq_true rfl, Nat.le_of_ble_eq_true rfl⟩) (fun r25 hr25 => ?_)
    subst hr25
    refine lv_if_eq (tgt := 42) hx hb dX5_values_28 (by decide) (fun c28 => ?_) (fun c28 => ?_)
    · have c28 := bI_0.mp c28
      refine lv_iconst (v := 1) hx hb dX5_values_42 (by decide) ?_
      refine lv_goto (tgt := 47) hx hb dX5_values_43 (by decide) ?_
      exact jn47 _ (by first | (simp [bI, c28]; done))
    · have c28 := bI_n0.mp c28
      refine lv_iload_n hx hb dX5_values_31 rfl (lv_at hl 3 rfl) ?_
      refine lv_iconst (v := (-1)) hx hb dX5_values_32 (by decide) ?_
      refine lv_sipush (v := 9999) hx hb dX5_values_33 (by decide) ?_
      refine vp_callSi (W.runS (As := [.int y, .int (-1), .int 9999]) (rest := [.int (bI (!(inB rw 0 (v 1 - 1)))), .ref (a 0)]) ⟨hx, hb, hml, hown, hts⟩ (m_in l dC dI cI cZ cJ a v g y (-1) 9999) (cwS 3 hts (gd_S ml_X5_X5_in sm_X5_in in_X5 kX5_in) rfl rfl rfl (by decide +kernel) ⟨Nat.le_of_ble_eq_true rfl, Nat.le_of_ble_eq_true rfl⟩) ⟨fun _ U g mk q => by obtain ⟨q0, qP, qK⟩ := q; exact ⟨q0, qP, va_K.moved (u := U) (U := U.calling g mk _) (Vm.Alike.refl U.vm) qK⟩, fun U hU hW => ⟨rfl, by rw [hU]; exact hP, va_K.moved hW.alike hK⟩⟩ rfl rfl hl.1 rfl (lv_room (Nat.le_of_ble_eq_true rfl)) dX5_values_36 ⟨Nat.le_of_ble_eq_true rfl, Nat.le_of_ble_eq_true rfl⟩) (fun r36 hr36 => ?_)
      subst hr36
      refine lv_if_ne (tgt := 46) hx hb dX5_values_39 (by decide) (fun c39 => ?_) (fun c39 => ?_)
      · have c39 := bI_n0.mp c39
        refine lv_iconst (v := 0) hx hb dX5_values_46 (by decide) ?_
        exact jn47 _ (by first | (simp [bI, c28, c39]; done) | exact absurd (c28.symm.trans c39) (by decide))
      · have c39 := bI_0.mp c39
        refine lv_iconst (v := 1) hx hb dX5_values_42 (by decide) ?_
        refine lv_goto (tgt := 47) hx hb dX5_values_43 (by decide) ?_
        exact jn47 _ (by first | (simp [bI, c28, c39]; done) | exact absurd (c28.symm.trans c39) (by decide))
  refine lv_iload_n hx hb dX5_values_1 rfl (lv_at hl 1 rfl) ?_
  refine lv_iconst (v := 0) hx hb dX5_values_2 (by decide) ?_
  refine lv_aload_n hx hb dX5_values_3 rfl (lv_at hl 0 rfl) ?_
  refine va_get (D := (dC, dI)) (ci := 5) (v := .int (v 1)) (C := RX5) (T := TX5) (N := 24) hx hb hts (fun w h => List.mem_cons_of_mem _ (iw_X5 w h)) hown hK hP 0 rfl rfl 1 (by decide) (hts _ (List.mem_cons_of_mem _ fl_X5_rows)) (fun _ h9 => h9) rfl dX5_values_4 ?_
  refine lv_iconst (v := 1) hx hb dX5_values_7 (by decide) ?_
  refine lv_isub hx hb dX5_values_8 ?_
  refine vp_callSi (W.runS (As := [.int rw, .int 0, .int ((v 1) - 1)]) (rest := [.ref (a 0)]) ⟨hx, hb, hml, hown, hts⟩ (m_in l dC dI cI cZ cJ a v g rw 0 ((v 1) - 1)) (cwS 3 hts (gd_S ml_X5_X5_in sm_X5_in in_X5 kX5_in) rfl rfl rfl (by decide +kernel) ⟨Nat.le_of_ble_eq_true rfl, Nat.le_of_ble_eq_true rfl⟩) ⟨fun _ U g mk q => by obtain ⟨q0, qP, qK⟩ := q; exact ⟨q0, qP, va_K.moved (u := U) (U := U.calling g mk _) (Vm.Alike.refl U.vm) qK⟩, fun U hU hW => ⟨rfl, by rw [hU]; exact hP, va_K.moved hW.alike hK⟩⟩ rfl rfl hl.1 rfl (lv_room (Nat.le_of_ble_eq_true rfl)) dX5_values_9 ⟨Nat.le_of_ble_eq_true rfl, Nat.le_of_ble_eq_true rfl⟩) (fun r9 hr9 => ?_)
  subst hr9
  refine lv_if_ne (tgt := 19) hx hb dX5_values_12 (by decide) (fun c12 => ?_) (fun c12 => ?_)
  · have c12 := bI_n0.mp c12
    refine lv_iconst (v := 0) hx hb dX5_values_19 (by decide) ?_
    exact jn20 _ (by first | (simp [bI, c12]; done))
  · have c12 := bI_0.mp c12
    refine lv_iconst (v := 1) hx hb dX5_values_15 (by decide) ?_
    refine lv_goto (tgt := 20) hx hb dX5_values_16 (by decide) ?_
    exact jn20 _ (by first | (simp [bI, c12]; done))
set_option maxHeartbeats 4000000 in
set_option maxRecDepth 100000 in
theorem m_define (l : Launch) (dC : Nat → ClassId) (dI : Nat → Nat → Nat) (cI cZ cJ : ClassId) (a : Nat → Nat) (v : Nat → Int32) (g : Nat → Nat → Int32) (sz : Nat) (nd : Nat) (hnd : v 2 = nI nd) (hnd2 : nd ≤ 6) (d mk : Int32) : Met l yX5_define wsX5_define ({ frames := 2, cells := 0, slots := 0, locals := 46 }) (va_Pc [.ref (a 0), .int d, .int mk] (fun U => U.heap.size = sz ∧ va_P (dC, dI) clA (wM cI cZ a v g) U.heap ∧ va_K (dC, dI) clA (tyA cI cZ cJ) U ∧ va_D (fun _ => True) (wM cI cZ a v g))) (va_Qi (fun (r : Int32) (u : StA) => r = (if 0 < thI (bI (!(inB d 0 9999) || !(inB mk 0 20000))) (bI (decide (v 2 = 6))) 0 then 0 else v 2 + 1) ∧ u = (if 0 < thI (bI (!(inB d 0 9999) || !(inB mk 0 20000))) (bI (decide (v 2 = 6))) 0 then upd v 0 (thI (bI (!(inB d 0 9999) || !(inB mk 0 20000))) (bI (decide (v 2 = 6))) 0) else upd (upd v 0 (thI (bI (!(inB d 0 9999) || !(inB mk 0 20000))) (bI (decide (v 2 = 6))) 0)) 2 (v 2 + 1), if 0 < thI (bI (!(inB d 0 9999) || !(inB mk 0 20000))) (bI (decide (v 2 = 6))) 0 then g else (upg (upg g 9 nd d) 10 nd mk))) (atM dC dI cI cZ cJ a (va_A (wM cI cZ a v g) sz)) (va_A (wM cI cZ a v g) sz))  0 0 (va_A (wM cI cZ a v g) sz) := by
  refine Met.ofW (cc := cX5_define) (maxL := 3) (ret := (some .int)) (by decide) rfl ?_
  intro p e s m args below meth c s₁ B hml hv
  obtain ⟨rfl, hsz, hP, hK, hD0⟩ := hv
  have hx := B.exec
  have hb := B.bytes
  have hr := B.returns
  have hts := atoms_spec (ws := wsX5_define) B.pre
  have hown : s.vm.findClass RX5 = some m.cls := findClass_of_methodNamed B.named
  have hlocks := B.notSynchronized
  subst hsz
  have hD := hD0.self (sz := s.heap.size)
  generalize hAe : va_A (wM cI cZ a v g) s.heap.size = A at hD ⊢
  have hA : ∀ q : Nat, s.heap.size ≤ q → A q := fun q h => by rw [← hAe]; exact Or.inr h
  have hS : va_S A s.heap s.heap [] := va_S.rf
  have hP : va_P (dC, dI) clA (wM cI cZ a v g) s.heap := hP
  have hl := lv_entry ([.ref (a 0), .int d, .int mk]) (n := 3) (Nat.le_of_ble_eq_true rfl)
  rw [lg_entry_eq]
  generalize (lg_sl ([.ref (a 0), .int d, .int mk]) ++ List.replicate (3 - (lg_sl ([.ref (a 0), .int d, .int mk])).length) Slot.unset).toArray = ls at hl ⊢
  have hl : lv_has ls 3 [(0, .ref (a 0)), (1, .int d), (2, .int mk)] := hl
  refine lv_aload_n hx hb dX5_define_0 rfl (lv_at hl 0 rfl) ?_
  have jn24 : ∀ xj : Int32, xj = bI (!(inB d 0 9999) || !(inB mk 0 20000)) → W p l e (headSpec wsX5_define ({ frames := 2, cells := 0, slots := 0, locals := 46 })).room s m ([.ref (a 0), .int d, .int mk] : List Value).toArray below meth c s.heap [] 0 0 (MQ below (va_Qi (fun (r : Int32) (u : StA) => r = (if 0 < thI (bI (!(inB d 0 9999) || !(inB mk 0 20000))) (bI (decide (v 2 = 6))) 0 then 0 else v 2 + 1) ∧ u = (if 0 < thI (bI (!(inB d 0 9999) || !(inB mk 0 20000))) (bI (decide (v 2 = 6))) 0 then upd v 0 (thI (bI (!(inB d 0 9999) || !(inB mk 0 20000))) (bI (decide (v 2 = 6))) 0) else upd (upd v 0 (thI (bI (!(inB d 0 9999) || !(inB mk 0 20000))) (bI (decide (v 2 = 6))) 0)) 2 (v 2 + 1), if 0 < thI (bI (!(inB d 0 9999) || !(inB mk 0 20000))) (bI (decide (v 2 = 6))) 0 then g else (upg (upg g 9 nd d) 10 nd mk))) (atM dC dI cI cZ cJ a A) A) ([.ref (a 0), .int d, .int mk] : List Value).toArray s 0 0 A) (F0 m 24 ls [(.int xj), .ref (a 0)]) := by
    intro xj ej
    subst ej
    have jn38 : ∀ xj : Int32, xj = bI (decide (v 2 = 6)) → W p l e (headSpec wsX5_define ({ frames := 2, cells := 0, slots := 0, locals := 46 })).room s m ([.ref (a 0), .int d, .int mk] : List Value).toArray below meth c s.heap [] 0 0 (MQ below (va_Qi (fun (r : Int32) (u : StA) => r = (if 0 < thI (bI (!(inB d 0 9999) || !(inB mk 0 20000))) (bI (decide (v 2 = 6))) 0 then 0 else v 2 + 1) ∧ u = (if 0 < thI (bI (!(inB d 0 9999) || !(inB mk 0 20000))) (bI (decide (v 2 = 6))) 0 then upd v 0 (thI (bI (!(inB d 0 9999) || !(inB mk 0 20000))) (bI (decide (v 2 = 6))) 0) else upd (upd v 0 (thI (bI (!(inB d 0 9999) || !(inB mk 0 20000))) (bI (decide (v 2 = 6))) 0)) 2 (v 2 + 1), if 0 < thI (bI (!(inB d 0 9999) || !(inB mk 0 20000))) (bI (decide (v 2 = 6))) 0 then g else (upg (upg g 9 nd d) 10 nd mk))) (atM dC dI cI cZ cJ a A) A) ([.ref (a 0), .int d, .int mk] : List Value).toArray s 0 0 A) (F0 m 38 ls [(.int xj), .int (bI (!(inB d 0 9999) || !(inB mk 0 20000))), .ref (a 0)]) := by
      intro xj ej
      subst ej
      refine lv_iconst (v := 0) hx hb dX5_define_38 (by decide) ?_
      have hFc := va_free (wc := (wM cI cZ a v g)) hD hS hA [0, 1, 2, 3, 4, 5, 6, 7, 8, 9, 10, 11, 12, 13, 14, 15, 16] rfl
      refine va_calli (va_runV (As := [.int (bI (!(inB d 0 9999) || !(inB mk 0 20000))), .int (bI (decide (v 2 = 6))), .int 0]) (rest := []) ⟨hx, hb, hml, hown, hts⟩ (m_throwing l dC dI cI cZ cJ a v g s.heap.size (bI (!(inB d 0 9999) || !(inB mk 0 20000))) (bI (decide (v 2 = 6))) 0) (cwV 3 hts (gd_V ml_X5_X5_throwing im_X5_throwing se_X5_throwing in_X5 kX5_throwing) rfl rfl rfl (by decide +kernel) ⟨Nat.le_of_ble_eq_true rfl, Nat.le_of_ble_eq_true rfl⟩) ⟨fun _ U g mk q => by obtain ⟨q0, q1, qP, qK, qD⟩ := q; exact ⟨q0, q1, qP, va_K.moved (u := U) (U := U.calling g mk _) (Vm.Alike.refl U.vm) qK, qD⟩, va_recv hK hP (ci := 5) (q0 := 0) rfl rfl, fun U hU hW => ⟨rfl, by rw [hU], by rw [hU]; exact hP, va_K.moved hW.alike hK, hD.weaken (fun _ _ _ _ => trivial)⟩⟩ rfl rfl hl.1 rfl (lv_room (Nat.le_of_ble_eq_true rfl)) dX5_define_39 ⟨Nat.le_of_ble_eq_true rfl, Nat.le_of_ble_eq_true rfl⟩) hS (fun q _ h => hFc q h) hFc (fun r39 u9 t9 H1 locs ht hvm hw hB hz1 hk1 hS => ?_)
      obtain ⟨rfl, rfl⟩ := hw
      obtain ⟨hP, hK1, hD1⟩ := hB
      rw [ht] at hP
      have hD := hD1.weaken (fun k q _ h => hFc q.1 h)
      clear hFc hk1 hD1 hK1
      generalize H1 = H at hP hS ⊢
      have hP : va_P (dC, dI) clA (wM cI cZ a (upd v 0 (thI (bI (!(inB d 0 9999) || !(inB mk 0 20000))) (bI (decide (v 2 = 6))) 0)) g) H := hP
      have hD : va_D A (wM cI cZ a (upd v 0 (thI (bI (!(inB d 0 9999) || !(inB mk 0 20000))) (bI (decide (v 2 = 6))) 0)) g) := hD
      refine lv_if_eq (tgt := 47) hx hb dX5_define_42 (by decide) (fun c42 => ?_) (fun c42 => ?_)
      · have c42 := bI_0.mp c42
        have hn3 : nd < 6 := Nat.lt_of_le_of_ne hnd2 (fun h => of_decide_eq_false (th2 c42).2 (by rw [hnd, h]; rfl))
        refine lv_aload_n hx hb dX5_define_47 rfl (lv_at hl 0 rfl) ?_
        refine va_get (D := (dC, dI)) (ci := 5) (v := .ref (a 10)) (C := RX5) (T := TX5) (N := 24) hx hb hts (fun w h => List.mem_cons_of_mem _ (iw_X5 w h)) hown hK hP 0 rfl rfl 12 (by decide) (hts _ (List.mem_cons_of_mem _ fl_X5_since)) (fun _ h9 => h9) rfl dX5_define_48 ?_
        refine lv_aload_n hx hb dX5_define_51 rfl (lv_at hl 0 rfl) ?_
        refine va_get (D := (dC, dI)) (ci := 5) (v := .int (v 2)) (C := RX5) (T := TX5) (N := 24) hx hb hts (fun w h => List.mem_cons_of_mem _ (iw_X5 w h)) hown hK hP 0 rfl rfl 11 (by decide) (hts _ (List.mem_cons_of_mem _ fl_X5_definitions)) (fun _ h9 => h9) rfl dX5_define_52 ?_
        refine lv_iload_n hx hb dX5_define_55 rfl (lv_at hl 1 rfl) ?_
        refine wi_astE hx hb hK hP hD hS 10 0 rfl rfl (k := nd) hnd (by omega) (by decide) dX5_define_56 (fun H locs hP hD hS => ?_)
        have hP : va_P (dC, dI) clA (wM cI cZ a (upd v 0 (thI (bI (!(inB d 0 9999) || !(inB mk 0 20000))) (bI (decide (v 2 = 6))) 0)) (upg g 9 nd d)) H := hP
        have hD : va_D A (wM cI cZ a (upd v 0 (thI (bI (!(inB d 0 9999) || !(inB mk 0 20000))) (bI (decide (v 2 = 6))) 0)) (upg g 9 nd d)) := hD
        refine lv_aload_n hx hb dX5_define_57 rfl (lv_at hl 0 rfl) ?_
        refine va_get (D := (dC, dI)) (ci := 5) (v := .ref (a 11)) (C := RX5) (T := TX5) (N := 24) hx hb hts (fun w h => List.mem_cons_of_mem _ (iw_X5 w h)) hown hK hP 0 rfl rfl 13 (by decide) (hts _ (List.mem_cons_of_mem _ fl_X5_mark)) (fun _ h9 => h9) rfl dX5_define_58 ?_
        refine lv_aload_n hx hb dX5_define_61 rfl (lv_at hl 0 rfl) ?_
        refine va_get (D := (dC, dI)) (ci := 5) (v := .int (v 2)) (C := RX5) (T := TX5) (N := 24) hx hb hts (fun w h => List.mem_cons_of_mem _ (iw_X5 w h)) hown hK hP 0 rfl rfl 11 (by decide) (hts _ (List.mem_cons_of_mem _ fl_X5_definitions)) (fun _ h9 => h9) rfl dX5_define_62 ?_
        refine lv_iload_n hx hb dX5_define_65 rfl (lv_at hl 2 rfl) ?_
        refine wi_astE hx hb hK hP hD hS 11 0 rfl rfl (k := nd) hnd (by omega) (by decide) dX5_define_66 (fun H locs hP hD hS => ?_)
        have hP : va_P (dC, dI) clA (wM cI cZ a (upd v 0 (thI (bI (!(inB d 0 9999) || !(inB mk 0 20000))) (bI (decide (v 2 = 6))) 0)) (upg (upg g 9 nd d) 10 nd mk)) H := hP
        have hD : va_D A (wM cI cZ a (upd v 0 (thI (bI (!(inB d 0 9999) || !(inB mk 0 20000))) (bI (decide (v 2 = 6))) 0)) (upg (upg g 9 nd d) 10 nd mk)) := hD
        refine lv_aload_n hx hb dX5_define_67 rfl (lv_at hl 0 rfl) ?_
        refine lv_dup hx hb dX5_define_68 rfl ?_
        refine va_get (D := (dC, dI)) (ci := 5) (v := .int (v 2)) (C := RX5) (T := TX5) (N := 24) hx hb hts (fun w h => List.mem_cons_of_mem _ (iw_X5 w h)) hown hK hP 0 rfl rfl 11 (by decide) (hts _ (List.mem_cons_of_mem _ fl_X5_definitions)) (fun _ h9 => h9) rfl dX5_define_69 ?_
        refine lv_iconst (v := 1) hx hb dX5_define_72 (by decide) ?_
        refine lv_iadd hx hb dX5_define_73 ?_
        refine va_put (D := (dC, dI)) (ci := 5) (v := .int ((v 2) + 1)) (ty := .int) (C := RX5) (T := TX5) (N := 24) hx hb hts (fun w h => List.mem_cons_of_mem _ (iw_X5 w h)) tyX5 tyX5_ok nmX5 hown hK hP hD hS 0 rfl rfl 11 (by decide) (hts _ (List.mem_cons_of_mem _ fl_X5_definitions)) (fun _ h9 => h9) rfl (by decide +kernel) rfl rfl (Nat.le_of_ble_eq_true rfl) dX5_define_74 (fun H locs hP hD hS => ?_)
        have hP : va_P (dC, dI) clA (wM cI cZ a (upd (upd v 0 (thI (bI (!(inB d 0 9999) || !(inB mk 0 20000))) (bI (decide (v 2 = 6))) 0)) 2 ((v 2) + 1)) (upg (upg g 9 nd d) 10 nd mk)) H := hP
        have hD : va_D A (wM cI cZ a (upd (upd v 0 (thI (bI (!(inB d 0 9999) || !(inB mk 0 20000))) (bI (decide (v 2 = 6))) 0)) 2 ((v 2) + 1)) (upg (upg g 9 nd d) 10 nd mk)) := hD
        refine lv_aload_n hx hb dX5_define_77 rfl (lv_at hl 0 rfl) ?_
        refine va_get (D := (dC, dI)) (ci := 5) (v := .int ((v 2) + 1)) (C := RX5) (T := TX5) (N := 24) hx hb hts (fun w h => List.mem_cons_of_mem _ (iw_X5 w h)) hown hK hP 0 rfl rfl 11 (by decide) (hts _ (List.mem_cons_of_mem _ fl_X5_definitions)) (fun _ h9 => h9) rfl dX5_define_78 ?_
        exact (W.iret (v := (v 2) + 1) hx hb hr (fun t9 ht hW => ⟨⟨_, ((upd (upd v 0 (thI (bI (!(inB d 0 9999) || !(inB mk 0 20000))) (bI (decide (v 2 = 6))) 0)) 2 ((v 2) + 1)), (upg (upg g 9 nd d) 10 nd mk)), rfl, ⟨(by first | rfl | (simp only [if_neg (of_decide_eq_false c42)]; done) | (simp only [if_neg (of_decide_eq_false c42)])), (by first | rfl | (simp only [if_neg (of_decide_eq_false c42)]; done) | (simp only [if_neg (of_decide_eq_false c42)]))⟩, ⟨by rw [ht]; exact hP, va_K.moved hW.alike hK, hD⟩⟩, hS.F ht⟩) hS.2.2 dX5_define_81)
      · have c42 := bI_n0.mp c42
        refine lv_iconst (v := 0) hx hb dX5_define_45 (by decide) ?_
        exact (W.iret (v := 0) hx hb hr (fun t9 ht hW => ⟨⟨_, ((upd v 0 (thI (bI (!(inB d 0 9999) || !(inB mk 0 20000))) (bI (decide (v 2 = 6))) 0)), g), rfl, ⟨(by first | rfl | (simp only [if_pos (of_decide_eq_true c42)]; done) | (simp only [if_pos (of_decide_eq_true c42)])), (by first | rfl | (simp only [if_pos (of_decide_eq_true c42)]; done) | (simp only [if_pos (of_decide_eq_true c42)]))⟩, ⟨by rw [ht]; exact hP, va_K.moved hW.alike hK, hD⟩⟩, hS.F ht⟩) hS.2.2 dX5_define_46)
    refine lv_aload_n hx hb dX5_define_24 rfl (lv_at hl 0 rfl) ?_
    refine va_get (D := (dC, dI)) (ci := 5) (v := .int (v 2)) (C := RX5) (T := TX5) (N := 24) hx hb hts (fun w h => List.mem_cons_of_mem _ (iw_X5 w h)) hown hK hP 0 rfl rfl 11 (by decide) (hts _ (List.mem_cons_of_mem _ fl_X5_definitions)) (fun _ h9 => h9) rfl dX5_define_25 ?_
    refine lv_bipush (v := 6) hx hb dX5_define_28 (by decide) ?_
    refine lv_icmp_ne (tgt := 37) hx hb dX5_define_30 (by decide) (fun c30 => ?_) (fun c30 => ?_)
    · refine lv_iconst (v := 0) hx hb dX5_define_37 (by decide) ?_
      exact jn38 _ (by first | (simp [bI, c30]; done))
    · refine lv_iconst (v := 1) hx hb dX5_define_33 (by decide) ?_
      refine lv_goto (tgt := 38) hx hb dX5_define_34 (by decide) ?_
      exact jn38 _ (by first | (simp [bI, c30]; done))
  refine lv_iload_n hx hb dX5_define_1 rfl (lv_at hl 1 rfl) ?_
  refine vp_callSi (W.runS (As := [.int d]) (rest := [.ref (a 0)]) ⟨hx, hb, hml, hown, hts⟩ (m_isDay l dC dI cI cZ cJ a v g d) (cwS 1 hts (gd_S ml_X5_X5_isDay sm_X5_isDay in_X5 kX5_isDay) rfl rfl rfl (by decide +kernel) ⟨Nat.le_of_ble_eq_true rfl, Nat.le_of_ble_eq_true rfl⟩) ⟨fun _ U g mk q => by obtain ⟨q0, qP, qK⟩ := q; exact ⟨q0, qP, va_K.moved (u := U) (U := U.calling g mk _) (Vm.Alike.refl U.vm) qK⟩, fun U hU hW => ⟨rfl, by rw [hU]; exact hP, va_K.moved hW.alike hK⟩⟩ rfl rfl hl.1 rfl (lv_room (Nat.le_of_ble_eq_true rfl)) dX5_define_2 ⟨Nat.le_of_ble_eq_true rfl, Nat.le_of_ble_eq_true rfl⟩) (fun r2 hr2 => ?_)
  subst hr2
  refine lv_if_eq (tgt := 19) hx hb dX5_define_5 (by decide) (fun c5 => ?_) (fun c5 => ?_)
  · have c5 := bI_0.mp c5
    refine lv_iconst (v := 1) hx hb dX5_define_19 (by decide) ?_
    refine lv_goto (tgt := 24) hx hb dX5_define_20 (by decide) ?_
    exact jn24 _ (by first | (simp [bI, c5]; done))
  · have c5 := bI_n0.mp c5
    refine lv_iload_n hx hb dX5_define_8 rfl (lv_at hl 2 rfl) ?_
    refine lv_iconst (v := 0) hx hb dX5_define_9 (by decide) ?_
    refine lv_sipush (v := 20000) hx hb dX5_define_10 (by decide) ?_
    refine vp_callSi (W.runS (As := [.int mk, .int 0, .int 20000]) (rest := [.ref (a 0)]) ⟨hx, hb, hml, hown, hts⟩ (m_in l dC dI cI cZ cJ a v g mk 0 20000) (cwS 3 hts (gd_S ml_X5_X5_in sm_X5_in in_X5 kX5_in) rfl rfl rfl (by decide +kernel) ⟨Nat.le_of_ble_eq_true rfl, Nat.le_of_ble_eq_true rfl⟩) ⟨fun _ U g mk q => by obtain ⟨q0, qP, qK⟩ := q; exact ⟨q0, qP, va_K.moved (u := U) (U := U.calling g mk _) (Vm.Alike.refl U.vm) qK⟩, fun U hU hW => ⟨rfl, by rw [hU]; exact hP, va_K.moved hW.alike hK⟩⟩ rfl rfl hl.1 rfl (lv_room (Nat.le_of_ble_eq_true rfl)) dX5_define_13 ⟨Nat.le_of_ble_eq_true rfl, Nat.le_of_ble_eq_true rfl⟩) (fun r13 hr13 => ?_)
    subst hr13
    refine lv_if_ne (tgt := 23) hx hb dX5_define_16 (by decide) (fun c16 => ?_) (fun c16 => ?_)
    · have c16 := bI_n0.mp c16
      refine lv_iconst (v := 0) hx hb dX5_define_23 (by decide) ?_
      exact jn24 _ (by first | (simp [bI, c5, c16]; done) | exact absurd (c5.symm.trans c16) (by decide))
    · have c16 := bI_0.mp c16
      refine lv_iconst (v := 1) hx hb dX5_define_19 (by decide) ?_
      refine lv_goto (tgt := 24) hx hb dX5_define_20 (by decide) ?_
      exact jn24 _ (by first | (simp [bI, c5, c16]; done) | exact absurd (c5.symm.trans c16) (by decide))
set_option maxHeartbeats 4000000 in
set_option maxRecDepth 100000 in
theorem m_ask (l : Launch) (dC : Nat → ClassId) (dI : Nat → Nat → Nat) (cI cZ cJ : ClassId) (a : Nat → Nat) (v : Nat → Int32) (g : Nat → Nat → Int32) (sz : Nat) (f t kd ar : Int32) : Met l yX5_ask wsX5_ask ({ frames := 2, cells := 0, slots := 0, locals := 46 }) (va_Pc [.ref (a 0), .int f, .int t, .int kd, .int ar] (fun U => U.heap.size = sz ∧ va_P (dC, dI) clA (wM cI cZ a v g) U.heap ∧ va_K (dC, dI) clA (tyA cI cZ cJ) U ∧ va_D (fun _ => True) (wM cI cZ a v g))) (va_Qv (fun (u : StA) => u = (if 0 < thI (bI (!(inB kd (-1) 4) || !(inB ar (-1) 9))) (bI (!(inB f 0 9999) || !(inB t 0 9999) || decide (t < f))) 0 then upd v 0 (thI (bI (!(inB kd (-1) 4) || !(inB ar (-1) 9))) (bI (!(inB f 0 9999) || !(inB t 0 9999) || decide (t < f))) 0) else upd (upd (upd (upd (upd v 0 (thI (bI (!(inB kd (-1) 4) || !(inB ar (-1) 9))) (bI (!(inB f 0 9999) || !(inB t 0 9999) || decide (t < f))) 0)) 3 f) 4 t) 5 kd) 6 ar, g)) (atM dC dI cI cZ cJ a (va_A (wM cI cZ a v g) sz)) (va_A (wM cI cZ a v g) sz))  0 0 (va_A (wM cI cZ a v g) sz) := by
  refine Met.ofW (cc := cX5_ask) (maxL := 5) (ret := none) (by decide) rfl ?_
  intro p e s m args below meth c s₁ B hml hv
  obtain ⟨rfl, hsz, hP, hK, hD0⟩ := hv
  have hx := B.exec
  have hb := B.bytes
  have hr := B.returns
  have hts := atoms_spec (ws := wsX5_ask) B.pre
  have hown : s.vm.findClass RX5 = some m.cls := findClass_of_methodNamed B.named
  have hlocks := B.notSynchronized
  subst hsz
  have hD := hD0.self (sz := s.heap.size)
  generalize hAe : va_A (wM cI cZ a v g) s.heap.size = A at hD ⊢
  have hA : ∀ q : Nat, s.heap.size ≤ q → A q := fun q h => by rw [← hAe]; exact Or.inr h
  have hS : va_S A s.heap s.heap [] := va_S.rf
  have hP : va_P (dC, dI) clA (wM cI cZ a v g) s.heap := hP
  have hl := lv_entry ([.ref (a 0), .int f, .int t, .int kd, .int ar]) (n := 5) (Nat.le_of_ble_eq_true rfl)
  rw [lg_entry_eq]
  generalize (lg_sl ([.ref (a 0), .int f, .int t, .int kd, .int ar]) ++ List.replicate (5 - (lg_sl ([.ref (a 0), .int f, .int t, .int kd, .int ar])).length) Slot.unset).toArray = ls at hl ⊢
  have hl : lv_has ls 5 [(0, .ref (a 0)), (1, .int f), (2, .int t), (3, .int kd), (4, .int ar)] := hl
  refine lv_aload_n hx hb dX5_ask_0 rfl (lv_at hl 0 rfl) ?_
  have jn26 : ∀ xj : Int32, xj = bI (!(inB kd (-1) 4) || !(inB ar (-1) 9)) → W p l e (headSpec wsX5_ask ({ frames := 2, cells := 0, slots := 0, locals := 46 })).room s m ([.ref (a 0), .int f, .int t, .int kd, .int ar] : List Value).toArray below meth c s.heap [] 0 0 (MQ below (va_Qv (fun (u : StA) => u = (if 0 < thI (bI (!(inB kd (-1) 4) || !(inB ar (-1) 9))) (bI (!(inB f 0 9999) || !(inB t 0 9999) || decide (t < f))) 0 then upd v 0 (thI (bI (!(inB kd (-1) 4) || !(inB ar (-1) 9))) (bI (!(inB f 0 9999) || !(inB t 0 9999) || decide (t < f))) 0) else upd (upd (upd (upd (upd v 0 (thI (bI (!(inB kd (-1) 4) || !(inB ar (-1) 9))) (bI (!(inB f 0 9999) || !(inB t 0 9999) || decide (t < f))) 0)) 3 f) 4 t) 5 kd) 6 ar, g)) (atM dC dI cI cZ cJ a A) A) ([.ref (a 0), .int f, .int t, .int kd, .int ar] : List Value).toArray s 0 0 A) (F0 m 26 ls [(.int xj), .ref (a 0)]) := by
    intro xj ej
    subst ej
    have jn50 : ∀ xj : Int32, xj = bI (!(inB f 0 9999) || !(inB t 0 9999) || decide (t < f)) → W p l e (headSpec wsX5_ask ({ frames := 2, cells := 0, slots := 0, locals := 46 })).room s m ([.ref (a 0), .int f, .int t, .int kd, .int ar] : List Value).toArray below meth c s.heap [] 0 0 (MQ below (va_Qv (fun (u : StA) => u = (if 0 < thI (bI (!(inB kd (-1) 4) || !(inB ar (-1) 9))) (bI (!(inB f 0 9999) || !(inB t 0 9999) || decide (t < f))) 0 then upd v 0 (thI (bI (!(inB kd (-1) 4) || !(inB ar (-1) 9))) (bI (!(inB f 0 9999) || !(inB t 0 9999) || decide (t < f))) 0) else upd (upd (upd (upd (upd v 0 (thI (bI (!(inB kd (-1) 4) || !(inB ar (-1) 9))) (bI (!(inB f 0 9999) || !(inB t 0 9999) || decide (t < f))) 0)) 3 f) 4 t) 5 kd) 6 ar, g)) (atM dC dI cI cZ cJ a A) A) ([.ref (a 0), .int f, .int t, .int kd, .int ar] : List Value).toArray s 0 0 A) (F0 m 50 ls [(.int xj), .int (bI (!(inB kd (-1) 4) || !(inB ar (-1) 9))), .ref (a 0)]) := by
      intro xj ej
      subst ej
      refine lv_iconst (v := 0) hx hb dX5_ask_50 (by decide) ?_
      have hFc := va_free (wc := (wM cI cZ a v g)) hD hS hA [0, 1, 2, 3, 4, 5, 6, 7, 8, 9, 10, 11, 12, 13, 14, 15, 16] rfl
      refine va_calli (va_runV (As := [.int (bI (!(inB kd (-1) 4) || !(inB ar (-1) 9))), .int (bI (!(inB f 0 9999) || !(inB t 0 9999) || decide (t < f))), .int 0]) (rest := []) ⟨hx, hb, hml, hown, hts⟩ (m_throwing l dC dI cI cZ cJ a v g s.heap.size (bI (!(inB kd (-1) 4) || !(inB ar (-1) 9))) (bI (!(inB f 0 9999) || !(inB t 0 9999) || decide (t < f))) 0) (cwV 3 hts (gd_V ml_X5_X5_throwing im_X5_throwing se_X5_throwing in_X5 kX5_throwing) rfl rfl rfl (by decide +kernel) ⟨Nat.le_of_ble_eq_true rfl, Nat.le_of_ble_eq_true rfl⟩) ⟨fun _ U g mk q => by obtain ⟨q0, q1, qP, qK, qD⟩ := q; exact ⟨q0, q1, qP, va_K.moved (u := U) (U := U.calling g mk _) (Vm.Alike.refl U.vm) qK, qD⟩, va_recv hK hP (ci := 5) (q0 := 0) rfl rfl, fun U hU hW => ⟨rfl, by rw [hU], by rw [hU]; exact hP, va_K.moved hW.alike hK, hD.weaken (fun _ _ _ _ => trivial)⟩⟩ rfl rfl hl.1 rfl (lv_room (Nat.le_of_ble_eq_true rfl)) dX5_ask_51 ⟨Nat.le_of_ble_eq_true rfl, Nat.le_of_ble_eq_true rfl⟩) hS (fun q _ h => hFc q h) hFc (fun r51 u9 t9 H1 locs ht hvm hw hB hz1 hk1 hS => ?_)
      obtain ⟨rfl, rfl⟩ := hw
      obtain ⟨hP, hK1, hD1⟩ := hB
      rw [ht] at hP
      have hD := hD1.weaken (fun k q _ h => hFc q.1 h)
      clear hFc hk1 hD1 hK1
      generalize H1 = H at hP hS ⊢
      have hP : va_P (dC, dI) clA (wM cI cZ a (upd v 0 (thI (bI (!(inB kd (-1) 4) || !(inB ar (-1) 9))) (bI (!(inB f 0 9999) || !(inB t 0 9999) || decide (t < f))) 0)) g) H := hP
      have hD : va_D A (wM cI cZ a (upd v 0 (thI (bI (!(inB kd (-1) 4) || !(inB ar (-1) 9))) (bI (!(inB f 0 9999) || !(inB t 0 9999) || decide (t < f))) 0)) g) := hD
      refine lv_if_eq (tgt := 58) hx hb dX5_ask_54 (by decide) (fun c54 => ?_) (fun c54 => ?_)
      · have c54 := bI_0.mp c54
        refine lv_aload_n hx hb dX5_ask_58 rfl (lv_at hl 0 rfl) ?_
        refine lv_iload_n hx hb dX5_ask_59 rfl (lv_at hl 1 rfl) ?_
        refine va_put (D := (dC, dI)) (ci := 5) (v := .int f) (ty := .int) (C := RX5) (T := TX5) (N := 24) hx hb hts (fun w h => List.mem_cons_of_mem _ (iw_X5 w h)) tyX5 tyX5_ok nmX5 hown hK hP hD hS 0 rfl rfl 14 (by decide) (hts _ (List.mem_cons_of_mem _ fl_X5_from)) (fun _ h9 => h9) rfl (by decide +kernel) rfl rfl (Nat.le_of_ble_eq_true rfl) dX5_ask_60 (fun H locs hP hD hS => ?_)
        have hP : va_P (dC, dI) clA (wM cI cZ a (upd (upd v 0 (thI (bI (!(inB kd (-1) 4) || !(inB ar (-1) 9))) (bI (!(inB f 0 9999) || !(inB t 0 9999) || decide (t < f))) 0)) 3 f) g) H := hP
        have hD : va_D A (wM cI cZ a (upd (upd v 0 (thI (bI (!(inB kd (-1) 4) || !(inB ar (-1) 9))) (bI (!(inB f 0 9999) || !(inB t 0 9999) || decide (t < f))) 0)) 3 f) g) := hD
        refine lv_aload_n hx hb dX5_ask_63 rfl (lv_at hl 0 rfl) ?_
        refine lv_iload_n hx hb dX5_ask_64 rfl (lv_at hl 2 rfl) ?_
        refine va_put (D := (dC, dI)) (ci := 5) (v := .int t) (ty := .int) (C := RX5) (T := TX5) (N := 24) hx hb hts (fun w h => List.mem_cons_of_mem _ (iw_X5 w h)) tyX5 tyX5_ok nmX5 hown hK hP hD hS 0 rfl rfl 15 (by decide) (hts _ (List.mem_cons_of_mem _ fl_X5_to)) (fun _ h9 => h9) rfl (by decide +kernel) rfl rfl (Nat.le_of_ble_eq_true rfl) dX5_ask_65 (fun H locs hP hD hS => ?_)
        have hP : va_P (dC, dI) clA (wM cI cZ a (upd (upd (upd v 0 (thI (bI (!(inB kd (-1) 4) || !(inB ar (-1) 9))) (bI (!(inB f 0 9999) || !(inB t 0 9999) || decide (t < f))) 0)) 3 f) 4 t) g) H := hP
        have hD : va_D A (wM cI cZ a (upd (upd (upd v 0 (thI (bI (!(inB kd (-1) 4) || !(inB ar (-1) 9))) (bI (!(inB f 0 9999) || !(inB t 0 9999) || decide (t < f))) 0)) 3 f) 4 t) g) := hD
        refine lv_aload_n hx hb dX5_ask_68 rfl (lv_at hl 0 rfl) ?_
        refine lv_iload_n hx hb dX5_ask_69 rfl (lv_at hl 3 rfl) ?_
        refine va_put (D := (dC, dI)) (ci := 5) (v := .int kd) (ty := .int) (C := RX5) (T := TX5) (N := 24) hx hb hts (fun w h => List.mem_cons_of_mem _ (iw_X5 w h)) tyX5 tyX5_ok nmX5 hown hK hP hD hS 0 rfl rfl 16 (by decide) (hts _ (List.mem_cons_of_mem _ fl_X5_askedKind)) (fun _ h9 => h9) rfl (by decide +kernel) rfl rfl (Nat.le_of_ble_eq_true rfl) dX5_ask_70 (fun H locs hP hD hS => ?_)
        have hP : va_P (dC, dI) clA (wM cI cZ a (upd (upd (upd (upd v 0 (thI (bI (!(inB kd (-1) 4) || !(inB ar (-1) 9))) (bI (!(inB f 0 9999) || !(inB t 0 9999) || decide (t < f))) 0)) 3 f) 4 t) 5 kd) g) H := hP
        have hD : va_D A (wM cI cZ a (upd (upd (upd (upd v 0 (thI (bI (!(inB kd (-1) 4) || !(inB ar (-1) 9))) (bI (!(inB f 0 9999) || !(inB t 0 9999) || decide (t < f))) 0)) 3 f) 4 t) 5 kd) g) := hD
        refine lv_aload_n hx hb dX5_ask_73 rfl (lv_at hl 0 rfl) ?_
        refine lv_iload hx hb dX5_ask_74 (lv_at hl 4 rfl) ?_
        refine va_put (D := (dC, dI)) (ci := 5) (v := .int ar) (ty := .int) (C := RX5) (T := TX5) (N := 24) hx hb hts (fun w h => List.mem_cons_of_mem _ (iw_X5 w h)) tyX5 tyX5_ok nmX5 hown hK hP hD hS 0 rfl rfl 17 (by decide) (hts _ (List.mem_cons_of_mem _ fl_X5_askedArea)) (fun _ h9 => h9) rfl (by decide +kernel) rfl rfl (Nat.le_of_ble_eq_true rfl) dX5_ask_76 (fun H locs hP hD hS => ?_)
        have hP : va_P (dC, dI) clA (wM cI cZ a (upd (upd (upd (upd (upd v 0 (thI (bI (!(inB kd (-1) 4) || !(inB ar (-1) 9))) (bI (!(inB f 0 9999) || !(inB t 0 9999) || decide (t < f))) 0)) 3 f) 4 t) 5 kd) 6 ar) g) H := hP
        have hD : va_D A (wM cI cZ a (upd (upd (upd (upd (upd v 0 (thI (bI (!(inB kd (-1) 4) || !(inB ar (-1) 9))) (bI (!(inB f 0 9999) || !(inB t 0 9999) || decide (t < f))) 0)) 3 f) 4 t) 5 kd) 6 ar) g) := hD
        exact (W.vret hx hb hr (fun t9 ht hW => ⟨⟨((upd (upd (upd (upd (upd v 0 (thI (bI (!(inB kd (-1) 4) || !(inB ar (-1) 9))) (bI (!(inB f 0 9999) || !(inB t 0 9999) || decide (t < f))) 0)) 3 f) 4 t) 5 kd) 6 ar), g), rfl, (by first | rfl | (simp only [if_neg (of_decide_eq_false c54)]; done) | (simp only [if_neg (of_decide_eq_false c54)])), ⟨by rw [ht]; exact hP, va_K.moved hW.alike hK, hD⟩⟩, hS.F ht⟩) hS.2.2 dX5_ask_79)
      · have c54 := bI_n0.mp c54
        exact (W.vret hx hb hr (fun t9 ht hW => ⟨⟨((upd v 0 (thI (bI (!(inB kd (-1) 4) || !(inB ar (-1) 9))) (bI (!(inB f 0 9999) || !(inB t 0 9999) || decide (t < f))) 0)), g), rfl, (by first | rfl | (simp only [if_pos (of_decide_eq_true c54)]; done) | (simp only [if_pos (of_decide_eq_true c54)])), ⟨by rw [ht]; exact hP, va_K.moved hW.alike hK, hD⟩⟩, hS.F ht⟩) hS.2.2 dX5_ask_57)
    refine lv_iload_n hx hb dX5_ask_26 rfl (lv_at hl 1 rfl) ?_
    refine vp_callSi (W.runS (As := [.int f]) (rest := [.int (bI (!(inB kd (-1) 4) || !(inB ar (-1) 9))), .ref (a 0)]) ⟨hx, hb, hml, hown, hts⟩ (m_isDay l dC dI cI cZ cJ a v g f) (cwS 1 hts (gd_S ml_X5_X5_isDay sm_X5_isDay in_X5 kX5_isDay) rfl rfl rfl (by decide +kernel) ⟨Nat.le_of_ble_eq_true rfl, Nat.le_of_ble_eq_true rfl⟩) ⟨fun _ U g mk q => by obtain ⟨q0, qP, qK⟩ := q; exact ⟨q0, qP, va_K.moved (u := U) (U := U.calling g mk _) (Vm.Alike.refl U.vm) qK⟩, fun U hU hW => ⟨rfl, by rw [hU]; exact hP, va_K.moved hW.alike hK⟩⟩ rfl rfl hl.1 rfl (lv_room (Nat.le_of_ble_eq_true rfl)) dX5_ask_27 ⟨Nat.le_of_ble_eq_true rfl, Nat.le_of_ble_eq_true rfl⟩) (fun r27 hr27 => ?_)
    subst hr27
    refine lv_if_eq (tgt := 45) hx hb dX5_ask_30 (by decide) (fun c30 => ?_) (fun c30 => ?_)
    · have c30 := bI_0.mp c30
      refine lv_iconst (v := 1) hx hb dX5_ask_45 (by decide) ?_
      refine lv_goto (tgt := 50) hx hb dX5_ask_46 (by decide) ?_
      exact jn50 _ (by first | (simp [bI, c30]; done))
    · have c30 := bI_n0.mp c30
      refine lv_iload_n hx hb dX5_ask_33 rfl (lv_at hl 2 rfl) ?_
      refine vp_callSi (W.runS (As := [.int t]) (rest := [.int (bI (!(inB kd (-1) 4) || !(inB ar (-1) 9))), .ref (a 0)]) ⟨hx, hb, hml, hown, hts⟩ (m_isDay l dC dI cI cZ cJ a v g t) (cwS 1 hts (gd_S ml_X5_X5_isDay sm_X5_isDay in_X5 kX5_isDay) rfl rfl rfl (by decide +kernel) ⟨Nat.le_of_ble_eq_true rfl, Nat.le_of_ble_eq_true rfl⟩) ⟨fun _ U g mk q => by obtain ⟨q0, qP, qK⟩ := q; exact ⟨q0, qP, va_K.moved (u := U) (U := U.calling g mk _) (Vm.Alike.refl U.vm) qK⟩, fun U hU hW => ⟨rfl, by rw [hU]; exact hP, va_K.moved hW.alike hK⟩⟩ rfl rfl hl.1 rfl (lv_room (Nat.le_of_ble_eq_true rfl)) dX5_ask_34 ⟨Nat.le_of_ble_eq_true rfl, Nat.le_of_ble_eq_true rfl⟩) (fun r34 hr34 => ?_)
      subst hr34
      refine lv_if_eq (tgt := 45) hx hb dX5_ask_37 (by decide) (fun c37 => ?_) (fun c37 => ?_)
      · have c37 := bI_0.mp c37
        refine lv_iconst (v := 1) hx hb dX5_ask_45 (by decide) ?_
        refine lv_goto (tgt := 50) hx hb dX5_ask_46 (by decide) ?_
        exact jn50 _ (by first | (simp [bI, c30, c37]; done) | exact absurd (c30.symm.trans c37) (by decide))
      · have c37 := bI_n0.mp c37
        refine lv_iload_n hx hb dX5_ask_40 rfl (lv_at hl 2 rfl) ?_
        refine lv_iload_n hx hb dX5_ask_41 rfl (lv_at hl 1 rfl) ?_
        refine lv_icmp_ge (tgt := 49) hx hb dX5_ask_42 (by decide) (fun c42 => ?_) (fun c42 => ?_)
        · have n42 := Int32.not_lt.mpr c42
          refine lv_iconst (v := 0) hx hb dX5_ask_49 (by decide) ?_
          exact jn50 _ (by first | (simp [bI, c30, c37, c42, n42]; done) | exact absurd (c30.symm.trans c37) (by decide) | exact absurd (c30.symm.trans c42) (by decide) | exact absurd (c37.symm.trans c42) (by decide))
        · have n42 := Int32.not_le.mp c42
          refine lv_iconst (v := 1) hx hb dX5_ask_45 (by decide) ?_
          refine lv_goto (tgt := 50) hx hb dX5_ask_46 (by decide) ?_
          exact jn50 _ (by first | (simp [bI, c30, c37, c42, n42]; done) | exact absurd (c30.symm.trans c37) (by decide) | exact absurd (c30.symm.trans c42) (by decide) | exact absurd (c37.symm.trans c42) (by decide))
  refine lv_iload_n hx hb dX5_ask_1 rfl (lv_at hl 3 rfl) ?_
  refine lv_iconst (v := (-1)) hx hb dX5_ask_2 (by decide) ?_
  refine lv_iconst (v := 4) hx hb dX5_ask_3 (by decide) ?_
  refine vp_callSi (W.runS (As := [.int kd, .int (-1), .int 4]) (rest := [.ref (a 0)]) ⟨hx, hb, hml, hown, hts⟩ (m_in l dC dI cI cZ cJ a v g kd (-1) 4) (cwS 3 hts (gd_S ml_X5_X5_in sm_X5_in in_X5 kX5_in) rfl rfl rfl (by decide +kernel) ⟨Nat.le_of_ble_eq_true rfl, Nat.le_of_ble_eq_true rfl⟩) ⟨fun _ U g mk q => by obtain ⟨q0, qP, qK⟩ := q; exact ⟨q0, qP, va_K.moved (u := U) (U := U.calling g mk _) (Vm.Alike.refl U.vm) qK⟩, fun U hU hW => ⟨rfl, by rw [hU]; exact hP, va_K.moved hW.alike hK⟩⟩ rfl rfl hl.1 rfl (lv_room (Nat.le_of_ble_eq_true rfl)) dX5_ask_4 ⟨Nat.le_of_ble_eq_true rfl, Nat.le_of_ble_eq_true rfl⟩) (fun r4 hr4 => ?_)
  subst hr4
  refine lv_if_eq (tgt := 21) hx hb dX5_ask_7 (by decide) (fun c7 => ?_) (fun c7 => ?_)
  · have c7 := bI_0.mp c7
    refine lv_iconst (v := 1) hx hb dX5_ask_21 (by decide) ?_
    refine lv_goto (tgt := 26) hx hb dX5_ask_22 (by decide) ?_
    exact jn26 _ (by first | (simp [bI, c7]; done))
  · have c7 := bI_n0.mp c7
    refine lv_iload hx hb dX5_ask_10 (lv_at hl 4 rfl) ?_
    refine lv_iconst (v := (-1)) hx hb dX5_ask_12 (by decide) ?_
    refine lv_bipush (v := 9) hx hb dX5_ask_13 (by decide) ?_
    refine vp_callSi (W.runS (As := [.int ar, .int (-1), .int 9]) (rest := [.ref (a 0)]) ⟨hx, hb, hml, hown, hts⟩ (m_in l dC dI cI cZ cJ a v g ar (-1) 9) (cwS 3 hts (gd_S ml_X5_X5_in sm_X5_in in_X5 kX5_in) rfl rfl rfl (by decide +kernel) ⟨Nat.le_of_ble_eq_true rfl, Nat.le_of_ble_eq_true rfl⟩) ⟨fun _ U g mk q => by obtain ⟨q0, qP, qK⟩ := q; exact ⟨q0, qP, va_K.moved (u := U) (U := U.calling g mk _) (Vm.Alike.refl U.vm) qK⟩, fun U hU hW => ⟨rfl, by rw [hU]; exact hP, va_K.moved hW.alike hK⟩⟩ rfl rfl hl.1 rfl (lv_room (Nat.le_of_ble_eq_true rfl)) dX5_ask_15 ⟨Nat.le_of_ble_eq_true rfl, Nat.le_of_ble_eq_true rfl⟩) (fun r15 hr15 => ?_)
    subst hr15
    refine lv_if_ne (tgt := 25) hx hb dX5_ask_18 (by decide) (fun c18 => ?_) (fun c18 => ?_)
    · have c18 := bI_n0.mp c18
      refine lv_iconst (v := 0) hx hb dX5_ask_25 (by decide) ?_
      exact jn26 _ (by first | (simp [bI, c7, c18]; done) | exact absurd (c7.symm.trans c18) (by decide))
    · have c18 := bI_0.mp c18
      refine lv_iconst (v := 1) hx hb dX5_ask_21 (by decide) ?_
      refine lv_goto (tgt := 26) hx hb dX5_ask_22 (by decide) ?_
      exact jn26 _ (by first | (simp [bI, c7, c18]; done) | exact absurd (c7.symm.trans c18) (by decide))
set_option maxHeartbeats 4000000 in
set_option maxRecDepth 100000 in
theorem m_count (l : Launch) (dC : Nat → ClassId) (dI : Nat → Nat → Nat) (cI cZ cJ : ClassId) (a : Nat → Nat) (v : Nat → Int32) (g : Nat → Nat → Int32) (sz : Nat) (n : Nat) (hn : v 1 = nI n) (hn2 : n ≤ 200) (nd : Nat) (hnd : v 2 = nI nd) (hnd2 : nd ≤ 6) (w : Int32) : Met l yX5_count wsX5_count ({ frames := 3, cells := 0, slots := 0, locals := 68 }) (va_Pc [.ref (a 0), .int w] (fun U => U.heap.size = sz ∧ va_P (dC, dI) clA (wM cI cZ a v g) U.heap ∧ va_K (dC, dI) clA (tyA cI cZ cJ) U ∧ va_D (fun _ => True) (wM cI cZ a v g))) (va_Qi (fun (r : Int32) (u : StA) => r = (if 0 < thI (bI (!(inB w 0 4))) 0 0 then 0 else isum (fun i => if fitB g i (v 3) (v 4) (v 5) (v 6) = true then cM g nd w i else 0) n) ∧ u = (upd v 0 (thI (bI (!(inB w 0 4))) 0 0), g)) (atM dC dI cI cZ cJ a (va_A (wM cI cZ a v g) sz)) (va_A (wM cI cZ a v g) sz))  0 0 (va_A (wM cI cZ a v g) sz) := by
  refine Met.ofW (cc := cX5_count) (maxL := 5) (ret := (some .int)) (by decide) rfl ?_
  intro p e s m args below meth c s₁ B hml hv
  obtain ⟨rfl, hsz, hP, hK, hD0⟩ := hv
  have hx := B.exec
  have hb := B.bytes
  have hr := B.returns
  have hts := atoms_spec (ws := wsX5_count) B.pre
  have hown : s.vm.findClass RX5 = some m.cls := findClass_of_methodNamed B.named
  have hlocks := B.notSynchronized
  subst hsz
  have hD := hD0.self (sz := s.heap.size)
  generalize hAe : va_A (wM cI cZ a v g) s.heap.size = A at hD ⊢
  have hA : ∀ q : Nat, s.heap.size ≤ q → A q := fun q h => by rw [← hAe]; exact Or.inr h
  have hS : va_S A s.heap s.heap [] := va_S.rf
  have hP : va_P (dC, dI) clA (wM cI cZ a v g) s.heap := hP
  have hl := lv_entry ([.ref (a 0), .int w]) (n := 5) (Nat.le_of_ble_eq_true rfl)
  rw [lg_entry_eq]
  generalize (lg_sl ([.ref (a 0), .int w]) ++ List.replicate (5 - (lg_sl ([.ref (a 0), .int w])).length) Slot.unset).toArray = ls at hl ⊢
  have hl : lv_has ls 5 [(0, .ref (a 0)), (1, .int w)] := hl
  refine lv_aload_n hx hb dX5_count_0 rfl (lv_at hl 0 rfl) ?_
  have jn15 : ∀ xj : Int32, xj = bI (!(inB w 0 4)) → W p l e (headSpec wsX5_count ({ frames := 3, cells := 0, slots := 0, locals := 68 })).room s m ([.ref (a 0), .int w] : List Value).toArray below meth c s.heap [] 0 0 (MQ below (va_Qi (fun (r : Int32) (u : StA) => r = (if 0 < thI (bI (!(inB w 0 4))) 0 0 then 0 else isum (fun i => if fitB g i (v 3) (v 4) (v 5) (v 6) = true then cM g nd w i else 0) n) ∧ u = (upd v 0 (thI (bI (!(inB w 0 4))) 0 0), g)) (atM dC dI cI cZ cJ a A) A) ([.ref (a 0), .int w] : List Value).toArray s 0 0 A) (F0 m 15 ls [(.int xj), .ref (a 0)]) := by
    intro xj ej
    subst ej
    refine lv_iconst (v := 0) hx hb dX5_count_15 (by decide) ?_
    refine lv_iconst (v := 0) hx hb dX5_count_16 (by decide) ?_
    have hFc := va_free (wc := (wM cI cZ a v g)) hD hS hA [0, 1, 2, 3, 4, 5, 6, 7, 8, 9, 10, 11, 12, 13, 14, 15, 16] rfl
    refine va_calli (va_runV (As := [.int (bI (!(inB w 0 4))), .int 0, .int 0]) (rest := []) ⟨hx, hb, hml, hown, hts⟩ (m_throwing l dC dI cI cZ cJ a v g s.heap.size (bI (!(inB w 0 4))) 0 0) (cwV 3 hts (gd_V ml_X5_X5_throwing im_X5_throwing se_X5_throwing in_X5 kX5_throwing) rfl rfl rfl (by decide +kernel) ⟨Nat.le_of_ble_eq_true rfl, Nat.le_of_ble_eq_true rfl⟩) ⟨fun _ U g mk q => by obtain ⟨q0, q1, qP, qK, qD⟩ := q; exact ⟨q0, q1, qP, va_K.moved (u := U) (U := U.calling g mk _) (Vm.Alike.refl U.vm) qK, qD⟩, va_recv hK hP (ci := 5) (q0 := 0) rfl rfl, fun U hU hW => ⟨rfl, by rw [hU], by rw [hU]; exact hP, va_K.moved hW.alike hK, hD.weaken (fun _ _ _ _ => trivial)⟩⟩ rfl rfl hl.1 rfl (lv_room (Nat.le_of_ble_eq_true rfl)) dX5_count_17 ⟨Nat.le_of_ble_eq_true rfl, Nat.le_of_ble_eq_true rfl⟩) hS (fun q _ h => hFc q h) hFc (fun r17 u9 t9 H1 locs ht hvm hw hB hz1 hk1 hS => ?_)
    obtain ⟨rfl, rfl⟩ := hw
    obtain ⟨hP, hK1, hD1⟩ := hB
    rw [ht] at hP
    have hD := hD1.weaken (fun k q _ h => hFc q.1 h)
    clear hFc hk1 hD1 hK1
    generalize H1 = H at hP hS ⊢
    have hP : va_P (dC, dI) clA (wM cI cZ a (upd v 0 (thI (bI (!(inB w 0 4))) 0 0)) g) H := hP
    have hD : va_D A (wM cI cZ a (upd v 0 (thI (bI (!(inB w 0 4))) 0 0)) g) := hD
    refine lv_if_eq (tgt := 25) hx hb dX5_count_20 (by decide) (fun c20 => ?_) (fun c20 => ?_)
    · have c20 := bI_0.mp c20
      refine lv_iconst (v := 0) hx hb dX5_count_25 (by decide) ?_
      refine lv_istore_n (lv' := [(2, .int 0), (0, .ref (a 0)), (1, .int w)]) hx hb dX5_count_26 rfl hl (by decide) rfl (fun ls hl => ?_)
      refine lv_iconst (v := 0) hx hb dX5_count_27 (by decide) ?_
      refine lv_istore_n (lv' := [(3, .int 0), (2, .int 0), (0, .ref (a 0)), (1, .int w)]) hx hb dX5_count_28 rfl hl (by decide) rfl (fun ls hl => ?_)
      have lp : ∀ (d k : Nat), k ≤ n → n + 1 ≤ k + d → ∀ (H : Heap) (locs : List Loc), va_P (dC, dI) clA (wM cI cZ a (upd v 0 (thI (bI (!(inB w 0 4))) 0 0)) g) H → va_D A (wM cI cZ a (upd v 0 (thI (bI (!(inB w 0 4))) 0 0)) g) → va_S A s.heap H locs → ∀ (ls : Array Slot), lv_has ls 5 [(3, .int (nI k)), (2, .int (isum (fun i => if fitB g i (v 3) (v 4) (v 5) (v 6) = true then cM g nd w i else 0) k)), (0, .ref (a 0)), (1, .int w)] → W p l e (headSpec wsX5_count ({ frames := 3, cells := 0, slots := 0, locals := 68 })).room s m ([.ref (a 0), .int w] : List Value).toArray below meth c H locs 0 0 (MQ below (va_Qi (fun (r : Int32) (u : StA) => r = (if 0 < thI (bI (!(inB w 0 4))) 0 0 then 0 else isum (fun i => if fitB g i (v 3) (v 4) (v 5) (v 6) = true then cM g nd w i else 0) n) ∧ u = (upd v 0 (thI (bI (!(inB w 0 4))) 0 0), g)) (atM dC dI cI cZ cJ a A) A) ([.ref (a 0), .int w] : List Value).toArray s 0 0 A) (F0 m 29 ls []) := by
        intro d
        induction d with
        | zero => intro k h1 h2; exact absurd h2 (by omega)
        | succ d ih =>
          intro k hkn hkd H locs hP hD hS ls hl
          refine lv_iload_n hx hb dX5_count_29 rfl (lv_at hl 0 rfl) ?_
          refine lv_aload_n hx hb dX5_count_30 rfl (lv_at hl 2 rfl) ?_
          refine va_get (D := (dC, dI)) (ci := 5) (v := .int (v 1)) (C := RX5) (T := TX5) (N := 24) hx hb hts (fun w h => List.mem_cons_of_mem _ (iw_X5 w h)) hown hK hP 0 rfl rfl 1 (by decide) (hts _ (List.mem_cons_of_mem _ fl_X5_rows)) (fun _ h9 => h9) rfl dX5_count_31 ?_
          refine lv_icmp_ge (tgt := 142) hx hb dX5_count_34 (by decide) (fun c34 => ?_) (fun c34 => ?_)
          · have n34 := Int32.not_lt.mpr c34
            rw [hn] at c34
            have hkn2 : k = n := Nat.le_antisymm hkn ((nI_leI (by omega) (by omega)).mp c34)
            refine lv_iload_n hx hb dX5_count_142 rfl (lv_at hl 1 rfl) ?_
            exact (W.iret (v := isum (fun i => if fitB g i (v 3) (v 4) (v 5) (v 6) = true then cM g nd w i else 0) k) hx hb hr (fun t9 ht hW => ⟨⟨_, ((upd v 0 (thI (bI (!(inB w 0 4))) 0 0)), g), rfl, ⟨(by first | rfl | (simp only [if_neg (of_decide_eq_false c20)]; done) | (simp only [if_neg (of_decide_eq_false c20)]; subst hkn2; rfl)), (by first | rfl | (simp only [if_neg (of_decide_eq_false c20)]; done) | (simp only [if_neg (of_decide_eq_false c20)]; subst hkn2; rfl))⟩, ⟨by rw [ht]; exact hP, va_K.moved hW.alike hK, hD⟩⟩, hS.F ht⟩) hS.2.2 dX5_count_143)
          · have n34 := Int32.not_le.mp c34
            rw [hn] at c34
            have hk : k < n := Nat.lt_of_not_le (fun h => c34 (nI_le h (by omega)))
            refine lv_aload_n hx hb dX5_count_37 rfl (lv_at hl 2 rfl) ?_
            refine lv_iload_n hx hb dX5_count_38 rfl (lv_at hl 0 rfl) ?_
            refine vp_callSi (W.runV (As := [.int (nI k)]) (rest := []) ⟨hx, hb, hml, hown, hts⟩ (m_isAsked l dC dI cI cZ cJ a (upd v 0 (thI (bI (!(inB w 0 4))) 0 0)) g k (by omega)) (cwV 1 hts (gd_V ml_X5_X5_isAsked im_X5_isAsked se_X5_isAsked in_X5 kX5_isAsked) rfl rfl rfl (by decide +kernel) ⟨Nat.le_of_ble_eq_true rfl, Nat.le_of_ble_eq_true rfl⟩) ⟨fun _ U g mk q => by obtain ⟨q0, qP, qK⟩ := q; exact ⟨q0, qP, va_K.moved (u := U) (U := U.calling g mk _) (Vm.Alike.refl U.vm) qK⟩, va_recv hK hP (ci := 5) (q0 := 0) rfl rfl, fun U hU hW => ⟨rfl, by rw [hU]; exact hP, va_K.moved hW.alike hK⟩⟩ rfl rfl hl.1 rfl (lv_room (Nat.le_of_ble_eq_true rfl)) dX5_count_39 ⟨Nat.le_of_ble_eq_true rfl, Nat.le_of_ble_eq_true rfl⟩) (fun r39 hr39 => ?_)
            replace hr39 : r39 = bI (fitB g k (v 3) (v 4) (v 5) (v 6)) := hr39
            subst hr39
            refine lv_if_eq (tgt := 136) hx hb dX5_count_42 (by decide) (fun c42 => ?_) (fun c42 => ?_)
            · have c42 := bI_0.mp c42
              refine lv_iinc (v := nI (k + 1)) (lv' := [(3, .int (nI (k + 1))), (2, .int (isum (fun i => if fitB g i (v 3) (v 4) (v 5) (v 6) = true then cM g nd w i else 0) k)), (0, .ref (a 0)), (1, .int w)]) hx hb dX5_count_136 hl (k := 0) rfl (nI_1 k) (by decide) rfl (fun ls hl => ?_)
              refine lv_goto (tgt := 29) hx hb dX5_count_139 (by decide) ?_
              have eL0 : (.int (isum (fun i => if fitB g i (v 3) (v 4) (v 5) (v 6) = true then cM g nd w i else 0) (k + 1)) : Value) = .int (isum (fun i => if fitB g i (v 3) (v 4) (v 5) (v 6) = true then cM g nd w i else 0) k) := (by simp [isum_s, cM, bI, c34, n34, c42])
              exact ih (k + 1) (by omega) (by omega) _ _ hP hD hS ls (by rw [eL0]; exact lv_sub hl [0, 1, 2, 3] rfl)
            · have c42 := bI_n0.mp c42
              have jn94 : ∀ xj : Int32, xj = bI (isM g nd w k) → W p l e (headSpec wsX5_count ({ frames := 3, cells := 0, slots := 0, locals := 68 })).room s m ([.ref (a 0), .int w] : List Value).toArray below meth c H locs 0 0 (MQ below (va_Qi (fun (r : Int32) (u : StA) => r = (if 0 < thI (bI (!(inB w 0 4))) 0 0 then 0 else isum (fun i => if fitB g i (v 3) (v 4) (v 5) (v 6) = true then cM g nd w i else 0) n) ∧ u = (upd v 0 (thI (bI (!(inB w 0 4))) 0 0), g)) (atM dC dI cI cZ cJ a A) A) ([.ref (a 0), .int w] : List Value).toArray s 0 0 A) (F0 m 94 ls [(.int xj)]) := by
                intro xj ej
                subst ej
                refine lv_istore (lv' := [(4, .int (bI (isM g nd w k))), (3, .int (nI k)), (2, .int (isum (fun i => if fitB g i (v 3) (v 4) (v 5) (v 6) = true then cM g nd w i else 0) k)), (0, .ref (a 0)), (1, .int w)]) hx hb dX5_count_94 hl (by decide) rfl (fun ls hl => ?_)
                refine lv_iload_n hx hb dX5_count_96 rfl (lv_at hl 2 rfl) ?_
                refine lv_iload_n hx hb dX5_count_97 rfl (lv_at hl 4 rfl) ?_
                refine lv_iconst (v := 4) hx hb dX5_count_98 (by decide) ?_
                refine lv_icmp_ne (tgt := 124) hx hb dX5_count_99 (by decide) (fun c99 => ?_) (fun c99 => ?_)
                · refine lv_iload hx hb dX5_count_124 (lv_at hl 0 rfl) ?_
                  refine lv_if_eq (tgt := 133) hx hb dX5_count_126 (by decide) (fun c126 => ?_) (fun c126 => ?_)
                  · have c126 := bI_0.mp c126
                    refine lv_iconst (v := 0) hx hb dX5_count_133 (by decide) ?_
                    refine lv_iadd hx hb dX5_count_134 ?_
                    refine lv_topi (fun x134 e134 => ?_)
                    refine lv_istore_n (lv' := [(2, .int x134), (4, .int (bI (isM g nd w k))), (3, .int (nI k)), (0, .ref (a 0)), (1, .int w)]) hx hb dX5_count_135 rfl hl (by decide) rfl (fun ls hl => ?_)
                    refine lv_iinc (v := nI (k + 1)) (lv' := [(3, .int (nI (k + 1))), (2, .int x134), (4, .int (bI (isM g nd w k))), (0, .ref (a 0)), (1, .int w)]) hx hb dX5_count_136 hl (k := 2) rfl (nI_1 k) (by decide) rfl (fun ls hl => ?_)
                    refine lv_goto (tgt := 29) hx hb dX5_count_139 (by decide) ?_
                    have eL0 : (.int (isum (fun i => if fitB g i (v 3) (v 4) (v 5) (v 6) = true then cM g nd w i else 0) (k + 1)) : Value) = .int x134 := (by simp [isum_s, cM, bI, c34, n34, c42, c99, c126, e134])
                    exact ih (k + 1) (by omega) (by omega) _ _ hP hD hS ls (by rw [eL0]; exact lv_sub hl [0, 1, 3, 4] rfl)
                  · have c126 := bI_n0.mp c126
                    refine lv_iconst (v := 1) hx hb dX5_count_129 (by decide) ?_
                    refine lv_goto (tgt := 134) hx hb dX5_count_130 (by decide) ?_
                    refine lv_iadd hx hb dX5_count_134 ?_
                    refine lv_topi (fun x134 e134 => ?_)
                    refine lv_istore_n (lv' := [(2, .int x134), (4, .int (bI (isM g nd w k))), (3, .int (nI k)), (0, .ref (a 0)), (1, .int w)]) hx hb dX5_count_135 rfl hl (by decide) rfl (fun ls hl => ?_)
                    refine lv_iinc (v := nI (k + 1)) (lv' := [(3, .int (nI (k + 1))), (2, .int x134), (4, .int (bI (isM g nd w k))), (0, .ref (a 0)), (1, .int w)]) hx hb dX5_count_136 hl (k := 2) rfl (nI_1 k) (by decide) rfl (fun ls hl => ?_)
                    refine lv_goto (tgt := 29) hx hb dX5_count_139 (by decide) ?_
                    have eL0 : (.int (isum (fun i => if fitB g i (v 3) (v 4) (v 5) (v 6) = true then cM g nd w i else 0) (k + 1)) : Value) = .int x134 := (by simp [isum_s, cM, bI, c34, n34, c42, c99, c126, e134])
                    exact ih (k + 1) (by omega) (by omega) _ _ hP hD hS ls (by rw [eL0]; exact lv_sub hl [0, 1, 3, 4] rfl)
                · refine lv_aload_n hx hb dX5_count_102 rfl (lv_at hl 3 rfl) ?_
                  refine va_get (D := (dC, dI)) (ci := 5) (v := .ref (a 8)) (C := RX5) (T := TX5) (N := 24) hx hb hts (fun w h => List.mem_cons_of_mem _ (iw_X5 w h)) hown hK hP 0 rfl rfl 9 (by decide) (hts _ (List.mem_cons_of_mem _ fl_X5_turnOut)) (fun _ h9 => h9) rfl dX5_count_103 ?_
                  refine lv_iload_n hx hb dX5_count_106 rfl (lv_at hl 1 rfl) ?_
                  refine wi_ald hx hb hK hP 8 0 rfl rfl (k := k) (by omega) (by decide) dX5_count_107 ?_
                  refine lv_if_le (tgt := 120) hx hb dX5_count_108 (by decide) (fun c108 => ?_) (fun c108 => ?_)
                  · have n108 := Int32.not_lt.mpr c108
                    refine lv_iconst (v := 0) hx hb dX5_count_120 (by decide) ?_
                    refine lv_goto (tgt := 134) hx hb dX5_count_121 (by decide) ?_
                    refine lv_iadd hx hb dX5_count_134 ?_
                    refine lv_topi (fun x134 e134 => ?_)
                    refine lv_istore_n (lv' := [(2, .int x134), (4, .int (bI (isM g nd w k))), (3, .int (nI k)), (0, .ref (a 0)), (1, .int w)]) hx hb dX5_count_135 rfl hl (by decide) rfl (fun ls hl => ?_)
                    refine lv_iinc (v := nI (k + 1)) (lv' := [(3, .int (nI (k + 1))), (2, .int x134), (4, .int (bI (isM g nd w k))), (0, .ref (a 0)), (1, .int w)]) hx hb dX5_count_136 hl (k := 2) rfl (nI_1 k) (by decide) rfl (fun ls hl => ?_)
                    refine lv_goto (tgt := 29) hx hb dX5_count_139 (by decide) ?_
                    have eL0 : (.int (isum (fun i => if fitB g i (v 3) (v 4) (v 5) (v 6) = true then cM g nd w i else 0) (k + 1)) : Value) = .int x134 := (by simp [isum_s, cM, bI, c34, n34, c42, c99, c108, n108, e134])
                    exact ih (k + 1) (by omega) (by omega) _ _ hP hD hS ls (by rw [eL0]; exact lv_sub hl [0, 1, 3, 4] rfl)
                  · have n108 := Int32.not_le.mp c108
                    refine lv_aload_n hx hb dX5_count_111 rfl (lv_at hl 3 rfl) ?_
                    refine va_get (D := (dC, dI)) (ci := 5) (v := .ref (a 8)) (C := RX5) (T := TX5) (N := 24) hx hb hts (fun w h => List.mem_cons_of_mem _ (iw_X5 w h)) hown hK hP 0 rfl rfl 9 (by decide) (hts _ (List.mem_cons_of_mem _ fl_X5_turnOut)) (fun _ h9 => h9) rfl dX5_count_112 ?_
                    refine lv_iload_n hx hb dX5_count_115 rfl (lv_at hl 1 rfl) ?_
                    refine wi_ald hx hb hK hP 8 0 rfl rfl (k := k) (by omega) (by decide) dX5_count_116 ?_
                    refine lv_goto (tgt := 134) hx hb dX5_count_117 (by decide) ?_
                    refine lv_iadd hx hb dX5_count_134 ?_
                    refine lv_topi (fun x134 e134 => ?_)
                    refine lv_istore_n (lv' := [(2, .int x134), (4, .int (bI (isM g nd w k))), (3, .int (nI k)), (0, .ref (a 0)), (1, .int w)]) hx hb dX5_count_135 rfl hl (by decide) rfl (fun ls hl => ?_)
                    refine lv_iinc (v := nI (k + 1)) (lv' := [(3, .int (nI (k + 1))), (2, .int x134), (4, .int (bI (isM g nd w k))), (0, .ref (a 0)), (1, .int w)]) hx hb dX5_count_136 hl (k := 2) rfl (nI_1 k) (by decide) rfl (fun ls hl => ?_)
                    refine lv_goto (tgt := 29) hx hb dX5_count_139 (by decide) ?_
                    have eL0 : (.int (isum (fun i => if fitB g i (v 3) (v 4) (v 5) (v 6) = true then cM g nd w i else 0) (k + 1)) : Value) = .int x134 := (by simp [isum_s, cM, bI, c34, n34, c42, c99, c108, n108, e134])
                    exact ih (k + 1) (by omega) (by omega) _ _ hP hD hS ls (by rw [eL0]; exact lv_sub hl [0, 1, 3, 4] rfl)
              refine lv_iload_n hx hb dX5_count_45 rfl (lv_at hl 3 rfl) ?_
              refine lv_if_eq (tgt := 89) hx hb dX5_count_46 (by decide) (fun c46 => ?_) (fun c46 => ?_)
              · refine lv_iconst (v := 1) hx hb dX5_count_89 (by decide) ?_
                refine lv_goto (tgt := 94) hx hb dX5_count_90 (by decide) ?_
                exact jn94 _ (by first | (simp [isM, bI, c34, n34, c42, c46]; done) | exact absurd (c34.symm.trans c42) (by decide) | exact absurd (c34.symm.trans c46) (by decide) | exact absurd (c42.symm.trans c46) (by decide))
              · refine lv_iload_n hx hb dX5_count_49 rfl (lv_at hl 3 rfl) ?_
                refine lv_iconst (v := 1) hx hb dX5_count_50 (by decide) ?_
                refine lv_icmp_ne (tgt := 63) hx hb dX5_count_51 (by decide) (fun c51 => ?_) (fun c51 => ?_)
                · refine lv_iload_n hx hb dX5_count_63 rfl (lv_at hl 3 rfl) ?_
                  refine lv_iconst (v := 2) hx hb dX5_count_64 (by decide) ?_
                  refine lv_icmp_ne (tgt := 76) hx hb dX5_count_65 (by decide) (fun c65 => ?_) (fun c65 => ?_)
                  · refine lv_iload_n hx hb dX5_count_76 rfl (lv_at hl 3 rfl) ?_
                    refine lv_iconst (v := 3) hx hb dX5_count_77 (by decide) ?_
                    refine lv_icmp_ne (tgt := 93) hx hb dX5_count_78 (by decide) (fun c78 => ?_) (fun c78 => ?_)
                    · refine lv_iconst (v := 0) hx hb dX5_count_93 (by decide) ?_
                      exact jn94 _ (by first | (simp [isM, bI, c34, n34, c42, c46, c51, c65, c78]; done) | exact absurd (c34.symm.trans c42) (by decide) | exact absurd (c34.symm.trans c46) (by decide) | exact absurd (c34.symm.trans c51) (by decide) | exact absurd (c34.symm.trans c65) (by decide) | exact absurd (c34.symm.trans c78) (by decide) | exact absurd (c42.symm.trans c46) (by decide) | exact absurd (c42.symm.trans c51) (by decide) | exact absurd (c42.symm.trans c65) (by decide) | exact absurd (c42.symm.trans c78) (by decide) | exact absurd (c46.symm.trans c51) (by decide) | exact absurd (c46.symm.trans c65) (by decide) | exact absurd (c46.symm.trans c78) (by decide) | exact absurd (c51.symm.trans c65) (by decide) | exact absurd (c51.symm.trans c78) (by decide) | exact absurd (c65.symm.trans c78) (by decide))
                    · refine lv_aload_n hx hb dX5_count_81 rfl (lv_at hl 2 rfl) ?_
                      refine lv_iload_n hx hb dX5_count_82 rfl (lv_at hl 0 rfl) ?_
                      refine vp_callSi (W.runV (As := [.int (nI k)]) (rest := []) ⟨hx, hb, hml, hown, hts⟩ (m_isWithout l dC dI cI cZ cJ a (upd v 0 (thI (bI (!(inB w 0 4))) 0 0)) g nd hnd hnd2 k (by omega)) (cwV 1 hts (gd_V ml_X5_X5_isWithout im_X5_isWithout se_X5_isWithout in_X5 kX5_isWithout) rfl rfl rfl (by decide +kernel) ⟨Nat.le_of_ble_eq_true rfl, Nat.le_of_ble_eq_true rfl⟩) ⟨fun _ U g mk q => by obtain ⟨q0, qP, qK⟩ := q; exact ⟨q0, qP, va_K.moved (u := U) (U := U.calling g mk _) (Vm.Alike.refl U.vm) qK⟩, va_recv hK hP (ci := 5) (q0 := 0) rfl rfl, fun U hU hW => ⟨rfl, by rw [hU]; exact hP, va_K.moved hW.alike hK⟩⟩ rfl rfl hl.1 rfl (lv_room (Nat.le_of_ble_eq_true rfl)) dX5_count_83 ⟨Nat.le_of_ble_eq_true rfl, Nat.le_of_ble_eq_true rfl⟩) (fun r83 hr83 => ?_)
                      subst hr83
                      refine lv_if_eq (tgt := 93) hx hb dX5_count_86 (by decide) (fun c86 => ?_) (fun c86 => ?_)
                      · have c86 := bI_0.mp c86
                        refine lv_iconst (v := 0) hx hb dX5_count_93 (by decide) ?_
                        exact jn94 _ (by first | (simp [isM, bI, c34, n34, c42, c46, c51, c65, c78, c86]; done) | exact absurd (c34.symm.trans c42) (by decide) | exact absurd (c34.symm.trans c46) (by decide) | exact absurd (c34.symm.trans c51) (by decide) | exact absurd (c34.symm.trans c65) (by decide) | exact absurd (c34.symm.trans c78) (by decide) | exact absurd (c34.symm.trans c86) (by decide) | exact absurd (c42.symm.trans c46) (by decide) | exact absurd (c42.symm.trans c51) (by decide) | exact absurd (c42.symm.trans c65) (by decide) | exact absurd (c42.symm.trans c78) (by decide) | exact absurd (c42.symm.trans c86) (by decide) | exact absurd (c46.symm.trans c51) (by decide) | exact absurd (c46.symm.trans c65) (by decide) | exact absurd (c46.symm.trans c78) (by decide) | exact absurd (c46.symm.trans c86) (by decide) | exact absurd (c51.symm.trans c65) (by decide) | exact absurd (c51.symm.trans c78) (by decide) | exact absurd (c51.symm.trans c86) (by decide) | exact absurd (c65.symm.trans c78) (by decide) | exact absurd (c65.symm.trans c86) (by decide) | exact absurd (c78.symm.trans c86) (by decide))
                      · have c86 := bI_n0.mp c86
                        refine lv_iconst (v := 1) hx hb dX5_count_89 (by decide) ?_
                        refine lv_goto (tgt := 94) hx hb dX5_count_90 (by decide) ?_
                        exact jn94 _ (by first | (simp [isM, bI, c34, n34, c42, c46, c51, c65, c78, c86]; done) | exact absurd (c34.symm.trans c42) (by decide) | exact absurd (c34.symm.trans c46) (by decide) | exact absurd (c34.symm.trans c51) (by decide) | exact absurd (c34.symm.trans c65) (by decide) | exact absurd (c34.symm.trans c78) (by decide) | exact absurd (c34.symm.trans c86) (by decide) | exact absurd (c42.symm.trans c46) (by decide) | exact absurd (c42.symm.trans c51) (by decide) | exact absurd (c42.symm.trans c65) (by decide) | exact absurd (c42.symm.trans c78) (by decide) | exact absurd (c42.symm.trans c86) (by decide) | exact absurd (c46.symm.trans c51) (by decide) | exact absurd (c46.symm.trans c65) (by decide) | exact absurd (c46.symm.trans c78) (by decide) | exact absurd (c46.symm.trans c86) (by decide) | exact absurd (c51.symm.trans c65) (by decide) | exact absurd (c51.symm.trans c78) (by decide) | exact absurd (c51.symm.trans c86) (by decide) | exact absurd (c65.symm.trans c78) (by decide) | exact absurd (c65.symm.trans c86) (by decide) | exact absurd (c78.symm.trans c86) (by decide))
                  · refine lv_aload_n hx hb dX5_count_68 rfl (lv_at hl 2 rfl) ?_
                    refine lv_iload_n hx hb dX5_count_69 rfl (lv_at hl 0 rfl) ?_
                    refine vp_callSi (W.runV (As := [.int (nI k)]) (rest := []) ⟨hx, hb, hml, hown, hts⟩ (m_isWithin l dC dI cI cZ cJ a (upd v 0 (thI (bI (!(inB w 0 4))) 0 0)) g nd hnd hnd2 k (by omega)) (cwV 1 hts (gd_V ml_X5_X5_isWithin im_X5_isWithin se_X5_isWithin in_X5 kX5_isWithin) rfl rfl rfl (by decide +kernel) ⟨Nat.le_of_ble_eq_true rfl, Nat.le_of_ble_eq_true rfl⟩) ⟨fun _ U g mk q => by obtain ⟨q0, qP, qK⟩ := q; exact ⟨q0, qP, va_K.moved (u := U) (U := U.calling g mk _) (Vm.Alike.refl U.vm) qK⟩, va_recv hK hP (ci := 5) (q0 := 0) rfl rfl, fun U hU hW => ⟨rfl, by rw [hU]; exact hP, va_K.moved hW.alike hK⟩⟩ rfl rfl hl.1 rfl (lv_room (Nat.le_of_ble_eq_true rfl)) dX5_count_70 ⟨Nat.le_of_ble_eq_true rfl, Nat.le_of_ble_eq_true rfl⟩) (fun r70 hr70 => ?_)
                    subst hr70
                    refine lv_if_ne (tgt := 89) hx hb dX5_count_73 (by decide) (fun c73 => ?_) (fun c73 => ?_)
                    · have c73 := bI_n0.mp c73
                      refine lv_iconst (v := 1) hx hb dX5_count_89 (by decide) ?_
                      refine lv_goto (tgt := 94) hx hb dX5_count_90 (by decide) ?_
                      exact jn94 _ (by first | (simp [isM, bI, c34, n34, c42, c46, c51, c65, c73]; done) | exact absurd (c34.symm.trans c42) (by decide) | exact absurd (c34.symm.trans c46) (by decide) | exact absurd (c34.symm.trans c51) (by decide) | exact absurd (c34.symm.trans c65) (by decide) | exact absurd (c34.symm.trans c73) (by decide) | exact absurd (c42.symm.trans c46) (by decide) | exact absurd (c42.symm.trans c51) (by decide) | exact absurd (c42.symm.trans c65) (by decide) | exact absurd (c42.symm.trans c73) (by decide) | exact absurd (c46.symm.trans c51) (by decide) | exact absurd (c46.symm.trans c65) (by decide) | exact absurd (c46.symm.trans c73) (by decide) | exact absurd (c51.symm.trans c65) (by decide) | exact absurd (c51.symm.trans c73) (by decide) | exact absurd (c65.symm.trans c73) (by decide))
                    · have c73 := bI_0.mp c73
                      refine lv_iload_n hx hb dX5_count_76 rfl (lv_at hl 3 rfl) ?_
                      refine lv_iconst (v := 3) hx hb dX5_count_77 (by decide) ?_
                      refine lv_icmp_ne (tgt := 93) hx hb dX5_count_78 (by decide) (fun c78 => ?_) (fun c78 => ?_)
                      · refine lv_iconst (v := 0) hx hb dX5_count_93 (by decide) ?_
                        exact jn94 _ (by first | (simp [isM, bI, c34, n34, c42, c46, c51, c65, c73, c78]; done) | exact absurd (c34.symm.trans c42) (by decide) | exact absurd (c34.symm.trans c46) (by decide) | exact absurd (c34.symm.trans c51) (by decide) | exact absurd (c34.symm.trans c65) (by decide) | exact absurd (c34.symm.trans c73) (by decide) | exact absurd (c34.symm.trans c78) (by decide) | exact absurd (c42.symm.trans c46) (by decide) | exact absurd (c42.symm.trans c51) (by decide) | exact absurd (c42.symm.trans c65) (by decide) | exact absurd (c42.symm.trans c73) (by decide) | exact absurd (c42.symm.trans c78) (by decide) | exact absurd (c46.symm.trans c51) (by decide) | exact absurd (c46.symm.trans c65) (by decide) | exact absurd (c46.symm.trans c73) (by decide) | exact absurd (c46.symm.trans c78) (by decide) | exact absurd (c51.symm.trans c65) (by decide) | exact absurd (c51.symm.trans c73) (by decide) | exact absurd (c51.symm.trans c78) (by decide) | exact absurd (c65.symm.trans c73) (by decide) | exact absurd (c65.symm.trans c78) (by decide) | exact absurd (c73.symm.trans c78) (by decide))
                      · refine lv_aload_n hx hb dX5_count_81 rfl (lv_at hl 2 rfl) ?_
                        refine lv_iload_n hx hb dX5_count_82 rfl (lv_at hl 0 rfl) ?_
                        refine vp_callSi (W.runV (As := [.int (nI k)]) (rest := []) ⟨hx, hb, hml, hown, hts⟩ (m_isWithout l dC dI cI cZ cJ a (upd v 0 (thI (bI (!(inB w 0 4))) 0 0)) g nd hnd hnd2 k (by omega)) (cwV 1 hts (gd_V ml_X5_X5_isWithout im_X5_isWithout se_X5_isWithout in_X5 kX5_isWithout) rfl rfl rfl (by decide +kernel) ⟨Nat.le_of_ble_eq_true rfl, Nat.le_of_ble_eq_true rfl⟩) ⟨fun _ U g mk q => by obtain ⟨q0, qP, qK⟩ := q; exact ⟨q0, qP, va_K.moved (u := U) (U := U.calling g mk _) (Vm.Alike.refl U.vm) qK⟩, va_recv hK hP (ci := 5) (q0 := 0) rfl rfl, fun U hU hW => ⟨rfl, by rw [hU]; exact hP, va_K.moved hW.alike hK⟩⟩ rfl rfl hl.1 rfl (lv_room (Nat.le_of_ble_eq_true rfl)) dX5_count_83 ⟨Nat.le_of_ble_eq_true rfl, Nat.le_of_ble_eq_true rfl⟩) (fun r83 hr83 => ?_)
                        subst hr83
                        refine lv_if_eq (tgt := 93) hx hb dX5_count_86 (by decide) (fun c86 => ?_) (fun c86 => ?_)
                        · have c86 := bI_0.mp c86
                          refine lv_iconst (v := 0) hx hb dX5_count_93 (by decide) ?_
                          exact jn94 _ (by first | (simp [isM, bI, c34, n34, c42, c46, c51, c65, c73, c78, c86]; done) | exact absurd (c34.symm.trans c42) (by decide) | exact absurd (c34.symm.trans c46) (by decide) | exact absurd (c34.symm.trans c51) (by decide) | exact absurd (c34.symm.trans c65) (by decide) | exact absurd (c34.symm.trans c73) (by decide) | exact absurd (c34.symm.trans c78) (by decide) | exact absurd (c42.symm.trans c46) (by decide) | exact absurd (c42.symm.trans c51) (by decide) | exact absurd (c42.symm.trans c65) (by decide) | exact absurd (c42.symm.trans c73) (by decide) | exact absurd (c42.symm.trans c78) (by decide) | exact absurd (c42.symm.trans c86) (by decide) | exact absurd (c46.symm.trans c51) (by decide) | exact absurd (c46.symm.trans c65) (by decide) | exact absurd (c46.symm.trans c73) (by decide) | exact absurd (c46.symm.trans c78) (by decide) | exact absurd (c46.symm.trans c86) (by decide) | exact absurd (c51.symm.trans c65) (by decide) | exact absurd (c51.symm.trans c73) (by decide) | exact absurd (c51.symm.trans c78) (by decide) | exact absurd (c51.symm.trans c86) (by decide) | exact absurd (c65.symm.trans c73) (by decide) | exact absurd (c65.symm.trans c78) (by decide) | exact absurd (c65.symm.trans c86) (by decide) | exact absurd (c73.symm.trans c78) (by decide) | exact absurd (c73.symm.trans c86) (by decide) | exact absurd (c78.symm.trans c86) (by decide))
                        · have c86 := bI_n0.mp c86
                          refine lv_iconst (v := 1) hx hb dX5_count_89 (by decide) ?_
                          refine lv_goto (tgt := 94) hx hb dX5_count_90 (by decide) ?_
                          exact jn94 _ (by first | (simp [isM, bI, c34, n34, c42, c46, c51, c65, c73, c78, c86]; done) | exact absurd (c34.symm.trans c42) (by decide) | exact absurd (c34.symm.trans c46) (by decide) | exact absurd (c34.symm.trans c51) (by decide) | exact absurd (c34.symm.trans c65) (by decide) | exact absurd (c34.symm.trans c73) (by decide) | exact absurd (c34.symm.trans c78) (by decide) | exact absurd (c42.symm.trans c46) (by decide) | exact absurd (c42.symm.trans c51) (by decide) | exact absurd (c42.symm.trans c65) (by decide) | exact absurd (c42.symm.trans c73) (by decide) | exact absurd (c42.symm.trans c78) (by decide) | exact absurd (c42.symm.trans c86) (by decide) | exact absurd (c46.symm.trans c51) (by decide) | exact absurd (c46.symm.trans c65) (by decide) | exact absurd (c46.symm.trans c73) (by decide) | exact absurd (c46.symm.trans c78) (by decide) | exact absurd (c46.symm.trans c86) (by decide) | exact absurd (c51.symm.trans c65) (by decide) | exact absurd (c51.symm.trans c73) (by decide) | exact absurd (c51.symm.trans c78) (by decide) | exact absurd (c51.symm.trans c86) (by decide) | exact absurd (c65.symm.trans c73) (by decide) | exact absurd (c65.symm.trans c78) (by decide) | exact absurd (c65.symm.trans c86) (by decide) | exact absurd (c73.symm.trans c78) (by decide) | exact absurd (c73.symm.trans c86) (by decide) | exact absurd (c78.symm.trans c86) (by decide))
                · refine lv_aload_n hx hb dX5_count_54 rfl (lv_at hl 2 rfl) ?_
                  refine va_get (D := (dC, dI)) (ci := 5) (v := .ref (a 6)) (C := RX5) (T := TX5) (N := 24) hx hb hts (fun w h => List.mem_cons_of_mem _ (iw_X5 w h)) hown hK hP 0 rfl rfl 7 (by decide) (hts _ (List.mem_cons_of_mem _ fl_X5_wrong)) (fun _ h9 => h9) rfl dX5_count_55 ?_
                  refine lv_iload_n hx hb dX5_count_58 rfl (lv_at hl 0 rfl) ?_
                  refine wz_ald hx hb hK hP 6 1 rfl rfl (k := k) (by omega) (by decide) dX5_count_59 ?_
                  refine lv_if_ne (tgt := 89) hx hb dX5_count_60 (by decide) (fun c60 => ?_) (fun c60 => ?_)
                  · refine lv_iconst (v := 1) hx hb dX5_count_89 (by decide) ?_
                    refine lv_goto (tgt := 94) hx hb dX5_count_90 (by decide) ?_
                    exact jn94 _ (by first | (simp [isM, bI, c34, n34, c42, c46, c51, c60]; done) | exact absurd (c34.symm.trans c42) (by decide) | exact absurd (c34.symm.trans c46) (by decide) | exact absurd (c34.symm.trans c51) (by decide) | exact absurd (c34.symm.trans c60) (by decide) | exact absurd (c42.symm.trans c46) (by decide) | exact absurd (c42.symm.trans c51) (by decide) | exact absurd (c42.symm.trans c60) (by decide) | exact absurd (c46.symm.trans c51) (by decide) | exact absurd (c46.symm.trans c60) (by decide) | exact absurd (c51.symm.trans c60) (by decide))
                  · refine lv_iload_n hx hb dX5_count_63 rfl (lv_at hl 3 rfl) ?_
                    refine lv_iconst (v := 2) hx hb dX5_count_64 (by decide) ?_
                    refine lv_icmp_ne (tgt := 76) hx hb dX5_count_65 (by decide) (fun c65 => ?_) (fun c65 => ?_)
                    · refine lv_iload_n hx hb dX5_count_76 rfl (lv_at hl 3 rfl) ?_
                      refine lv_iconst (v := 3) hx hb dX5_count_77 (by decide) ?_
                      refine lv_icmp_ne (tgt := 93) hx hb dX5_count_78 (by decide) (fun c78 => ?_) (fun c78 => ?_)
                      · refine lv_iconst (v := 0) hx hb dX5_count_93 (by decide) ?_
                        exact jn94 _ (by first | (simp [isM, bI, c34, n34, c42, c46, c51, c60, c65, c78]; done) | exact absurd (c34.symm.trans c42) (by decide) | exact absurd (c34.symm.trans c46) (by decide) | exact absurd (c34.symm.trans c51) (by decide) | exact absurd (c34.symm.trans c60) (by decide) | exact absurd (c34.symm.trans c65) (by decide) | exact absurd (c34.symm.trans c78) (by decide) | exact absurd (c42.symm.trans c46) (by decide) | exact absurd (c42.symm.trans c51) (by decide) | exact absurd (c42.symm.trans c60) (by decide) | exact absurd (c42.symm.trans c65) (by decide) | exact absurd (c42.symm.trans c78) (by decide) | exact absurd (c46.symm.trans c51) (by decide) | exact absurd (c46.symm.trans c60) (by decide) | exact absurd (c46.symm.trans c65) (by decide) | exact absurd (c46.symm.trans c78) (by decide) | exact absurd (c51.symm.trans c60) (by decide) | exact absurd (c51.symm.trans c65) (by decide) | exact absurd (c51.symm.trans c78) (by decide) | exact absurd (c60.symm.trans c65) (by decide) | exact absurd (c60.symm.trans c78) (by decide) | exact absurd (c65.symm.trans c78) (by decide))
                      · refine lv_aload_n hx hb dX5_count_81 rfl (lv_at hl 2 rfl) ?_
                        refine lv_iload_n hx hb dX5_count_82 rfl (lv_at hl 0 rfl) ?_
                        refine vp_callSi (W.runV (As := [.int (nI k)]) (rest := []) ⟨hx, hb, hml, hown, hts⟩ (m_isWithout l dC dI cI cZ cJ a (upd v 0 (thI (bI (!(inB w 0 4))) 0 0)) g nd hnd hnd2 k (by omega)) (cwV 1 hts (gd_V ml_X5_X5_isWithout im_X5_isWithout se_X5_isWithout in_X5 kX5_isWithout) rfl rfl rfl (by decide +kernel) ⟨Nat.le_of_ble_eq_true rfl, Nat.le_of_ble_eq_true rfl⟩) ⟨fun _ U g mk q => by obtain ⟨q0, qP, qK⟩ := q; exact ⟨q0, qP, va_K.moved (u := U) (U := U.calling g mk _) (Vm.Alike.refl U.vm) qK⟩, va_recv hK hP (ci := 5) (q0 := 0) rfl rfl, fun U hU hW => ⟨rfl, by rw [hU]; exact hP, va_K.moved hW.alike hK⟩⟩ rfl rfl hl.1 rfl (lv_room (Nat.le_of_ble_eq_true rfl)) dX5_count_83 ⟨Nat.le_of_ble_eq_true rfl, Nat.le_of_ble_eq_true rfl⟩) (fun r83 hr83 => ?_)
                        subst hr83
                        refine lv_if_eq (tgt := 93) hx hb dX5_count_86 (by decide) (fun c86 => ?_) (fun c86 => ?_)
                        · have c86 := bI_0.mp c86
                          refine lv_iconst (v := 0) hx hb dX5_count_93 (by decide) ?_
                          exact jn94 _ (by first | (simp [isM, bI, c34, n34, c42, c46, c51, c60, c65, c78, c86]; done) | exact absurd (c34.symm.trans c42) (by decide) | exact absurd (c34.symm.trans c46) (by decide) | exact absurd (c34.symm.trans c51) (by decide) | exact absurd (c34.symm.trans c60) (by decide) | exact absurd (c34.symm.trans c65) (by decide) | exact absurd (c34.symm.trans c78) (by decide) | exact absurd (c42.symm.trans c46) (by decide) | exact absurd (c42.symm.trans c51) (by decide) | exact absurd (c42.symm.trans c60) (by decide) | exact absurd (c42.symm.trans c65) (by decide) | exact absurd (c42.symm.trans c78) (by decide) | exact absurd (c42.symm.trans c86) (by decide) | exact absurd (c46.symm.trans c51) (by decide) | exact absurd (c46.symm.trans c60) (by decide) | exact absurd (c46.symm.trans c65) (by decide) | exact absurd (c46.symm.trans c78) (by decide) | exact absurd (c46.symm.trans c86) (by decide) | exact absurd (c51.symm.trans c60) (by decide) | exact absurd (c51.symm.trans c65) (by decide) | exact absurd (c51.symm.trans c78) (by decide) | exact absurd (c51.symm.trans c86) (by decide) | exact absurd (c60.symm.trans c65) (by decide) | exact absurd (c60.symm.trans c78) (by decide) | exact absurd (c60.symm.trans c86) (by decide) | exact absurd (c65.symm.trans c78) (by decide) | exact absurd (c65.symm.trans c86) (by decide) | exact absurd (c78.symm.trans c86) (by decide))
                        · have c86 := bI_n0.mp c86
                          refine lv_iconst (v := 1) hx hb dX5_count_89 (by decide) ?_
                          refine lv_goto (tgt := 94) hx hb dX5_count_90 (by decide) ?_
                          exact jn94 _ (by first | (simp [isM, bI, c34, n34, c42, c46, c51, c60, c65, c78, c86]; done) | exact absurd (c34.symm.trans c42) (by decide) | exact absurd (c34.symm.trans c46) (by decide) | exact absurd (c34.symm.trans c51) (by decide) | exact absurd (c34.symm.trans c60) (by decide) | exact absurd (c34.symm.trans c65) (by decide) | exact absurd (c34.symm.trans c78) (by decide) | exact absurd (c42.symm.trans c46) (by decide) | exact absurd (c42.symm.trans c51) (by decide) | exact absurd (c42.symm.trans c60) (by decide) | exact absurd (c42.symm.trans c65) (by decide) | exact absurd (c42.symm.trans c78) (by decide) | exact absurd (c42.symm.trans c86) (by decide) | exact absurd (c46.symm.trans c51) (by decide) | exact absurd (c46.symm.trans c60) (by decide) | exact absurd (c46.symm.trans c65) (by decide) | exact absurd (c46.symm.trans c78) (by decide) | exact absurd (c46.symm.trans c86) (by decide) | exact absurd (c51.symm.trans c60) (by decide) | exact absurd (c51.symm.trans c65) (by decide) | exact absurd (c51.symm.trans c78) (by decide) | exact absurd (c51.symm.trans c86) (by decide) | exact absurd (c60.symm.trans c65) (by decide) | exact absurd (c60.symm.trans c78) (by decide) | exact absurd (c60.symm.trans c86) (by decide) | exact absurd (c65.symm.trans c78) (by decide) | exact absurd (c65.symm.trans c86) (by decide) | exact absurd (c78.symm.trans c86) (by decide))
                    · refine lv_aload_n hx hb dX5_count_68 rfl (lv_at hl 2 rfl) ?_
                      refine lv_iload_n hx hb dX5_count_69 rfl (lv_at hl 0 rfl) ?_
                      refine vp_callSi (W.runV (As := [.int (nI k)]) (rest := []) ⟨hx, hb, hml, hown, hts⟩ (m_isWithin l dC dI cI cZ cJ a (upd v 0 (thI (bI (!(inB w 0 4))) 0 0)) g nd hnd hnd2 k (by omega)) (cwV 1 hts (gd_V ml_X5_X5_isWithin im_X5_isWithin se_X5_isWithin in_X5 kX5_isWithin) rfl rfl rfl (by decide +kernel) ⟨Nat.le_of_ble_eq_true rfl, Nat.le_of_ble_eq_true rfl⟩) ⟨fun _ U g mk q => by obtain ⟨q0, qP, qK⟩ := q; exact ⟨q0, qP, va_K.moved (u := U) (U := U.calling g mk _) (Vm.Alike.refl U.vm) qK⟩, va_recv hK hP (ci := 5) (q0 := 0) rfl rfl, fun U hU hW => ⟨rfl, by rw [hU]; exact hP, va_K.moved hW.alike hK⟩⟩ rfl rfl hl.1 rfl (lv_room (Nat.le_of_ble_eq_true rfl)) dX5_count_70 ⟨Nat.le_of_ble_eq_true rfl, Nat.le_of_ble_eq_true rfl⟩) (fun r70 hr70 => ?_)
                      subst hr70
                      refine lv_if_ne (tgt := 89) hx hb dX5_count_73 (by decide) (fun c73 => ?_) (fun c73 => ?_)
                      · have c73 := bI_n0.mp c73
                        refine lv_iconst (v := 1) hx hb dX5_count_89 (by decide) ?_
                        refine lv_goto (tgt := 94) hx hb dX5_count_90 (by decide) ?_
                        exact jn94 _ (by first | (simp [isM, bI, c34, n34, c42, c46, c51, c60, c65, c73]; done) | exact absurd (c34.symm.trans c42) (by decide) | exact absurd (c34.symm.trans c46) (by decide) | exact absurd (c34.symm.trans c51) (by decide) | exact absurd (c34.symm.trans c60) (by decide) | exact absurd (c34.symm.trans c65) (by decide) | exact absurd (c34.symm.trans c73) (by decide) | exact absurd (c42.symm.trans c46) (by decide) | exact absurd (c42.symm.trans c51) (by decide) | exact absurd (c42.symm.trans c60) (by decide) | exact absurd (c42.symm.trans c65) (by decide) | exact absurd (c42.symm.trans c73) (by decide) | exact absurd (c46.symm.trans c51) (by decide) | exact absurd (c46.symm.trans c60) (by decide) | exact absurd (c46.symm.trans c65) (by decide) | exact absurd (c46.symm.trans c73) (by decide) | exact absurd (c51.symm.trans c60) (by decide) | exact absurd (c51.symm.trans c65) (by decide) | exact absurd (c51.symm.trans c73) (by decide) | exact absurd (c60.symm.trans c65) (by decide) | exact absurd (c60.symm.trans c73) (by decide) | exact absurd (c65.symm.trans c73) (by decide))
                      · have c73 := bI_0.mp c73
                        refine lv_iload_n hx hb dX5_count_76 rfl (lv_at hl 3 rfl) ?_
                        refine lv_iconst (v := 3) hx hb dX5_count_77 (by decide) ?_
                        refine lv_icmp_ne (tgt := 93) hx hb dX5_count_78 (by decide) (fun c78 => ?_) (fun c78 => ?_)
                        · refine lv_iconst (v := 0) hx hb dX5_count_93 (by decide) ?_
                          exact jn94 _ (by first | (simp [isM, bI, c34, n34, c42, c46, c51, c60, c65, c73, c78]; done) | exact absurd (c34.symm.trans c42) (by decide) | exact absurd (c34.symm.trans c46) (by decide) | exact absurd (c34.symm.trans c51) (by decide) | exact absurd (c34.symm.trans c60) (by decide) | exact absurd (c34.symm.trans c65) (by decide) | exact absurd (c34.symm.trans c73) (by decide) | exact absurd (c42.symm.trans c46) (by decide) | exact absurd (c42.symm.trans c51) (by decide) | exact absurd (c42.symm.trans c60) (by decide) | exact absurd (c42.symm.trans c65) (by decide) | exact absurd (c42.symm.trans c73) (by decide) | exact absurd (c42.symm.trans c78) (by decide) | exact absurd (c46.symm.trans c51) (by decide) | exact absurd (c46.symm.trans c60) (by decide) | exact absurd (c46.symm.trans c65) (by decide) | exact absurd (c46.symm.trans c73) (by decide) | exact absurd (c46.symm.trans c78) (by decide) | exact absurd (c51.symm.trans c60) (by decide) | exact absurd (c51.symm.trans c65) (by decide) | exact absurd (c51.symm.trans c73) (by decide) | exact absurd (c51.symm.trans c78) (by decide) | exact absurd (c60.symm.trans c65) (by decide) | exact absurd (c60.symm.trans c73) (by decide) | exact absurd (c60.symm.trans c78) (by decide) | exact absurd (c65.symm.trans c73) (by decide) | exact absurd (c65.symm.trans c78) (by decide) | exact absurd (c73.symm.trans c78) (by decide))
                        · refine lv_aload_n hx hb dX5_count_81 rfl (lv_at hl 2 rfl) ?_
                          refine lv_iload_n hx hb dX5_count_82 rfl (lv_at hl 0 rfl) ?_
                          refine vp_callSi (W.runV (As := [.int (nI k)]) (rest := []) ⟨hx, hb, hml, hown, hts⟩ (m_isWithout l dC dI cI cZ cJ a (upd v 0 (thI (bI (!(inB w 0 4))) 0 0)) g nd hnd hnd2 k (by omega)) (cwV 1 hts (gd_V ml_X5_X5_isWithout im_X5_isWithout se_X5_isWithout in_X5 kX5_isWithout) rfl rfl rfl (by decide +kernel) ⟨Nat.le_of_ble_eq_true rfl, Nat.le_of_ble_eq_true rfl⟩) ⟨fun _ U g mk q => by obtain ⟨q0, qP, qK⟩ := q; exact ⟨q0, qP, va_K.moved (u := U) (U := U.calling g mk _) (Vm.Alike.refl U.vm) qK⟩, va_recv hK hP (ci := 5) (q0 := 0) rfl rfl, fun U hU hW => ⟨rfl, by rw [hU]; exact hP, va_K.moved hW.alike hK⟩⟩ rfl rfl hl.1 rfl (lv_room (Nat.le_of_ble_eq_true rfl)) dX5_count_83 ⟨Nat.le_of_ble_eq_true rfl, Nat.le_of_ble_eq_true rfl⟩) (fun r83 hr83 => ?_)
                          subst hr83
                          refine lv_if_eq (tgt := 93) hx hb dX5_count_86 (by decide) (fun c86 => ?_) (fun c86 => ?_)
                          · have c86 := bI_0.mp c86
                            refine lv_iconst (v := 0) hx hb dX5_count_93 (by decide) ?_
                            exact jn94 _ (by first | (simp [isM, bI, c34, n34, c42, c46, c51, c60, c65, c73, c78, c86]; done) | exact absurd (c34.symm.trans c42) (by decide) | exact absurd (c34.symm.trans c46) (by decide) | exact absurd (c34.symm.trans c51) (by decide) | exact absurd (c34.symm.trans c60) (by decide) | exact absurd (c34.symm.trans c65) (by decide) | exact absurd (c34.symm.trans c73) (by decide) | exact absurd (c42.symm.trans c46) (by decide) | exact absurd (c42.symm.trans c51) (by decide) | exact absurd (c42.symm.trans c60) (by decide) | exact absurd (c42.symm.trans c65) (by decide) | exact absurd (c42.symm.trans c73) (by decide) | exact absurd (c42.symm.trans c78) (by decide) | exact absurd (c46.symm.trans c51) (by decide) | exact absurd (c46.symm.trans c60) (by decide) | exact absurd (c46.symm.trans c65) (by decide) | exact absurd (c46.symm.trans c73) (by decide) | exact absurd (c46.symm.trans c78) (by decide) | exact absurd (c46.symm.trans c86) (by decide) | exact absurd (c51.symm.trans c60) (by decide) | exact absurd (c51.symm.trans c65) (by decide) | exact absurd (c51.symm.trans c73) (by decide) | exact absurd (c51.symm.trans c78) (by decide) | exact absurd (c51.symm.trans c86) (by decide) | exact absurd (c60.symm.trans c65) (by decide) | exact absurd (c60.symm.trans c73) (by decide) | exact absurd (c60.symm.trans c78) (by decide) | exact absurd (c60.symm.trans c86) (by decide) | exact absurd (c65.symm.trans c73) (by decide) | exact absurd (c65.symm.trans c78) (by decide) | exact absurd (c65.symm.trans c86) (by decide) | exact absurd (c73.symm.trans c78) (by decide) | exact absurd (c73.symm.trans c86) (by decide) | exact absurd (c78.symm.trans c86) (by decide))
                          · have c86 := bI_n0.mp c86
                            refine lv_iconst (v := 1) hx hb dX5_count_89 (by decide) ?_
                            refine lv_goto (tgt := 94) hx hb dX5_count_90 (by decide) ?_
                            exact jn94 _ (by first | (simp [isM, bI, c34, n34, c42, c46, c51, c60, c65, c73, c78, c86]; done) | exact absurd (c34.symm.trans c42) (by decide) | exact absurd (c34.symm.trans c46) (by decide) | exact absurd (c34.symm.trans c51) (by decide) | exact absurd (c34.symm.trans c60) (by decide) | exact absurd (c34.symm.trans c65) (by decide) | exact absurd (c34.symm.trans c73) (by decide) | exact absurd (c42.symm.trans c46) (by decide) | exact absurd (c42.symm.trans c51) (by decide) | exact absurd (c42.symm.trans c60) (by decide) | exact absurd (c42.symm.trans c65) (by decide) | exact absurd (c42.symm.trans c73) (by decide) | exact absurd (c42.symm.trans c78) (by decide) | exact absurd (c46.symm.trans c51) (by decide) | exact absurd (c46.symm.trans c60) (by decide) | exact absurd (c46.symm.trans c65) (by decide) | exact absurd (c46.symm.trans c73) (by decide) | exact absurd (c46.symm.trans c78) (by decide) | exact absurd (c46.symm.trans c86) (by decide) | exact absurd (c51.symm.trans c60) (by decide) | exact absurd (c51.symm.trans c65) (by decide) | exact absurd (c51.symm.trans c73) (by decide) | exact absurd (c51.symm.trans c78) (by decide) | exact absurd (c51.symm.trans c86) (by decide) | exact absurd (c60.symm.trans c65) (by decide) | exact absurd (c60.symm.trans c73) (by decide) | exact absurd (c60.symm.trans c78) (by decide) | exact absurd (c60.symm.trans c86) (by decide) | exact absurd (c65.symm.trans c73) (by decide) | exact absurd (c65.symm.trans c78) (by decide) | exact absurd (c65.symm.trans c86) (by decide) | exact absurd (c73.symm.trans c78) (by decide) | exact absurd (c73.symm.trans c86) (by decide) | exact absurd (c78.symm.trans c86) (by decide))
      exact lp (n + 1) 0 (by omega) (by omega) _ _ hP hD hS ls (lv_sub hl [0, 1, 2, 3] rfl)
    · have c20 := bI_n0.mp c20
      refine lv_iconst (v := 0) hx hb dX5_count_23 (by decide) ?_
      exact (W.iret (v := 0) hx hb hr (fun t9 ht hW => ⟨⟨_, ((upd v 0 (thI (bI (!(inB w 0 4))) 0 0)), g), rfl, ⟨(by first | rfl | (simp only [if_pos (of_decide_eq_true c20)]; done) | (simp only [if_pos (of_decide_eq_true c20)]; subst hkn2; rfl)), (by first | rfl | (simp only [if_pos (of_decide_eq_true c20)]; done) | (simp only [if_pos (of_decide_eq_true c20)]; subst hkn2; rfl))⟩, ⟨by rw [ht]; exact hP, va_K.moved hW.alike hK, hD⟩⟩, hS.F ht⟩) hS.2.2 dX5_count_24)
  refine lv_iload_n hx hb dX5_count_1 rfl (lv_at hl 1 rfl) ?_
  refine lv_iconst (v := 0) hx hb dX5_count_2 (by decide) ?_
  refine lv_iconst (v := 4) hx hb dX5_count_3 (by decide) ?_
  refine vp_callSi (W.runS (As := [.int w, .int 0, .int 4]) (rest := [.ref (a 0)]) ⟨hx, hb, hml, hown, hts⟩ (m_in l dC dI cI cZ cJ a v g w 0 4) (cwS 3 hts (gd_S ml_X5_X5_in sm_X5_in in_X5 kX5_in) rfl rfl rfl (by decide +kernel) ⟨Nat.le_of_ble_eq_true rfl, Nat.le_of_ble_eq_true rfl⟩) ⟨fun _ U g mk q => by obtain ⟨q0, qP, qK⟩ := q; exact ⟨q0, qP, va_K.moved (u := U) (U := U.calling g mk _) (Vm.Alike.refl U.vm) qK⟩, fun U hU hW => ⟨rfl, by rw [hU]; exact hP, va_K.moved hW.alike hK⟩⟩ rfl rfl hl.1 rfl (lv_room (Nat.le_of_ble_eq_true rfl)) dX5_count_4 ⟨Nat.le_of_ble_eq_true rfl, Nat.le_of_ble_eq_true rfl⟩) (fun r4 hr4 => ?_)
  subst hr4
  refine lv_if_ne (tgt := 14) hx hb dX5_count_7 (by decide) (fun c7 => ?_) (fun c7 => ?_)
  · have c7 := bI_n0.mp c7
    refine lv_iconst (v := 0) hx hb dX5_count_14 (by decide) ?_
    exact jn15 _ (by first | (simp [isM, bI, c7]; done))
  · have c7 := bI_0.mp c7
    refine lv_iconst (v := 1) hx hb dX5_count_10 (by decide) ?_
    refine lv_goto (tgt := 15) hx hb dX5_count_11 (by decide) ?_
    exact jn15 _ (by first | (simp [isM, bI, c7]; done))
set_option maxHeartbeats 4000000 in
set_option maxRecDepth 100000 in
theorem m_hour (l : Launch) (dC : Nat → ClassId) (dI : Nat → Nat → Nat) (cI cZ cJ : ClassId) (a : Nat → Nat) (v : Nat → Int32) (g : Nat → Nat → Int32) (sz : Nat) (n : Nat) (hn : v 1 = nI n) (hn2 : n ≤ 200) (ho : Int32) : Met l yX5_hour wsX5_hour ({ frames := 3, cells := 0, slots := 0, locals := 68 }) (va_Pc [.ref (a 0), .int ho] (fun U => U.heap.size = sz ∧ va_P (dC, dI) clA (wM cI cZ a v g) U.heap ∧ va_K (dC, dI) clA (tyA cI cZ cJ) U ∧ va_D (fun _ => True) (wM cI cZ a v g))) (va_Qi (fun (r : Int32) (u : StA) => r = (if 0 < thI (bI (!(inB ho 0 23))) 0 0 then 0 else cnt (fun i => fitB g i (v 3) (v 4) (v 5) (v 6) && decide (g 1 i = ho)) n) ∧ u = (upd v 0 (thI (bI (!(inB ho 0 23))) 0 0), g)) (atM dC dI cI cZ cJ a (va_A (wM cI cZ a v g) sz)) (va_A (wM cI cZ a v g) sz))  0 0 (va_A (wM cI cZ a v g) sz) := by
  refine Met.ofW (cc := cX5_hour) (maxL := 4) (ret := (some .int)) (by decide) rfl ?_
  intro p e s m args below meth c s₁ B hml hv
  obtain ⟨rfl, hsz, hP, hK, hD0⟩ := hv
  have hx := B.exec
  have hb := B.bytes
  have hr := B.returns
  have hts := atoms_spec (ws := wsX5_hour) B.pre
  have hown : s.vm.findClass RX5 = some m.cls := findClass_of_methodNamed B.named
  have hlocks := B.notSynchronized
  subst hsz
  have hD := hD0.self (sz := s.heap.size)
  generalize hAe : va_A (wM cI cZ a v g) s.heap.size = A at hD ⊢
  have hA : ∀ q : Nat, s.heap.size ≤ q → A q := fun q h => by rw [← hAe]; exact Or.inr h
  have hS : va_S A s.heap s.heap [] := va_S.rf
  have hP : va_P (dC, dI) clA (wM cI cZ a v g) s.heap := hP
  have hl := lv_entry ([.ref (a 0), .int ho]) (n := 4) (Nat.le_of_ble_eq_true rfl)
  rw [lg_entry_eq]
  generalize (lg_sl ([.ref (a 0), .int ho]) ++ List.replicate (4 - (lg_sl ([.ref (a 0), .int ho])).length) Slot.unset).toArray = ls at hl ⊢
  have hl : lv_has ls 4 [(0, .ref (a 0)), (1, .int ho)] := hl
  refine lv_aload_n hx hb dX5_hour_0 rfl (lv_at hl 0 rfl) ?_
  have jn16 : ∀ xj : Int32, xj = bI (!(inB ho 0 23)) → W p l e (headSpec wsX5_hour ({ frames := 3, cells := 0, slots := 0, locals := 68 })).room s m ([.ref (a 0), .int ho] : List Value).toArray below meth c s.heap [] 0 0 (MQ below (va_Qi (fun (r : Int32) (u : StA) => r = (if 0 < thI (bI (!(inB ho 0 23))) 0 0 then 0 else cnt (fun i => fitB g i (v 3) (v 4) (v 5) (v 6) && decide (g 1 i = ho)) n) ∧ u = (upd v 0 (thI (bI (!(inB ho 0 23))) 0 0), g)) (atM dC dI cI cZ cJ a A) A) ([.ref (a 0), .int ho] : List Value).toArray s 0 0 A) (F0 m 16 ls [(.int xj), .ref (a 0)]) := by
    intro xj ej
    subst ej
    refine lv_iconst (v := 0) hx hb dX5_hour_16 (by decide) ?_
    refine lv_iconst (v := 0) hx hb dX5_hour_17 (by decide) ?_
    have hFc := va_free (wc := (wM cI cZ a v g)) hD hS hA [0, 1, 2, 3, 4, 5, 6, 7, 8, 9, 10, 11, 12, 13, 14, 15, 16] rfl
    refine va_calli (va_runV (As := [.int (bI (!(inB ho 0 23))), .int 0, .int 0]) (rest := []) ⟨hx, hb, hml, hown, hts⟩ (m_throwing l dC dI cI cZ cJ a v g s.heap.size (bI (!(inB ho 0 23))) 0 0) (cwV 3 hts (gd_V ml_X5_X5_throwing im_X5_throwing se_X5_throwing in_X5 kX5_throwing) rfl rfl rfl (by decide +kernel) ⟨Nat.le_of_ble_eq_true rfl, Nat.le_of_ble_eq_true rfl⟩) ⟨fun _ U g mk q => by obtain ⟨q0, q1, qP, qK, qD⟩ := q; exact ⟨q0, q1, qP, va_K.moved (u := U) (U := U.calling g mk _) (Vm.Alike.refl U.vm) qK, qD⟩, va_recv hK hP (ci := 5) (q0 := 0) rfl rfl, fun U hU hW => ⟨rfl, by rw [hU], by rw [hU]; exact hP, va_K.moved hW.alike hK, hD.weaken (fun _ _ _ _ => trivial)⟩⟩ rfl rfl hl.1 rfl (lv_room (Nat.le_of_ble_eq_true rfl)) dX5_hour_18 ⟨Nat.le_of_ble_eq_true rfl, Nat.le_of_ble_eq_true rfl⟩) hS (fun q _ h => hFc q h) hFc (fun r18 u9 t9 H1 locs ht hvm hw hB hz1 hk1 hS => ?_)
    obtain ⟨rfl, rfl⟩ := hw
    obtain ⟨hP, hK1, hD1⟩ := hB
    rw [ht] at hP
    have hD := hD1.weaken (fun k q _ h => hFc q.1 h)
    clear hFc hk1 hD1 hK1
    generalize H1 = H at hP hS ⊢
    have hP : va_P (dC, dI) clA (wM cI cZ a (upd v 0 (thI (bI (!(inB ho 0 23))) 0 0)) g) H := hP
    have hD : va_D A (wM cI cZ a (upd v 0 (thI (bI (!(inB ho 0 23))) 0 0)) g) := hD
    refine lv_if_eq (tgt := 26) hx hb dX5_hour_21 (by decide) (fun c21 => ?_) (fun c21 => ?_)
    · have c21 := bI_0.mp c21
      refine lv_iconst (v := 0) hx hb dX5_hour_26 (by decide) ?_
      refine lv_istore_n (lv' := [(2, .int 0), (0, .ref (a 0)), (1, .int ho)]) hx hb dX5_hour_27 rfl hl (by decide) rfl (fun ls hl => ?_)
      refine lv_iconst (v := 0) hx hb dX5_hour_28 (by decide) ?_
      refine lv_istore_n (lv' := [(3, .int 0), (2, .int 0), (0, .ref (a 0)), (1, .int ho)]) hx hb dX5_hour_29 rfl hl (by decide) rfl (fun ls hl => ?_)
      have lp : ∀ (d k : Nat), k ≤ n → n + 1 ≤ k + d → ∀ (H : Heap) (locs : List Loc), va_P (dC, dI) clA (wM cI cZ a (upd v 0 (thI (bI (!(inB ho 0 23))) 0 0)) g) H → va_D A (wM cI cZ a (upd v 0 (thI (bI (!(inB ho 0 23))) 0 0)) g) → va_S A s.heap H locs → ∀ (ls : Array Slot), lv_has ls 4 [(3, .int (nI k)), (2, .int (cnt (fun i => fitB g i (v 3) (v 4) (v 5) (v 6) && decide (g 1 i = ho)) k)), (0, .ref (a 0)), (1, .int ho)] → W p l e (headSpec wsX5_hour ({ frames := 3, cells := 0, slots := 0, locals := 68 })).room s m ([.ref (a 0), .int ho] : List Value).toArray below meth c H locs 0 0 (MQ below (va_Qi (fun (r : Int32) (u : StA) => r = (if 0 < thI (bI (!(inB ho 0 23))) 0 0 then 0 else cnt (fun i => fitB g i (v 3) (v 4) (v 5) (v 6) && decide (g 1 i = ho)) n) ∧ u = (upd v 0 (thI (bI (!(inB ho 0 23))) 0 0), g)) (atM dC dI cI cZ cJ a A) A) ([.ref (a 0), .int ho] : List Value).toArray s 0 0 A) (F0 m 30 ls []) := by
        intro d
        induction d with
        | zero => intro k h1 h2; exact absurd h2 (by omega)
        | succ d ih =>
          intro k hkn hkd H locs hP hD hS ls hl
          refine lv_iload_n hx hb dX5_hour_30 rfl (lv_at hl 0 rfl) ?_
          refine lv_aload_n hx hb dX5_hour_31 rfl (lv_at hl 2 rfl) ?_
          refine va_get (D := (dC, dI)) (ci := 5) (v := .int (v 1)) (C := RX5) (T := TX5) (N := 24) hx hb hts (fun w h => List.mem_cons_of_mem _ (iw_X5 w h)) hown hK hP 0 rfl rfl 1 (by decide) (hts _ (List.mem_cons_of_mem _ fl_X5_rows)) (fun _ h9 => h9) rfl dX5_hour_32 ?_
          refine lv_icmp_ge (tgt := 70) hx hb dX5_hour_35 (by decide) (fun c35 => ?_) (fun c35 => ?_)
          · have n35 := Int32.not_lt.mpr c35
            rw [hn] at c35
            have hkn2 : k = n := Nat.le_antisymm hkn ((nI_leI (by omega) (by omega)).mp c35)
            refine lv_iload_n hx hb dX5_hour_70 rfl (lv_at hl 1 rfl) ?_
            exact (W.iret (v := cnt (fun i => fitB g i (v 3) (v 4) (v 5) (v 6) && decide (g 1 i = ho)) k) hx hb hr (fun t9 ht hW => ⟨⟨_, ((upd v 0 (thI (bI (!(inB ho 0 23))) 0 0)), g), rfl, ⟨(by first | rfl | (simp only [if_neg (of_decide_eq_false c21)]; done) | (simp only [if_neg (of_decide_eq_false c21)]; subst hkn2; rfl)), (by first | rfl | (simp only [if_neg (of_decide_eq_false c21)]; done) | (simp only [if_neg (of_decide_eq_false c21)]; subst hkn2; rfl))⟩, ⟨by rw [ht]; exact hP, va_K.moved hW.alike hK, hD⟩⟩, hS.F ht⟩) hS.2.2 dX5_hour_71)
          · have n35 := Int32.not_le.mp c35
            rw [hn] at c35
            have hk : k < n := Nat.lt_of_not_le (fun h => c35 (nI_le h (by omega)))
            refine lv_iload_n hx hb dX5_hour_38 rfl (lv_at hl 1 rfl) ?_
            refine lv_aload_n hx hb dX5_hour_39 rfl (lv_at hl 2 rfl) ?_
            refine lv_iload_n hx hb dX5_hour_40 rfl (lv_at hl 0 rfl) ?_
            refine vp_callSi (W.runV (As := [.int (nI k)]) (rest := [.int (cnt (fun i => fitB g i (v 3) (v 4) (v 5) (v 6) && decide (g 1 i = ho)) k)]) ⟨hx, hb, hml, hown, hts⟩ (m_isAsked l dC dI cI cZ cJ a (upd v 0 (thI (bI (!(inB ho 0 23))) 0 0)) g k (by omega)) (cwV 1 hts (gd_V ml_X5_X5_isAsked im_X5_isAsked se_X5_isAsked in_X5 kX5_isAsked) rfl rfl rfl (by decide +kernel) ⟨Nat.le_of_ble_eq_true rfl, Nat.le_of_ble_eq_true rfl⟩) ⟨fun _ U g mk q => by obtain ⟨q0, qP, qK⟩ := q; exact ⟨q0, qP, va_K.moved (u := U) (U := U.calling g mk _) (Vm.Alike.refl U.vm) qK⟩, va_recv hK hP (ci := 5) (q0 := 0) rfl rfl, fun U hU hW => ⟨rfl, by rw [hU]; exact hP, va_K.moved hW.alike hK⟩⟩ rfl rfl hl.1 rfl (lv_room (Nat.le_of_ble_eq_true rfl)) dX5_hour_41 ⟨Nat.le_of_ble_eq_true rfl, Nat.le_of_ble_eq_true rfl⟩) (fun r41 hr41 => ?_)
            replace hr41 : r41 = bI (fitB g k (v 3) (v 4) (v 5) (v 6)) := hr41
            subst hr41
            refine lv_if_eq (tgt := 61) hx hb dX5_hour_44 (by decide) (fun c44 => ?_) (fun c44 => ?_)
            · have c44 := bI_0.mp c44
              refine lv_iconst (v := 0) hx hb dX5_hour_61 (by decide) ?_
              refine lv_iadd hx hb dX5_hour_62 ?_
              refine lv_topi (fun x62 e62 => ?_)
              refine lv_istore_n (lv' := [(2, .int x62), (3, .int (nI k)), (0, .ref (a 0)), (1, .int ho)]) hx hb dX5_hour_63 rfl hl (by decide) rfl (fun ls hl => ?_)
              refine lv_iinc (v := nI (k + 1)) (lv' := [(3, .int (nI (k + 1))), (2, .int x62), (0, .ref (a 0)), (1, .int ho)]) hx hb dX5_hour_64 hl (k := 1) rfl (nI_1 k) (by decide) rfl (fun ls hl => ?_)
              refine lv_goto (tgt := 30) hx hb dX5_hour_67 (by decide) ?_
              have eL0 : (.int (cnt (fun i => fitB g i (v 3) (v 4) (v 5) (v 6) && decide (g 1 i = ho)) (k + 1)) : Value) = .int x62 := (by simp [cnt_s, bI, c35, n35, c44, e62])
              exact ih (k + 1) (by omega) (by omega) _ _ hP hD hS ls (by rw [eL0]; exact lv_sub hl [0, 1, 2, 3] rfl)
            · have c44 := bI_n0.mp c44
              refine lv_aload_n hx hb dX5_hour_47 rfl (lv_at hl 2 rfl) ?_
              refine va_get (D := (dC, dI)) (ci := 5) (v := .ref (a 2)) (C := RX5) (T := TX5) (N := 24) hx hb hts (fun w h => List.mem_cons_of_mem _ (iw_X5 w h)) hown hK hP 0 rfl rfl 3 (by decide) (hts _ (List.mem_cons_of_mem _ fl_X5_hour)) (fun _ h9 => h9) rfl dX5_hour_48 ?_
              refine lv_iload_n hx hb dX5_hour_51 rfl (lv_at hl 0 rfl) ?_
              refine wi_ald hx hb hK hP 2 0 rfl rfl (k := k) (by omega) (by decide) dX5_hour_52 ?_
              refine lv_iload_n hx hb dX5_hour_53 rfl (lv_at hl 3 rfl) ?_
              refine lv_icmp_ne (tgt := 61) hx hb dX5_hour_54 (by decide) (fun c54 => ?_) (fun c54 => ?_)
              · refine lv_iconst (v := 0) hx hb dX5_hour_61 (by decide) ?_
                refine lv_iadd hx hb dX5_hour_62 ?_
                refine lv_topi (fun x62 e62 => ?_)
                refine lv_istore_n (lv' := [(2, .int x62), (3, .int (nI k)), (0, .ref (a 0)), (1, .int ho)]) hx hb dX5_hour_63 rfl hl (by decide) rfl (fun ls hl => ?_)
                refine lv_iinc (v := nI (k + 1)) (lv' := [(3, .int (nI (k + 1))), (2, .int x62), (0, .ref (a 0)), (1, .int ho)]) hx hb dX5_hour_64 hl (k := 1) rfl (nI_1 k) (by decide) rfl (fun ls hl => ?_)
                refine lv_goto (tgt := 30) hx hb dX5_hour_67 (by decide) ?_
                have eL0 : (.int (cnt (fun i => fitB g i (v 3) (v 4) (v 5) (v 6) && decide (g 1 i = ho)) (k + 1)) : Value) = .int x62 := (by simp [cnt_s, bI, c35, n35, c44, c54, e62])
                exact ih (k + 1) (by omega) (by omega) _ _ hP hD hS ls (by rw [eL0]; exact lv_sub hl [0, 1, 2, 3] rfl)
              · refine lv_iconst (v := 1) hx hb dX5_hour_57 (by decide) ?_
                refine lv_goto (tgt := 62) hx hb dX5_hour_58 (by decide) ?_
                refine lv_iadd hx hb dX5_hour_62 ?_
                refine lv_topi (fun x62 e62 => ?_)
                refine lv_istore_n (lv' := [(2, .int x62), (3, .int (nI k)), (0, .ref (a 0)), (1, .int ho)]) hx hb dX5_hour_63 rfl hl (by decide) rfl (fun ls hl => ?_)
                refine lv_iinc (v := nI (k + 1)) (lv' := [(3, .int (nI (k + 1))), (2, .int x62), (0, .ref (a 0)), (1, .int ho)]) hx hb dX5_hour_64 hl (k := 1) rfl (nI_1 k) (by decide) rfl (fun ls hl => ?_)
                refine lv_goto (tgt := 30) hx hb dX5_hour_67 (by decide) ?_
                have eL0 : (.int (cnt (fun i => fitB g i (v 3) (v 4) (v 5) (v 6) && decide (g 1 i = ho)) (k + 1)) : Value) = .int x62 := (by simp [cnt_s, bI, c35, n35, c44, c54, e62])
                exact ih (k + 1) (by omega) (by omega) _ _ hP hD hS ls (by rw [eL0]; exact lv_sub hl [0, 1, 2, 3] rfl)
      exact lp (n + 1) 0 (by omega) (by omega) _ _ hP hD hS ls (lv_sub hl [0, 1, 2, 3] rfl)
    · have c21 := bI_n0.mp c21
      refine lv_iconst (v := 0) hx hb dX5_hour_24 (by decide) ?_
      exact (W.iret (v := 0) hx hb hr (fun t9 ht hW => ⟨⟨_, ((upd v 0 (thI (bI (!(inB ho 0 23))) 0 0)), g), rfl, ⟨(by first | rfl | (simp only [if_pos (of_decide_eq_true c21)]; done) | (simp only [if_pos (of_decide_eq_true c21)]; subst hkn2; rfl)), (by first | rfl | (simp only [if_pos (of_decide_eq_true c21)]; done) | (simp only [if_pos (of_decide_eq_true c21)]; subst hkn2; rfl))⟩, ⟨by rw [ht]; exact hP, va_K.moved hW.alike hK, hD⟩⟩, hS.F ht⟩) hS.2.2 dX5_hour_25)
  refine lv_iload_n hx hb dX5_hour_1 rfl (lv_at hl 1 rfl) ?_
  refine lv_iconst (v := 0) hx hb dX5_hour_2 (by decide) ?_
  refine lv_bipush (v := 23) hx hb dX5_hour_3 (by decide) ?_
  refine vp_callSi (W.runS (As := [.int ho, .int 0, .int 23]) (rest := [.ref (a 0)]) ⟨hx, hb, hml, hown, hts⟩ (m_in l dC dI cI cZ cJ a v g ho 0 23) (cwS 3 hts (gd_S ml_X5_X5_in sm_X5_in in_X5 kX5_in) rfl rfl rfl (by decide +kernel) ⟨Nat.le_of_ble_eq_true rfl, Nat.le_of_ble_eq_true rfl⟩) ⟨fun _ U g mk q => by obtain ⟨q0, qP, qK⟩ := q; exact ⟨q0, qP, va_K.moved (u := U) (U := U.calling g mk _) (Vm.Alike.refl U.vm) qK⟩, fun U hU hW => ⟨rfl, by rw [hU]; exact hP, va_K.moved hW.alike hK⟩⟩ rfl rfl hl.1 rfl (lv_room (Nat.le_of_ble_eq_true rfl)) dX5_hour_5 ⟨Nat.le_of_ble_eq_true rfl, Nat.le_of_ble_eq_true rfl⟩) (fun r5 hr5 => ?_)
  subst hr5
  refine lv_if_ne (tgt := 15) hx hb dX5_hour_8 (by decide) (fun c8 => ?_) (fun c8 => ?_)
  · have c8 := bI_n0.mp c8
    refine lv_iconst (v := 0) hx hb dX5_hour_15 (by decide) ?_
    exact jn16 _ (by first | (simp [bI, c8]; done))
  · have c8 := bI_0.mp c8
    refine lv_iconst (v := 1) hx hb dX5_hour_11 (by decide) ?_
    refine lv_goto (tgt := 16) hx hb dX5_hour_12 (by decide) ?_
    exact jn16 _ (by first | (simp [bI, c8]; done))
set_option maxHeartbeats 4000000 in
set_option maxRecDepth 100000 in
theorem m_people (l : Launch) (dC : Nat → ClassId) (dI : Nat → Nat → Nat) (cI cZ cJ : ClassId) (a : Nat → Nat) (v : Nat → Int32) (g : Nat → Nat → Int32) (sz : Nat) (ar x : Int32) : Met l yX5_people wsX5_people ({ frames := 2, cells := 0, slots := 0, locals := 46 }) (va_Pc [.ref (a 0), .int ar, .int x] (fun U => U.heap.size = sz ∧ va_P (dC, dI) clA (wM cI cZ a v g) U.heap ∧ va_K (dC, dI) clA (tyA cI cZ cJ) U ∧ va_D (fun _ => True) (wM cI cZ a v g))) (va_Qv (fun (u : StA) => u = (if 0 < thI (bI (!(inB ar 0 9))) (bI (!(inB x 0 1000000))) 0 then upd v 0 (thI (bI (!(inB ar 0 9))) (bI (!(inB x 0 1000000))) 0) else upd v 0 (thI (bI (!(inB ar 0 9))) (bI (!(inB x 0 1000000))) 0), if 0 < thI (bI (!(inB ar 0 9))) (bI (!(inB x 0 1000000))) 0 then g else (upg g 11 ar.toNatClampNeg x))) (atM dC dI cI cZ cJ a (va_A (wM cI cZ a v g) sz)) (va_A (wM cI cZ a v g) sz))  0 0 (va_A (wM cI cZ a v g) sz) := by
  refine Met.ofW (cc := cX5_people) (maxL := 3) (ret := none) (by decide) rfl ?_
  intro p e s m args below meth c s₁ B hml hv
  obtain ⟨rfl, hsz, hP, hK, hD0⟩ := hv
  have hx := B.exec
  have hb := B.bytes
  have hr := B.returns
  have hts := atoms_spec (ws := wsX5_people) B.pre
  have hown : s.vm.findClass RX5 = some m.cls := findClass_of_methodNamed B.named
  have hlocks := B.notSynchronized
  subst hsz
  have hD := hD0.self (sz := s.heap.size)
  generalize hAe : va_A (wM cI cZ a v g) s.heap.size = A at hD ⊢
  have hA : ∀ q : Nat, s.heap.size ≤ q → A q := fun q h => by rw [← hAe]; exact Or.inr h
  have hS : va_S A s.heap s.heap [] := va_S.rf
  have hP : va_P (dC, dI) clA (wM cI cZ a v g) s.heap := hP
  have hl := lv_entry ([.ref (a 0), .int ar, .int x]) (n := 3) (Nat.le_of_ble_eq_true rfl)
  rw [lg_entry_eq]
  generalize (lg_sl ([.ref (a 0), .int ar, .int x]) ++ List.replicate (3 - (lg_sl ([.ref (a 0), .int ar, .int x])).length) Slot.unset).toArray = ls at hl ⊢
  have hl : lv_has ls 3 [(0, .ref (a 0)), (1, .int ar), (2, .int x)] := hl
  refine lv_aload_n hx hb dX5_people_0 rfl (lv_at hl 0 rfl) ?_
  have jn16 : ∀ xj : Int32, xj = bI (!(inB ar 0 9)) → W p l e (headSpec wsX5_people ({ frames := 2, cells := 0, slots := 0, locals := 46 })).room s m ([.ref (a 0), .int ar, .int x] : List Value).toArray below meth c s.heap [] 0 0 (MQ below (va_Qv (fun (u : StA) => u = (if 0 < thI (bI (!(inB ar 0 9))) (bI (!(inB x 0 1000000))) 0 then upd v 0 (thI (bI (!(inB ar 0 9))) (bI (!(inB x 0 1000000))) 0) else upd v 0 (thI (bI (!(inB ar 0 9))) (bI (!(inB x 0 1000000))) 0), if 0 < thI (bI (!(inB ar 0 9))) (bI (!(inB x 0 1000000))) 0 then g else (upg g 11 ar.toNatClampNeg x))) (atM dC dI cI cZ cJ a A) A) ([.ref (a 0), .int ar, .int x] : List Value).toArray s 0 0 A) (F0 m 16 ls [(.int xj), .ref (a 0)]) := by
    intro xj ej
    subst ej
    have jn31 : ∀ xj : Int32, xj = bI (!(inB x 0 1000000)) → W p l e (headSpec wsX5_people ({ frames := 2, cells := 0, slots := 0, locals := 46 })).room s m ([.ref (a 0), .int ar, .int x] : List Value).toArray below meth c s.heap [] 0 0 (MQ below (va_Qv (fun (u : StA) => u = (if 0 < thI (bI (!(inB ar 0 9))) (bI (!(inB x 0 1000000))) 0 then upd v 0 (thI (bI (!(inB ar 0 9))) (bI (!(inB x 0 1000000))) 0) else upd v 0 (thI (bI (!(inB ar 0 9))) (bI (!(inB x 0 1000000))) 0), if 0 < thI (bI (!(inB ar 0 9))) (bI (!(inB x 0 1000000))) 0 then g else (upg g 11 ar.toNatClampNeg x))) (atM dC dI cI cZ cJ a A) A) ([.ref (a 0), .int ar, .int x] : List Value).toArray s 0 0 A) (F0 m 31 ls [(.int xj), .int (bI (!(inB ar 0 9))), .ref (a 0)]) := by
      intro xj ej
      subst ej
      refine lv_iconst (v := 0) hx hb dX5_people_31 (by decide) ?_
      have hFc := va_free (wc := (wM cI cZ a v g)) hD hS hA [0, 1, 2, 3, 4, 5, 6, 7, 8, 9, 10, 11, 12, 13, 14, 15, 16] rfl
      refine va_calli (va_runV (As := [.int (bI (!(inB ar 0 9))), .int (bI (!(inB x 0 1000000))), .int 0]) (rest := []) ⟨hx, hb, hml, hown, hts⟩ (m_throwing l dC dI cI cZ cJ a v g s.heap.size (bI (!(inB ar 0 9))) (bI (!(inB x 0 1000000))) 0) (cwV 3 hts (gd_V ml_X5_X5_throwing im_X5_throwing se_X5_throwing in_X5 kX5_throwing) rfl rfl rfl (by decide +kernel) ⟨Nat.le_of_ble_eq_true rfl, Nat.le_of_ble_eq_true rfl⟩) ⟨fun _ U g mk q => by obtain ⟨q0, q1, qP, qK, qD⟩ := q; exact ⟨q0, q1, qP, va_K.moved (u := U) (U := U.calling g mk _) (Vm.Alike.refl U.vm) qK, qD⟩, va_recv hK hP (ci := 5) (q0 := 0) rfl rfl, fun U hU hW => ⟨rfl, by rw [hU], by rw [hU]; exact hP, va_K.moved hW.alike hK, hD.weaken (fun _ _ _ _ => trivial)⟩⟩ rfl rfl hl.1 rfl (lv_room (Nat.le_of_ble_eq_true rfl)) dX5_people_32 ⟨Nat.le_of_ble_eq_true rfl, Nat.le_of_ble_eq_true rfl⟩) hS (fun q _ h => hFc q h) hFc (fun r32 u9 t9 H1 locs ht hvm hw hB hz1 hk1 hS => ?_)
      obtain ⟨rfl, rfl⟩ := hw
      obtain ⟨hP, hK1, hD1⟩ := hB
      rw [ht] at hP
      have hD := hD1.weaken (fun k q _ h => hFc q.1 h)
      clear hFc hk1 hD1 hK1
      generalize H1 = H at hP hS ⊢
      have hP : va_P (dC, dI) clA (wM cI cZ a (upd v 0 (thI (bI (!(inB ar 0 9))) (bI (!(inB x 0 1000000))) 0)) g) H := hP
      have hD : va_D A (wM cI cZ a (upd v 0 (thI (bI (!(inB ar 0 9))) (bI (!(inB x 0 1000000))) 0)) g) := hD
      refine lv_if_eq (tgt := 39) hx hb dX5_people_35 (by decide) (fun c35 => ?_) (fun c35 => ?_)
      · have c35 := bI_0.mp c35
        have hkw : ar = nI ar.toNatClampNeg ∧ ar.toNatClampNeg < 10 := by
          have h := (th2 c35).1
          rw [Bool.not_eq_false'] at h
          obtain ⟨k, h1, rfl⟩ := inB_natL (n := 9) (by decide) h
          rw [nI_clamp (by omega)]; exact ⟨rfl, h1⟩
        obtain ⟨hkw, hkw2⟩ := hkw
        refine lv_aload_n hx hb dX5_people_39 rfl (lv_at hl 0 rfl) ?_
        refine va_get (D := (dC, dI)) (ci := 5) (v := .ref (a 12)) (C := RX5) (T := TX5) (N := 24) hx hb hts (fun w h => List.mem_cons_of_mem _ (iw_X5 w h)) hown hK hP 0 rfl rfl 18 (by decide) (hts _ (List.mem_cons_of_mem _ fl_X5_people)) (fun _ h9 => h9) rfl dX5_people_40 ?_
        refine lv_iload_n hx hb dX5_people_43 rfl (lv_at hl 1 rfl) ?_
        refine lv_iload_n hx hb dX5_people_44 rfl (lv_at hl 2 rfl) ?_
        refine wi_astE hx hb hK hP hD hS 12 0 rfl rfl (k := ar.toNatClampNeg) hkw (by omega) (by decide) dX5_people_45 (fun H locs hP hD hS => ?_)
        have hP : va_P (dC, dI) clA (wM cI cZ a (upd v 0 (thI (bI (!(inB ar 0 9))) (bI (!(inB x 0 1000000))) 0)) (upg g 11 ar.toNatClampNeg x)) H := hP
        have hD : va_D A (wM cI cZ a (upd v 0 (thI (bI (!(inB ar 0 9))) (bI (!(inB x 0 1000000))) 0)) (upg g 11 ar.toNatClampNeg x)) := hD
        exact (W.vret hx hb hr (fun t9 ht hW => ⟨⟨((upd v 0 (thI (bI (!(inB ar 0 9))) (bI (!(inB x 0 1000000))) 0)), (upg g 11 ar.toNatClampNeg x)), rfl, (by first | rfl | (simp only [if_neg (of_decide_eq_false c35)]; done) | (simp only [if_neg (of_decide_eq_false c35)])), ⟨by rw [ht]; exact hP, va_K.moved hW.alike hK, hD⟩⟩, hS.F ht⟩) hS.2.2 dX5_people_46)
      · have c35 := bI_n0.mp c35
        exact (W.vret hx hb hr (fun t9 ht hW => ⟨⟨((upd v 0 (thI (bI (!(inB ar 0 9))) (bI (!(inB x 0 1000000))) 0)), g), rfl, (by first | rfl | (simp only [if_pos (of_decide_eq_true c35)]; done) | (simp only [if_pos (of_decide_eq_true c35)])), ⟨by rw [ht]; exact hP, va_K.moved hW.alike hK, hD⟩⟩, hS.F ht⟩) hS.2.2 dX5_people_38)
    refine lv_iload_n hx hb dX5_people_16 rfl (lv_at hl 2 rfl) ?_
    refine lv_iconst (v := 0) hx hb dX5_people_17 (by decide) ?_
    refine lv_ldc (v := 1000000) hx hb hown (hts _ (List.mem_cons_of_mem _ ct_X5_137)) dX5_people_18 ?_
    refine vp_callSi (W.runS (As := [.int x, .int 0, .int 1000000]) (rest := [.int (bI (!(inB ar 0 9))), .ref (a 0)]) ⟨hx, hb, hml, hown, hts⟩ (m_in l dC dI cI cZ cJ a v g x 0 1000000) (cwS 3 hts (gd_S ml_X5_X5_in sm_X5_in in_X5 kX5_in) rfl rfl rfl (by decide +kernel) ⟨Nat.le_of_ble_eq_true rfl, Nat.le_of_ble_eq_true rfl⟩) ⟨fun _ U g mk q => by obtain ⟨q0, qP, qK⟩ := q; exact ⟨q0, qP, va_K.moved (u := U) (U := U.calling g mk _) (Vm.Alike.refl U.vm) qK⟩, fun U hU hW => ⟨rfl, by rw [hU]; exact hP, va_K.moved hW.alike hK⟩⟩ rfl rfl hl.1 rfl (lv_room (Nat.le_of_ble_eq_true rfl)) dX5_people_20 ⟨Nat.le_of_ble_eq_true rfl, Nat.le_of_ble_eq_true rfl⟩) (fun r20 hr20 => ?_)
    subst hr20
    refine lv_if_ne (tgt := 30) hx hb dX5_people_23 (by decide) (fun c23 => ?_) (fun c23 => ?_)
    · have c23 := bI_n0.mp c23
      refine lv_iconst (v := 0) hx hb dX5_people_30 (by decide) ?_
      exact jn31 _ (by first | (simp [bI, c23]; done))
    · have c23 := bI_0.mp c23
      refine lv_iconst (v := 1) hx hb dX5_people_26 (by decide) ?_
      refine lv_goto (tgt := 31) hx hb dX5_people_27 (by decide) ?_
      exact jn31 _ (by first | (simp [bI, c23]; done))
  refine lv_iload_n hx hb dX5_people_1 rfl (lv_at hl 1 rfl) ?_
  refine lv_iconst (v := 0) hx hb dX5_people_2 (by decide) ?_
  refine lv_bipush (v := 9) hx hb dX5_people_3 (by decide) ?_
  refine vp_callSi (W.runS (As := [.int ar, .int 0, .int 9]) (rest := [.ref (a 0)]) ⟨hx, hb, hml, hown, hts⟩ (m_in l dC dI cI cZ cJ a v g ar 0 9) (cwS 3 hts (gd_S ml_X5_X5_in sm_X5_in in_X5 kX5_in) rfl rfl rfl (by decide +kernel) ⟨Nat.le_of_ble_eq_true rfl, Nat.le_of_ble_eq_true rfl⟩) ⟨fun _ U g mk q => by obtain ⟨q0, qP, qK⟩ := q; exact ⟨q0, qP, va_K.moved (u := U) (U := U.calling g mk _) (Vm.Alike.refl U.vm) qK⟩, fun U hU hW => ⟨rfl, by rw [hU]; exact hP, va_K.moved hW.alike hK⟩⟩ rfl rfl hl.1 rfl (lv_room (Nat.le_of_ble_eq_true rfl)) dX5_people_5 ⟨Nat.le_of_ble_eq_true rfl, Nat.le_of_ble_eq_true rfl⟩) (fun r5 hr5 => ?_)
  subst hr5
  refine lv_if_ne (tgt := 15) hx hb dX5_people_8 (by decide) (fun c8 => ?_) (fun c8 => ?_)
  · have c8 := bI_n0.mp c8
    refine lv_iconst (v := 0) hx hb dX5_people_15 (by decide) ?_
    exact jn16 _ (by first | (simp [bI, c8]; done))
  · have c8 := bI_0.mp c8
    refine lv_iconst (v := 1) hx hb dX5_people_11 (by decide) ?_
    refine lv_goto (tgt := 16) hx hb dX5_people_12 (by decide) ?_
    exact jn16 _ (by first | (simp [bI, c8]; done))
set_option maxHeartbeats 4000000 in
set_option maxRecDepth 100000 in
theorem m_least (l : Launch) (dC : Nat → ClassId) (dI : Nat → Nat → Nat) (cI cZ cJ : ClassId) (a : Nat → Nat) (v : Nat → Int32) (g : Nat → Nat → Int32) (sz : Nat) (x : Int32) : Met l yX5_least wsX5_least ({ frames := 2, cells := 0, slots := 0, locals := 46 }) (va_Pc [.ref (a 0), .int x] (fun U => U.heap.size = sz ∧ va_P (dC, dI) clA (wM cI cZ a v g) U.heap ∧ va_K (dC, dI) clA (tyA cI cZ cJ) U ∧ va_D (fun _ => True) (wM cI cZ a v g))) (va_Qv (fun (u : StA) => u = (if 0 < thI (bI (!(inB x 1 100))) 0 0 then upd v 0 (thI (bI (!(inB x 1 100))) 0 0) else upd (upd v 0 (thI (bI (!(inB x 1 100))) 0 0)) 7 x, g)) (atM dC dI cI cZ cJ a (va_A (wM cI cZ a v g) sz)) (va_A (wM cI cZ a v g) sz))  0 0 (va_A (wM cI cZ a v g) sz) := by
  refine Met.ofW (cc := cX5_least) (maxL := 2) (ret := none) (by decide) rfl ?_
  intro p e s m args below meth c s₁ B hml hv
  obtain ⟨rfl, hsz, hP, hK, hD0⟩ := hv
  have hx := B.exec
  have hb := B.bytes
  have hr := B.returns
  have hts := atoms_spec (ws := wsX5_least) B.pre
  have hown : s.vm.findClass RX5 = some m.cls := findClass_of_methodNamed B.named
  have hlocks := B.notSynchronized
  subst hsz
  have hD := hD0.self (sz := s.heap.size)
  generalize hAe : va_A (wM cI cZ a v g) s.heap.size = A at hD ⊢
  have hA : ∀ q : Nat, s.heap.size ≤ q → A q := fun q h => by rw [← hAe]; exact Or.inr h
  have hS : va_S A s.heap s.heap [] := va_S.rf
  have hP : va_P (dC, dI) clA (wM cI cZ a v g) s.heap := hP
  have hl := lv_entry ([.ref (a 0), .int x]) (n := 2) (Nat.le_of_ble_eq_true rfl)
  rw [lg_entry_eq]
  generalize (lg_sl ([.ref (a 0), .int x]) ++ List.replicate (2 - (lg_sl ([.ref (a 0), .int x])).length) Slot.unset).toArray = ls at hl ⊢
  have hl : lv_has ls 2 [(0, .ref (a 0)), (1, .int x)] := hl
  refine lv_aload_n hx hb dX5_least_0 rfl (lv_at hl 0 rfl) ?_
  have jn16 : ∀ xj : Int32, xj = bI (!(inB x 1 100)) → W p l e (headSpec wsX5_least ({ frames := 2, cells := 0, slots := 0, locals := 46 })).room s m ([.ref (a 0), .int x] : List Value).toArray below meth c s.heap [] 0 0 (MQ below (va_Qv (fun (u : StA) => u = (if 0 < thI (bI (!(inB x 1 100))) 0 0 then upd v 0 (thI (bI (!(inB x 1 100))) 0 0) else upd (upd v 0 (thI (bI (!(inB x 1 100))) 0 0)) 7 x, g)) (atM dC dI cI cZ cJ a A) A) ([.ref (a 0), .int x] : List Value).toArray s 0 0 A) (F0 m 16 ls [(.int xj), .ref (a 0)]) := by
    intro xj ej
    subst ej
    refine lv_iconst (v := 0) hx hb dX5_least_16 (by decide) ?_
    refine lv_iconst (v := 0) hx hb dX5_least_17 (by decide) ?_
    have hFc := va_free (wc := (wM cI cZ a v g)) hD hS hA [0, 1, 2, 3, 4, 5, 6, 7, 8, 9, 10, 11, 12, 13, 14, 15, 16] rfl
    refine va_calli (va_runV (As := [.int (bI (!(inB x 1 100))), .int 0, .int 0]) (rest := []) ⟨hx, hb, hml, hown, hts⟩ (m_throwing l dC dI cI cZ cJ a v g s.heap.size (bI (!(inB x 1 100))) 0 0) (cwV 3 hts (gd_V ml_X5_X5_throwing im_X5_throwing se_X5_throwing in_X5 kX5_throwing) rfl rfl rfl (by decide +kernel) ⟨Nat.le_of_ble_eq_true rfl, Nat.le_of_ble_eq_true rfl⟩) ⟨fun _ U g mk q => by obtain ⟨q0, q1, qP, qK, qD⟩ := q; exact ⟨q0, q1, qP, va_K.moved (u := U) (U := U.calling g mk _) (Vm.Alike.refl U.vm) qK, qD⟩, va_recv hK hP (ci := 5) (q0 := 0) rfl rfl, fun U hU hW => ⟨rfl, by rw [hU], by rw [hU]; exact hP, va_K.moved hW.alike hK, hD.weaken (fun _ _ _ _ => trivial)⟩⟩ rfl rfl hl.1 rfl (lv_room (Nat.le_of_ble_eq_true rfl)) dX5_least_18 ⟨Nat.le_of_ble_eq_true rfl, Nat.le_of_ble_eq_true rfl⟩) hS (fun q _ h => hFc q h) hFc (fun r18 u9 t9 H1 locs ht hvm hw hB hz1 hk1 hS => ?_)
    obtain ⟨rfl, rfl⟩ := hw
    obtain ⟨hP, hK1, hD1⟩ := hB
    rw [ht] at hP
    have hD := hD1.weaken (fun k q _ h => hFc q.1 h)
    clear hFc hk1 hD1 hK1
    generalize H1 = H at hP hS ⊢
    have hP : va_P (dC, dI) clA (wM cI cZ a (upd v 0 (thI (bI (!(inB x 1 100))) 0 0)) g) H := hP
    have hD : va_D A (wM cI cZ a (upd v 0 (thI (bI (!(inB x 1 100))) 0 0)) g) := hD
    refine lv_if_eq (tgt := 25) hx hb dX5_least_21 (by decide) (fun c21 => ?_) (fun c21 => ?_)
    · have c21 := bI_0.mp c21
      refine lv_aload_n hx hb dX5_least_25 rfl (lv_at hl 0 rfl) ?_
      refine lv_iload_n hx hb dX5_least_26 rfl (lv_at hl 1 rfl) ?_
      refine va_put (D := (dC, dI)) (ci := 5) (v := .int x) (ty := .int) (C := RX5) (T := TX5) (N := 24) hx hb hts (fun w h => List.mem_cons_of_mem _ (iw_X5 w h)) tyX5 tyX5_ok nmX5 hown hK hP hD hS 0 rfl rfl 19 (by decide) (hts _ (List.mem_cons_of_mem _ fl_X5_least)) (fun _ h9 => h9) rfl (by decide +kernel) rfl rfl (Nat.le_of_ble_eq_true rfl) dX5_least_27 (fun H locs hP hD hS => ?_)
      have hP : va_P (dC, dI) clA (wM cI cZ a (upd (upd v 0 (thI (bI (!(inB x 1 100))) 0 0)) 7 x) g) H := hP
      have hD : va_D A (wM cI cZ a (upd (upd v 0 (thI (bI (!(inB x 1 100))) 0 0)) 7 x) g) := hD
      exact (W.vret hx hb hr (fun t9 ht hW => ⟨⟨((upd (upd v 0 (thI (bI (!(inB x 1 100))) 0 0)) 7 x), g), rfl, (by first | rfl | (simp only [if_neg (of_decide_eq_false c21)]; done) | (simp only [if_neg (of_decide_eq_false c21)])), ⟨by rw [ht]; exact hP, va_K.moved hW.alike hK, hD⟩⟩, hS.F ht⟩) hS.2.2 dX5_least_30)
    · have c21 := bI_n0.mp c21
      exact (W.vret hx hb hr (fun t9 ht hW => ⟨⟨((upd v 0 (thI (bI (!(inB x 1 100))) 0 0)), g), rfl, (by first | rfl | (simp only [if_pos (of_decide_eq_true c21)]; done) | (simp only [if_pos (of_decide_eq_true c21)])), ⟨by rw [ht]; exact hP, va_K.moved hW.alike hK, hD⟩⟩, hS.F ht⟩) hS.2.2 dX5_least_24)
  refine lv_iload_n hx hb dX5_least_1 rfl (lv_at hl 1 rfl) ?_
  refine lv_iconst (v := 1) hx hb dX5_least_2 (by decide) ?_
  refine lv_bipush (v := 100) hx hb dX5_least_3 (by decide) ?_
  refine vp_callSi (W.runS (As := [.int x, .int 1, .int 100]) (rest := [.ref (a 0)]) ⟨hx, hb, hml, hown, hts⟩ (m_in l dC dI cI cZ cJ a v g x 1 100) (cwS 3 hts (gd_S ml_X5_X5_in sm_X5_in in_X5 kX5_in) rfl rfl rfl (by decide +kernel) ⟨Nat.le_of_ble_eq_true rfl, Nat.le_of_ble_eq_true rfl⟩) ⟨fun _ U g mk q => by obtain ⟨q0, qP, qK⟩ := q; exact ⟨q0, qP, va_K.moved (u := U) (U := U.calling g mk _) (Vm.Alike.refl U.vm) qK⟩, fun U hU hW => ⟨rfl, by rw [hU]; exact hP, va_K.moved hW.alike hK⟩⟩ rfl rfl hl.1 rfl (lv_room (Nat.le_of_ble_eq_true rfl)) dX5_least_5 ⟨Nat.le_of_ble_eq_true rfl, Nat.le_of_ble_eq_true rfl⟩) (fun r5 hr5 => ?_)
  subst hr5
  refine lv_if_ne (tgt := 15) hx hb dX5_least_8 (by decide) (fun c8 => ?_) (fun c8 => ?_)
  · have c8 := bI_n0.mp c8
    refine lv_iconst (v := 0) hx hb dX5_least_15 (by decide) ?_
    exact jn16 _ (by first | (simp [bI, c8]; done))
  · have c8 := bI_0.mp c8
    refine lv_iconst (v := 1) hx hb dX5_least_11 (by decide) ?_
    refine lv_goto (tgt := 16) hx hb dX5_least_12 (by decide) ?_
    exact jn16 _ (by first | (simp [bI, c8]; done))
