
/-- how many, as a number -/
def cntN (P : Nat → Bool) : Nat → Nat
  | 0 => 0
  | n + 1 => cntN P n + (if P n = true then 1 else 0)
theorem cnt_nI (P : Nat → Bool) : ∀ n, cnt P n = nI (cntN P n) := by
  intro n
  induction n with
  | zero => rfl
  | succ n ih =>
    rw [cnt, cntN, ih]
    cases P n
    · simp [bI]
    · simp only [bI, if_true]; exact nI_1 _
theorem cntN_le (P : Nat → Bool) : ∀ n, cntN P n ≤ n := by
  intro n
  induction n with
  | zero => exact Nat.le_refl _
  | succ n ih => rw [cntN]; split <;> omega
def wkM (g : Nat → Nat → Int32) (v : Nat → Int32) (st w : Int32) (k : Nat) : Int32 := if fitB g k (v 3) (v 4) (-1) (-1) = true ∧ g 4 k = st then (if w = 0 then 1 else kM g k) else 0
/-- days behind the first with another mark -/
def spM (g : Nat → Nat → Int32) (nd : Nat) (f : Nat) (k : Nat) : Int32 := cnt (fun i => decide (¬ mkM g nd (nI (f + 1 + i)) = mkM g nd (nI (f + 1 + i) - 1))) k

set_option maxHeartbeats 4000000 in
set_option maxRecDepth 100000 in
theorem m_common (l : Launch) (dC : Nat → ClassId) (dI : Nat → Nat → Nat) (cI cZ cJ : ClassId) (a : Nat → Nat) (v : Nat → Int32) (g : Nat → Nat → Int32) (x y : Int32) (p0 q0 : Nat) (hx1 : x = nI p0) (hy1 : y = nI q0) (hp0 : p0 < 2 ^ 31) (hq0 : q0 < 2 ^ 31) : Met l yX5_common wsX5_common ({ frames := 0, cells := 0, slots := 0, locals := 0 }) (va_Pc [.int x, .int y] (fun U => va_P (dC, dI) clA (wM cI cZ a v g) U.heap ∧ va_K (dC, dI) clA (tyA cI cZ cJ) U)) (vp_Si (fun r => r = nI (Nat.gcd p0 q0))) 0 0 (fun _ => False) := by
  refine Met.ofW (cc := cX5_common) (maxL := 5) (ret := (some .int)) (by decide) rfl ?_
  intro p e s m args below meth c s₁ B hml hv
  obtain ⟨rfl, hP, hK⟩ := hv
  have hx := B.exec
  have hb := B.bytes
  have hr := B.returns
  have hts := atoms_spec (ws := wsX5_common) B.pre
  have hown : s.vm.findClass RX5 = some m.cls := findClass_of_methodNamed B.named
  have hlocks := B.notSynchronized
  have hl := lv_entry ([.int x, .int y]) (n := 5) (Nat.le_of_ble_eq_true rfl)
  rw [lg_entry_eq]
  generalize (lg_sl ([.int x, .int y]) ++ List.replicate (5 - (lg_sl ([.int x, .int y])).length) Slot.unset).toArray = ls at hl ⊢
  have hl : lv_has ls 5 [(0, .int x), (1, .int y)] := hl
  subst hx1
  subst hy1
  refine lv_iload_n hx hb dX5_common_0 rfl (lv_at hl 0 rfl) ?_
  refine lv_istore_n (lv' := [(2, .int (nI p0)), (0, .int (nI p0)), (1, .int (nI q0))]) hx hb dX5_common_1 rfl hl (by decide) rfl (fun ls hl => ?_)
  refine lv_iload_n hx hb dX5_common_2 rfl (lv_at hl 2 rfl) ?_
  refine lv_istore_n (lv' := [(3, .int (nI q0)), (2, .int (nI p0)), (0, .int (nI p0)), (1, .int (nI q0))]) hx hb dX5_common_3 rfl hl (by decide) rfl (fun ls hl => ?_)
  have lp : ∀ (d q pp : Nat), q ≤ d → pp < 2 ^ 31 → q < 2 ^ 31 → Nat.gcd pp q = Nat.gcd p0 q0 → ∀ (ls : Array Slot), lv_has ls 5 [(2, .int (nI pp)), (3, .int (nI q)), (0, .int (nI p0)), (1, .int (nI q0))] → W p l e (headSpec wsX5_common ({ frames := 0, cells := 0, slots := 0, locals := 0 })).room s m ([.int (nI p0), .int (nI q0)] : List Value).toArray below meth c s.heap [] 0 0 (MQ below (vp_Si (fun r => r = nI (Nat.gcd p0 q0))) ([.int (nI p0), .int (nI q0)] : List Value).toArray s 0 0 (fun _ => False)) (F0 m 4 ls []) := by
    intro d
    induction d with
    | zero =>
      intro q pp hd hp hq hg ls hl
      refine lv_iload_n hx hb dX5_common_4 rfl (lv_at hl 1 rfl) ?_
      refine lv_if_le (tgt := 21) hx hb dX5_common_5 (by decide) (fun c5 => ?_) (fun c5 => ?_)
      · refine lv_iload_n hx hb dX5_common_21 rfl (lv_at hl 0 rfl) ?_
        exact W.iret (v := nI pp) hx hb hr (fun t ht hW => ⟨_, rfl, (by rw [← hg, show q = 0 by omega, Nat.gcd_zero_right]), ht⟩) (fun _ h => absurd h List.not_mem_nil) dX5_common_22
      · exact absurd (by rw [show q = 0 by omega]; decide) c5
    | succ d ih =>
      intro q pp hd hp hq hg ls hl
      refine lv_iload_n hx hb dX5_common_4 rfl (lv_at hl 1 rfl) ?_
      refine lv_if_le (tgt := 21) hx hb dX5_common_5 (by decide) (fun c5 => ?_) (fun c5 => ?_)
      · have n5 := Int32.not_lt.mpr c5
        have hq0 : q = 0 := Nat.eq_zero_of_not_pos (fun h => nI_nle h hq c5)
        refine lv_iload_n hx hb dX5_common_21 rfl (lv_at hl 0 rfl) ?_
        exact W.iret (v := nI pp) hx hb hr (fun t ht hW => ⟨_, rfl, (by rw [← hg, hq0, Nat.gcd_zero_right]), ht⟩) (fun _ h => absurd h List.not_mem_nil) dX5_common_22
      · have n5 := Int32.not_le.mp c5
        have hq1 : 0 < q := Nat.pos_of_ne_zero (fun h => c5 (by rw [h]; decide))
        refine lv_iload_n hx hb dX5_common_8 rfl (lv_at hl 0 rfl) ?_
        refine lv_iload_n hx hb dX5_common_9 rfl (lv_at hl 1 rfl) ?_
        refine lv_irem hx hb dX5_common_10 (nI_ne0 hq1 hq) ?_
        rw [pk_rem hp hq1 hq]
        refine lv_istore (lv' := [(4, .int (nI (pp % q))), (2, .int (nI pp)), (3, .int (nI q)), (0, .int (nI p0)), (1, .int (nI q0))]) hx hb dX5_common_11 hl (by decide) rfl (fun ls hl => ?_)
        refine lv_iload_n hx hb dX5_common_13 rfl (lv_at hl 2 rfl) ?_
        refine lv_istore_n (lv' := [(2, .int (nI q)), (4, .int (nI (pp % q))), (3, .int (nI q)), (0, .int (nI p0)), (1, .int (nI q0))]) hx hb dX5_common_14 rfl hl (by decide) rfl (fun ls hl => ?_)
        refine lv_iload hx hb dX5_common_15 (lv_at hl 1 rfl) ?_
        refine lv_istore_n (lv' := [(3, .int (nI (pp % q))), (2, .int (nI q)), (4, .int (nI (pp % q))), (0, .int (nI p0)), (1, .int (nI q0))]) hx hb dX5_common_17 rfl hl (by decide) rfl (fun ls hl => ?_)
        refine lv_goto (tgt := 4) hx hb dX5_common_18 (by decide) ?_
        exact ih (pp % q) q (by have := Nat.mod_lt pp hq1; omega) hq (by have := Nat.mod_lt pp hq1; omega) (by rw [← hg, Nat.gcd_comm pp q, Nat.gcd_rec q pp, Nat.gcd_comm]) ls (lv_sub hl [1, 0, 3, 4] rfl)
  exact lp q0 q0 p0 (Nat.le_refl _) hp0 hq0 rfl ls (lv_sub hl [1, 0, 2, 3] rfl)
set_option maxHeartbeats 4000000 in
set_option maxRecDepth 100000 in
theorem m_share (l : Launch) (dC : Nat → ClassId) (dI : Nat → Nat → Nat) (cI cZ cJ : ClassId) (a : Nat → Nat) (v : Nat → Int32) (g : Nat → Nat → Int32) (sz : Nat) (n : Nat) (hn : v 1 = nI n) (hn2 : n ≤ 200) (nd : Nat) (hnd : v 2 = nI nd) (hnd2 : nd ≤ 6) (w : Int32) : Met l yX5_share wsX5_share ({ frames := 4, cells := 0, slots := 0, locals := 90 }) (va_Pc [.ref (a 0), .int w] (fun U => U.heap.size = sz ∧ va_P (dC, dI) clA (wM cI cZ a v g) U.heap ∧ va_K (dC, dI) clA (tyA cI cZ cJ) U ∧ va_D (fun _ => True) (wM cI cZ a v g))) (va_Qi (fun (r : Int32) (u : StA) => r = (if 0 < thI (bI (!(inB w 0 1))) (bI (decide (cnt (fun i => shM g nd (v 3) (v 4) (v 5) (v 6) 1 i) n = 0))) 0 then 0 else (if w = 0 then cnt (fun i => shM g nd (v 3) (v 4) (v 5) (v 6) 0 i) n else cnt (fun i => shM g nd (v 3) (v 4) (v 5) (v 6) 1 i) n) / nI (Nat.gcd (cntN (fun i => shM g nd (v 3) (v 4) (v 5) (v 6) 0 i) n) (cntN (fun i => shM g nd (v 3) (v 4) (v 5) (v 6) 1 i) n))) ∧ u = (upd v 0 (thI (bI (!(inB w 0 1))) (bI (decide (cnt (fun i => shM g nd (v 3) (v 4) (v 5) (v 6) 1 i) n = 0))) 0), g)) (atM dC dI cI cZ cJ a (va_A (wM cI cZ a v g) sz)) (va_A (wM cI cZ a v g) sz))  0 0 (va_A (wM cI cZ a v g) sz) := by
  refine Met.ofW (cc := cX5_share) (maxL := 4) (ret := (some .int)) (by decide) rfl ?_
  intro p e s m args below meth c s₁ B hml hv
  obtain ⟨rfl, hsz, hP, hK, hD0⟩ := hv
  have hx := B.exec
  have hb := B.bytes
  have hr := B.returns
  have hts := atoms_spec (ws := wsX5_share) B.pre
  have hown : s.vm.findClass RX5 = some m.cls := findClass_of_methodNamed B.named
  have hlocks := B.notSynchronized
  subst hsz
  have hD := hD0.self (sz := s.heap.size)
  generalize hAe : va_A (wM cI cZ a v g) s.heap.size = A at hD ⊢
  have hA : ∀ q : Nat, s.heap.size ≤ q → A q := fun q h => by rw [← hAe]; exact Or.inr h
  have hS : va_S A s.heap s.heap [] := va_S.rf
  have hP : va_P (dC, dI) clA (wM cI cZ a v g) s.heap := hP
  have hl := lv_entry ([.ref (a 0), .int w]) (n := 4) (Nat.le_of_ble_eq_true rfl)
  rw [lg_entry_eq]
  generalize (lg_sl ([.ref (a 0), .int w]) ++ List.replicate (4 - (lg_sl ([.ref (a 0), .int w])).length) Slot.unset).toArray = ls at hl ⊢
  have hl : lv_has ls 4 [(0, .ref (a 0)), (1, .int w)] := hl
  refine lv_aload_n hx hb dX5_share_0 rfl (lv_at hl 0 rfl) ?_
  refine lv_aload_n hx hb dX5_share_1 rfl (lv_at hl 0 rfl) ?_
  refine va_get (D := (dC, dI)) (ci := 5) (v := .int (v 3)) (C := RX5) (T := TX5) (N := 24) hx hb hts (fun w h => List.mem_cons_of_mem _ (iw_X5 w h)) hown hK hP 0 rfl rfl 14 (by decide) (hts _ (List.mem_cons_of_mem _ fl_X5_from)) (fun _ h9 => h9) rfl dX5_share_2 ?_
  refine lv_aload_n hx hb dX5_share_5 rfl (lv_at hl 0 rfl) ?_
  refine va_get (D := (dC, dI)) (ci := 5) (v := .int (v 4)) (C := RX5) (T := TX5) (N := 24) hx hb hts (fun w h => List.mem_cons_of_mem _ (iw_X5 w h)) hown hK hP 0 rfl rfl 15 (by decide) (hts _ (List.mem_cons_of_mem _ fl_X5_to)) (fun _ h9 => h9) rfl dX5_share_6 ?_
  refine lv_iconst (v := 0) hx hb dX5_share_9 (by decide) ?_
  refine vp_callSi (W.runV (As := [.int (v 3), .int (v 4), .int 0]) (rest := []) ⟨hx, hb, hml, hown, hts⟩ (m_sharesOf l dC dI cI cZ cJ a v g n hn hn2 nd hnd hnd2 (v 3) (v 4) 0) (cwV 3 hts (gd_V ml_X5_X5_sharesOf im_X5_sharesOf se_X5_sharesOf in_X5 kX5_sharesOf) rfl rfl rfl (by decide +kernel) ⟨Nat.le_of_ble_eq_true rfl, Nat.le_of_ble_eq_true rfl⟩) ⟨fun _ U g mk q => by obtain ⟨q0, qP, qK⟩ := q; exact ⟨q0, qP, va_K.moved (u := U) (U := U.calling g mk _) (Vm.Alike.refl U.vm) qK⟩, va_recv hK hP (ci := 5) (q0 := 0) rfl rfl, fun U hU hW => ⟨rfl, by rw [hU]; exact hP, va_K.moved hW.alike hK⟩⟩ rfl rfl hl.1 rfl (lv_room (Nat.le_of_ble_eq_true rfl)) dX5_share_10 ⟨Nat.le_of_ble_eq_true rfl, Nat.le_of_ble_eq_true rfl⟩) (fun r10 hr10 => ?_)
  subst hr10
  refine lv_istore_n (lv' := [(2, .int (cnt (fun i => shM g nd (v 3) (v 4) (v 5) (v 6) 0 i) n)), (0, .ref (a 0)), (1, .int w)]) hx hb dX5_share_13 rfl hl (by decide) rfl (fun ls hl => ?_)
  refine lv_aload_n hx hb dX5_share_14 rfl (lv_at hl 1 rfl) ?_
  refine lv_aload_n hx hb dX5_share_15 rfl (lv_at hl 1 rfl) ?_
  refine va_get (D := (dC, dI)) (ci := 5) (v := .int (v 3)) (C := RX5) (T := TX5) (N := 24) hx hb hts (fun w h => List.mem_cons_of_mem _ (iw_X5 w h)) hown hK hP 0 rfl rfl 14 (by decide) (hts _ (List.mem_cons_of_mem _ fl_X5_from)) (fun _ h9 => h9) rfl dX5_share_16 ?_
  refine lv_aload_n hx hb dX5_share_19 rfl (lv_at hl 1 rfl) ?_
  refine va_get (D := (dC, dI)) (ci := 5) (v := .int (v 4)) (C := RX5) (T := TX5) (N := 24) hx hb hts (fun w h => List.mem_cons_of_mem _ (iw_X5 w h)) hown hK hP 0 rfl rfl 15 (by decide) (hts _ (List.mem_cons_of_mem _ fl_X5_to)) (fun _ h9 => h9) rfl dX5_share_20 ?_
  refine lv_iconst (v := 1) hx hb dX5_share_23 (by decide) ?_
  refine vp_callSi (W.runV (As := [.int (v 3), .int (v 4), .int 1]) (rest := []) ⟨hx, hb, hml, hown, hts⟩ (m_sharesOf l dC dI cI cZ cJ a v g n hn hn2 nd hnd hnd2 (v 3) (v 4) 1) (cwV 3 hts (gd_V ml_X5_X5_sharesOf im_X5_sharesOf se_X5_sharesOf in_X5 kX5_sharesOf) rfl rfl rfl (by decide +kernel) ⟨Nat.le_of_ble_eq_true rfl, Nat.le_of_ble_eq_true rfl⟩) ⟨fun _ U g mk q => by obtain ⟨q0, qP, qK⟩ := q; exact ⟨q0, qP, va_K.moved (u := U) (U := U.calling g mk _) (Vm.Alike.refl U.vm) qK⟩, va_recv hK hP (ci := 5) (q0 := 0) rfl rfl, fun U hU hW => ⟨rfl, by rw [hU]; exact hP, va_K.moved hW.alike hK⟩⟩ rfl rfl hl.1 rfl (lv_room (Nat.le_of_ble_eq_true rfl)) dX5_share_24 ⟨Nat.le_of_ble_eq_true rfl, Nat.le_of_ble_eq_true rfl⟩) (fun r24 hr24 => ?_)
  subst hr24
  refine lv_istore_n (lv' := [(3, .int (cnt (fun i => shM g nd (v 3) (v 4) (v 5) (v 6) 1 i) n)), (2, .int (cnt (fun i => shM g nd (v 3) (v 4) (v 5) (v 6) 0 i) n)), (0, .ref (a 0)), (1, .int w)]) hx hb dX5_share_27 rfl hl (by decide) rfl (fun ls hl => ?_)
  refine lv_aload_n hx hb dX5_share_28 rfl (lv_at hl 2 rfl) ?_
  have jn43 : ∀ xj : Int32, xj = bI (!(inB w 0 1)) → W p l e (headSpec wsX5_share ({ frames := 4, cells := 0, slots := 0, locals := 90 })).room s m ([.ref (a 0), .int w] : List Value).toArray below meth c s.heap [] 0 0 (MQ below (va_Qi (fun (r : Int32) (u : StA) => r = (if 0 < thI (bI (!(inB w 0 1))) (bI (decide (cnt (fun i => shM g nd (v 3) (v 4) (v 5) (v 6) 1 i) n = 0))) 0 then 0 else (if w = 0 then cnt (fun i => shM g nd (v 3) (v 4) (v 5) (v 6) 0 i) n else cnt (fun i => shM g nd (v 3) (v 4) (v 5) (v 6) 1 i) n) / nI (Nat.gcd (cntN (fun i => shM g nd (v 3) (v 4) (v 5) (v 6) 0 i) n) (cntN (fun i => shM g nd (v 3) (v 4) (v 5) (v 6) 1 i) n))) ∧ u = (upd v 0 (thI (bI (!(inB w 0 1))) (bI (decide (cnt (fun i => shM g nd (v 3) (v 4) (v 5) (v 6) 1 i) n = 0))) 0), g)) (atM dC dI cI cZ cJ a A) A) ([.ref (a 0), .int w] : List Value).toArray s 0 0 A) (F0 m 43 ls [(.int xj), .ref (a 0)]) := by
    intro xj ej
    subst ej
    have jn52 : ∀ xj : Int32, xj = bI (decide (cnt (fun i => shM g nd (v 3) (v 4) (v 5) (v 6) 1 i) n = 0)) → W p l e (headSpec wsX5_share ({ frames := 4, cells := 0, slots := 0, locals := 90 })).room s m ([.ref (a 0), .int w] : List Value).toArray below meth c s.heap [] 0 0 (MQ below (va_Qi (fun (r : Int32) (u : StA) => r = (if 0 < thI (bI (!(inB w 0 1))) (bI (decide (cnt (fun i => shM g nd (v 3) (v 4) (v 5) (v 6) 1 i) n = 0))) 0 then 0 else (if w = 0 then cnt (fun i => shM g nd (v 3) (v 4) (v 5) (v 6) 0 i) n else cnt (fun i => shM g nd (v 3) (v 4) (v 5) (v 6) 1 i) n) / nI (Nat.gcd (cntN (fun i => shM g nd (v 3) (v 4) (v 5) (v 6) 0 i) n) (cntN (fun i => shM g nd (v 3) (v 4) (v 5) (v 6) 1 i) n))) ∧ u = (upd v 0 (thI (bI (!(inB w 0 1))) (bI (decide (cnt (fun i => shM g nd (v 3) (v 4) (v 5) (v 6) 1 i) n = 0))) 0), g)) (atM dC dI cI cZ cJ a A) A) ([.ref (a 0), .int w] : List Value).toArray s 0 0 A) (F0 m 52 ls [(.int xj), .int (bI (!(inB w 0 1))), .ref (a 0)]) := by
      intro xj ej
      subst ej
      refine lv_iconst (v := 0) hx hb dX5_share_52 (by decide) ?_
      have hFc := va_free (wc := (wM cI cZ a v g)) hD hS hA [0, 1, 2, 3, 4, 5, 6, 7, 8, 9, 10, 11, 12, 13, 14, 15, 16] rfl
      refine va_calli (va_runV (As := [.int (bI (!(inB w 0 1))), .int (bI (decide (cnt (fun i => shM g nd (v 3) (v 4) (v 5) (v 6) 1 i) n = 0))), .int 0]) (rest := []) ⟨hx, hb, hml, hown, hts⟩ (m_throwing l dC dI cI cZ cJ a v g s.heap.size (bI (!(inB w 0 1))) (bI (decide (cnt (fun i => shM g nd (v 3) (v 4) (v 5) (v 6) 1 i) n = 0))) 0) (cwV 3 hts (gd_V ml_X5_X5_throwing im_X5_throwing se_X5_throwing in_X5 kX5_throwing) rfl rfl rfl (by decide +kernel) ⟨Nat.le_of_ble_eq_true rfl, Nat.le_of_ble_eq_true rfl⟩) ⟨fun _ U g mk q => by obtain ⟨q0, q1, qP, qK, qD⟩ := q; exact ⟨q0, q1, qP, va_K.moved (u := U) (U := U.calling g mk _) (Vm.Alike.refl U.vm) qK, qD⟩, va_recv hK hP (ci := 5) (q0 := 0) rfl rfl, fun U hU hW => ⟨rfl, by rw [hU], by rw [hU]; exact hP, va_K.moved hW.alike hK, hD.weaken (fun _ _ _ _ => trivial)⟩⟩ rfl rfl hl.1 rfl (lv_room (Nat.le_of_ble_eq_true rfl)) dX5_share_53 ⟨Nat.le_of_ble_eq_true rfl, Nat.le_of_ble_eq_true rfl⟩) hS (fun q _ h => hFc q h) hFc (fun r53 u9 t9 H1 locs ht hvm hw hB hz1 hk1 hS => ?_)
      obtain ⟨rfl, rfl⟩ := hw
      obtain ⟨hP, hK1, hD1⟩ := hB
      rw [ht] at hP
      have hD := hD1.weaken (fun k q _ h => hFc q.1 h)
      clear hFc hk1 hD1 hK1
      generalize H1 = H at hP hS ⊢
      have hP : va_P (dC, dI) clA (wM cI cZ a (upd v 0 (thI (bI (!(inB w 0 1))) (bI (decide (cnt (fun i => shM g nd (v 3) (v 4) (v 5) (v 6) 1 i) n = 0))) 0)) g) H := hP
      have hD : va_D A (wM cI cZ a (upd v 0 (thI (bI (!(inB w 0 1))) (bI (decide (cnt (fun i => shM g nd (v 3) (v 4) (v 5) (v 6) 1 i) n = 0))) 0)) g) := hD
      refine lv_if_eq (tgt := 61) hx hb dX5_share_56 (by decide) (fun c56 => ?_) (fun c56 => ?_)
      · have c56 := bI_0.mp c56
        refine lv_iload_n hx hb dX5_share_61 rfl (lv_at hl 3 rfl) ?_
        refine lv_if_ne (tgt := 69) hx hb dX5_share_62 (by decide) (fun c62 => ?_) (fun c62 => ?_)
        · refine lv_iload_n hx hb dX5_share_69 rfl (lv_at hl 0 rfl) ?_
          refine lv_iload_n hx hb dX5_share_70 rfl (lv_at hl 1 rfl) ?_
          refine lv_iload_n hx hb dX5_share_71 rfl (lv_at hl 0 rfl) ?_
          refine vp_callSi (W.runS (As := [.int (cnt (fun i => shM g nd (v 3) (v 4) (v 5) (v 6) 0 i) n), .int (cnt (fun i => shM g nd (v 3) (v 4) (v 5) (v 6) 1 i) n)]) (rest := [.int (cnt (fun i => shM g nd (v 3) (v 4) (v 5) (v 6) 1 i) n)]) ⟨hx, hb, hml, hown, hts⟩ (m_common l dC dI cI cZ cJ a (upd v 0 (thI (bI (!(inB w 0 1))) (bI (decide (cnt (fun i => shM g nd (v 3) (v 4) (v 5) (v 6) 1 i) n = 0))) 0)) g (cnt (fun i => shM g nd (v 3) (v 4) (v 5) (v 6) 0 i) n) (cnt (fun i => shM g nd (v 3) (v 4) (v 5) (v 6) 1 i) n) (cntN (fun i => shM g nd ((upd v 0 (thI (bI (!(inB w 0 1))) (bI (decide (cnt (fun i => shM g nd (v 3) (v 4) (v 5) (v 6) 1 i) n = 0))) 0)) 3) ((upd v 0 (thI (bI (!(inB w 0 1))) (bI (decide (cnt (fun i => shM g nd (v 3) (v 4) (v 5) (v 6) 1 i) n = 0))) 0)) 4) ((upd v 0 (thI (bI (!(inB w 0 1))) (bI (decide (cnt (fun i => shM g nd (v 3) (v 4) (v 5) (v 6) 1 i) n = 0))) 0)) 5) ((upd v 0 (thI (bI (!(inB w 0 1))) (bI (decide (cnt (fun i => shM g nd (v 3) (v 4) (v 5) (v 6) 1 i) n = 0))) 0)) 6) 0 i) n) (cntN (fun i => shM g nd ((upd v 0 (thI (bI (!(inB w 0 1))) (bI (decide (cnt (fun i => shM g nd (v 3) (v 4) (v 5) (v 6) 1 i) n = 0))) 0)) 3) ((upd v 0 (thI (bI (!(inB w 0 1))) (bI (decide (cnt (fun i => shM g nd (v 3) (v 4) (v 5) (v 6) 1 i) n = 0))) 0)) 4) ((upd v 0 (thI (bI (!(inB w 0 1))) (bI (decide (cnt (fun i => shM g nd (v 3) (v 4) (v 5) (v 6) 1 i) n = 0))) 0)) 5) ((upd v 0 (thI (bI (!(inB w 0 1))) (bI (decide (cnt (fun i => shM g nd (v 3) (v 4) (v 5) (v 6) 1 i) n = 0))) 0)) 6) 1 i) n) (cnt_nI _ n) (cnt_nI _ n) (Nat.lt_of_le_of_lt (cntN_le _ n) (by omega)) (Nat.lt_of_le_of_lt (cntN_le _ n) (by omega))) (cwS 2 hts (gd_S ml_X5_X5_common sm_X5_common in_X5 kX5_common) rfl rfl rfl (by decide +kernel) ⟨Nat.le_of_ble_eq_true rfl, Nat.le_of_ble_eq_true rfl⟩) ⟨fun _ U g mk q => by obtain ⟨q0, qP, qK⟩ := q; exact ⟨q0, qP, va_K.moved (u := U) (U := U.calling g mk _) (Vm.Alike.refl U.vm) qK⟩, fun U hU hW => ⟨rfl, by rw [hU]; exact hP, va_K.moved hW.alike hK⟩⟩ rfl rfl hl.1 rfl (lv_room (Nat.le_of_ble_eq_true rfl)) dX5_share_72 ⟨Nat.le_of_ble_eq_true rfl, Nat.le_of_ble_eq_true rfl⟩) (fun r72 hr72 => ?_)
          replace hr72 : r72 = nI (Nat.gcd (cntN (fun i => shM g nd (v 3) (v 4) (v 5) (v 6) 0 i) n) (cntN (fun i => shM g nd (v 3) (v 4) (v 5) (v 6) 1 i) n)) := hr72
          subst hr72
          refine lv_idiv hx hb dX5_share_75 (nI_ne0 (Nat.gcd_pos_of_pos_right _ (Nat.pos_of_ne_zero (fun h => of_decide_eq_false (th2 c56).2 (by rw [cnt_nI, h]; rfl)))) (Nat.lt_of_le_of_lt (Nat.gcd_le_right _ (Nat.pos_of_ne_zero (fun h => of_decide_eq_false (th2 c56).2 (by rw [cnt_nI, h]; rfl)))) (Nat.lt_of_le_of_lt (cntN_le _ n) (by omega)))) ?_
          exact (W.iret (v := (cnt (fun i => shM g nd (v 3) (v 4) (v 5) (v 6) 1 i) n) / (nI (Nat.gcd (cntN (fun i => shM g nd (v 3) (v 4) (v 5) (v 6) 0 i) n) (cntN (fun i => shM g nd (v 3) (v 4) (v 5) (v 6) 1 i) n)))) hx hb hr (fun t9 ht hW => ⟨⟨_, ((upd v 0 (thI (bI (!(inB w 0 1))) (bI (decide (cnt (fun i => shM g nd (v 3) (v 4) (v 5) (v 6) 1 i) n = 0))) 0)), g), rfl, ⟨(by first | rfl | (simp only [if_neg (of_decide_eq_false c56)]; done) | (simp only [if_neg (of_decide_eq_false c56)]; simp [c56, c62])), (by first | rfl | (simp only [if_neg (of_decide_eq_false c56)]; done) | (simp only [if_neg (of_decide_eq_false c56)]; simp [c56, c62]))⟩, ⟨by rw [ht]; exact hP, va_K.moved hW.alike hK, hD⟩⟩, hS.F ht⟩) hS.2.2 dX5_share_76)
        · refine lv_iload_n hx hb dX5_share_65 rfl (lv_at hl 1 rfl) ?_
          refine lv_goto (tgt := 70) hx hb dX5_share_66 (by decide) ?_
          refine lv_iload_n hx hb dX5_share_70 rfl (lv_at hl 1 rfl) ?_
          refine lv_iload_n hx hb dX5_share_71 rfl (lv_at hl 0 rfl) ?_
          refine vp_callSi (W.runS (As := [.int (cnt (fun i => shM g nd (v 3) (v 4) (v 5) (v 6) 0 i) n), .int (cnt (fun i => shM g nd (v 3) (v 4) (v 5) (v 6) 1 i) n)]) (rest := [.int (cnt (fun i => shM g nd (v 3) (v 4) (v 5) (v 6) 0 i) n)]) ⟨hx, hb, hml, hown, hts⟩ (m_common l dC dI cI cZ cJ a (upd v 0 (thI (bI (!(inB w 0 1))) (bI (decide (cnt (fun i => shM g nd (v 3) (v 4) (v 5) (v 6) 1 i) n = 0))) 0)) g (cnt (fun i => shM g nd (v 3) (v 4) (v 5) (v 6) 0 i) n) (cnt (fun i => shM g nd (v 3) (v 4) (v 5) (v 6) 1 i) n) (cntN (fun i => shM g nd ((upd v 0 (thI (bI (!(inB w 0 1))) (bI (decide (cnt (fun i => shM g nd (v 3) (v 4) (v 5) (v 6) 1 i) n = 0))) 0)) 3) ((upd v 0 (thI (bI (!(inB w 0 1))) (bI (decide (cnt (fun i => shM g nd (v 3) (v 4) (v 5) (v 6) 1 i) n = 0))) 0)) 4) ((upd v 0 (thI (bI (!(inB w 0 1))) (bI (decide (cnt (fun i => shM g nd (v 3) (v 4) (v 5) (v 6) 1 i) n = 0))) 0)) 5) ((upd v 0 (thI (bI (!(inB w 0 1))) (bI (decide (cnt (fun i => shM g nd (v 3) (v 4) (v 5) (v 6) 1 i) n = 0))) 0)) 6) 0 i) n) (cntN (fun i => shM g nd ((upd v 0 (thI (bI (!(inB w 0 1))) (bI (decide (cnt (fun i => shM g nd (v 3) (v 4) (v 5) (v 6) 1 i) n = 0))) 0)) 3) ((upd v 0 (thI (bI (!(inB w 0 1))) (bI (decide (cnt (fun i => shM g nd (v 3) (v 4) (v 5) (v 6) 1 i) n = 0))) 0)) 4) ((upd v 0 (thI (bI (!(inB w 0 1))) (bI (decide (cnt (fun i => shM g nd (v 3) (v 4) (v 5) (v 6) 1 i) n = 0))) 0)) 5) ((upd v 0 (thI (bI (!(inB w 0 1))) (bI (decide (cnt (fun i => shM g nd (v 3) (v 4) (v 5) (v 6) 1 i) n = 0))) 0)) 6) 1 i) n) (cnt_nI _ n) (cnt_nI _ n) (Nat.lt_of_le_of_lt (cntN_le _ n) (by omega)) (Nat.lt_of_le_of_lt (cntN_le _ n) (by omega))) (cwS 2 hts (gd_S ml_X5_X5_common sm_X5_common in_X5 kX5_common) rfl rfl rfl (by decide +kernel) ⟨Nat.le_of_ble_eq_true rfl, Nat.le_of_ble_eq_true rfl⟩) ⟨fun _ U g mk q => by obtain ⟨q0, qP, qK⟩ := q; exact ⟨q0, qP, va_K.moved (u := U) (U := U.calling g mk _) (Vm.Alike.refl U.vm) qK⟩, fun U hU hW => ⟨rfl, by rw [hU]; exact hP, va_K.moved hW.alike hK⟩⟩ rfl rfl hl.1 rfl (lv_room (Nat.le_of_ble_eq_true rfl)) dX5_share_72 ⟨Nat.le_of_ble_eq_true rfl, Nat.le_of_ble_eq_true rfl⟩) (fun r72 hr72 => ?_)
          replace hr72 : r72 = nI (Nat.gcd (cntN (fun i => shM g nd (v 3) (v 4) (v 5) (v 6) 0 i) n) (cntN (fun i => shM g nd (v 3) (v 4) (v 5) (v 6) 1 i) n)) := hr72
          subst hr72
          refine lv_idiv hx hb dX5_share_75 (nI_ne0 (Nat.gcd_pos_of_pos_right _ (Nat.pos_of_ne_zero (fun h => of_decide_eq_false (th2 c56).2 (by rw [cnt_nI, h]; rfl)))) (Nat.lt_of_le_of_lt (Nat.gcd_le_right _ (Nat.pos_of_ne_zero (fun h => of_decide_eq_false (th2 c56).2 (by rw [cnt_nI, h]; rfl)))) (Nat.lt_of_le_of_lt (cntN_le _ n) (by omega)))) ?_
          exact (W.iret (v := (cnt (fun i => shM g nd (v 3) (v 4) (v 5) (v 6) 0 i) n) / (nI (Nat.gcd (cntN (fun i => shM g nd (v 3) (v 4) (v 5) (v 6) 0 i) n) (cntN (fun i => shM g nd (v 3) (v 4) (v 5) (v 6) 1 i) n)))) hx hb hr (fun t9 ht hW => ⟨⟨_, ((upd v 0 (thI (bI (!(inB w 0 1))) (bI (decide (cnt (fun i => shM g nd (v 3) (v 4) (v 5) (v 6) 1 i) n = 0))) 0)), g), rfl, ⟨(by first | rfl | (simp only [if_neg (of_decide_eq_false c56)]; done) | (simp only [if_neg (of_decide_eq_false c56)]; simp [c56, c62])), (by first | rfl | (simp only [if_neg (of_decide_eq_false c56)]; done) | (simp only [if_neg (of_decide_eq_false c56)]; simp [c56, c62]))⟩, ⟨by rw [ht]; exact hP, va_K.moved hW.alike hK, hD⟩⟩, hS.F ht⟩) hS.2.2 dX5_share_76)
      · have c56 := bI_n0.mp c56
        refine lv_iconst (v := 0) hx hb dX5_share_59 (by decide) ?_
        exact (W.iret (v := 0) hx hb hr (fun t9 ht hW => ⟨⟨_, ((upd v 0 (thI (bI (!(inB w 0 1))) (bI (decide (cnt (fun i => shM g nd (v 3) (v 4) (v 5) (v 6) 1 i) n = 0))) 0)), g), rfl, ⟨(by first | rfl | (simp only [if_pos (of_decide_eq_true c56)]; done) | (simp only [if_pos (of_decide_eq_true c56)]; simp [c56])), (by first | rfl | (simp only [if_pos (of_decide_eq_true c56)]; done) | (simp only [if_pos (of_decide_eq_true c56)]; simp [c56]))⟩, ⟨by rw [ht]; exact hP, va_K.moved hW.alike hK, hD⟩⟩, hS.F ht⟩) hS.2.2 dX5_share_60)
    refine lv_iload_n hx hb dX5_share_43 rfl (lv_at hl 0 rfl) ?_
    refine lv_if_ne (tgt := 51) hx hb dX5_share_44 (by decide) (fun c44 => ?_) (fun c44 => ?_)
    · refine lv_iconst (v := 0) hx hb dX5_share_51 (by decide) ?_
      exact jn52 _ (by first | (simp [bI, c44]; done))
    · refine lv_iconst (v := 1) hx hb dX5_share_47 (by decide) ?_
      refine lv_goto (tgt := 52) hx hb dX5_share_48 (by decide) ?_
      exact jn52 _ (by first | (simp [bI, c44]; done))
  refine lv_iload_n hx hb dX5_share_29 rfl (lv_at hl 3 rfl) ?_
  refine lv_iconst (v := 0) hx hb dX5_share_30 (by decide) ?_
  refine lv_iconst (v := 1) hx hb dX5_share_31 (by decide) ?_
  refine vp_callSi (W.runS (As := [.int w, .int 0, .int 1]) (rest := [.ref (a 0)]) ⟨hx, hb, hml, hown, hts⟩ (m_in l dC dI cI cZ cJ a v g w 0 1) (cwS 3 hts (gd_S ml_X5_X5_in sm_X5_in in_X5 kX5_in) rfl rfl rfl (by decide +kernel) ⟨Nat.le_of_ble_eq_true rfl, Nat.le_of_ble_eq_true rfl⟩) ⟨fun _ U g mk q => by obtain ⟨q0, qP, qK⟩ := q; exact ⟨q0, qP, va_K.moved (u := U) (U := U.calling g mk _) (Vm.Alike.refl U.vm) qK⟩, fun U hU hW => ⟨rfl, by rw [hU]; exact hP, va_K.moved hW.alike hK⟩⟩ rfl rfl hl.1 rfl (lv_room (Nat.le_of_ble_eq_true rfl)) dX5_share_32 ⟨Nat.le_of_ble_eq_true rfl, Nat.le_of_ble_eq_true rfl⟩) (fun r32 hr32 => ?_)
  subst hr32
  refine lv_if_ne (tgt := 42) hx hb dX5_share_35 (by decide) (fun c35 => ?_) (fun c35 => ?_)
  · have c35 := bI_n0.mp c35
    refine lv_iconst (v := 0) hx hb dX5_share_42 (by decide) ?_
    exact jn43 _ (by first | (simp [bI, c35]; done))
  · have c35 := bI_0.mp c35
    refine lv_iconst (v := 1) hx hb dX5_share_38 (by decide) ?_
    refine lv_goto (tgt := 43) hx hb dX5_share_39 (by decide) ?_
    exact jn43 _ (by first | (simp [bI, c35]; done))
def rkM (g : Nat → Nat → Int32) (v : Nat → Int32) (n : Nat) (ar : Int32) (k : Nat) : Int32 := cnt (fun o => decide (cnt (fun i => fitB g i (v 3) (v 4) (v 5) ar) n < cnt (fun i => fitB g i (v 3) (v 4) (v 5) (nI o)) n)) k
set_option maxHeartbeats 4000000 in
set_option maxRecDepth 100000 in
theorem m_rank (l : Launch) (dC : Nat → ClassId) (dI : Nat → Nat → Nat) (cI cZ cJ : ClassId) (a : Nat → Nat) (v : Nat → Int32) (g : Nat → Nat → Int32) (sz : Nat) (n : Nat) (hn : v 1 = nI n) (hn2 : n ≤ 200) (ar : Int32) : Met l yX5_rank wsX5_rank ({ frames := 3, cells := 0, slots := 0, locals := 71 }) (va_Pc [.ref (a 0), .int ar] (fun U => U.heap.size = sz ∧ va_P (dC, dI) clA (wM cI cZ a v g) U.heap ∧ va_K (dC, dI) clA (tyA cI cZ cJ) U ∧ va_D (fun _ => True) (wM cI cZ a v g))) (va_Qi (fun (r : Int32) (u : StA) => r = (if 0 < thI (bI (!(inB ar 0 9))) 0 0 then 0 else 1 + rkM g v n ar n10) ∧ u = (upd v 0 (thI (bI (!(inB ar 0 9))) 0 0), g)) (atM dC dI cI cZ cJ a (va_A (wM cI cZ a v g) sz)) (va_A (wM cI cZ a v g) sz))  0 0 (va_A (wM cI cZ a v g) sz) := by
  refine Met.ofW (cc := cX5_rank) (maxL := 4) (ret := (some .int)) (by decide) rfl ?_
  intro p e s m args below meth c s₁ B hml hv
  obtain ⟨rfl, hsz, hP, hK, hD0⟩ := hv
  have hx := B.exec
  have hb := B.bytes
  have hr := B.returns
  have hts := atoms_spec (ws := wsX5_rank) B.pre
  have hown : s.vm.findClass RX5 = some m.cls := findClass_of_methodNamed B.named
  have hlocks := B.notSynchronized
  subst hsz
  have hD := hD0.self (sz := s.heap.size)
  generalize hAe : va_A (wM cI cZ a v g) s.heap.size = A at hD ⊢
  have hA : ∀ q : Nat, s.heap.size ≤ q → A q := fun q h => by rw [← hAe]; exact Or.inr h
  have hS : va_S A s.heap s.heap [] := va_S.rf
  have hP : va_P (dC, dI) clA (wM cI cZ a v g) s.heap := hP
  have hl := lv_entry ([.ref (a 0), .int ar]) (n := 4) (Nat.le_of_ble_eq_true rfl)
  rw [lg_entry_eq]
  generalize (lg_sl ([.ref (a 0), .int ar]) ++ List.replicate (4 - (lg_sl ([.ref (a 0), .int ar])).length) Slot.unset).toArray = ls at hl ⊢
  have hl : lv_has ls 4 [(0, .ref (a 0)), (1, .int ar)] := hl
  refine lv_aload_n hx hb dX5_rank_0 rfl (lv_at hl 0 rfl) ?_
  have jn16 : ∀ xj : Int32, xj = bI (!(inB ar 0 9)) → W p l e (headSpec wsX5_rank ({ frames := 3, cells := 0, slots := 0, locals := 71 })).room s m ([.ref (a 0), .int ar] : List Value).toArray below meth c s.heap [] 0 0 (MQ below (va_Qi (fun (r : Int32) (u : StA) => r = (if 0 < thI (bI (!(inB ar 0 9))) 0 0 then 0 else 1 + rkM g v n ar n10) ∧ u = (upd v 0 (thI (bI (!(inB ar 0 9))) 0 0), g)) (atM dC dI cI cZ cJ a A) A) ([.ref (a 0), .int ar] : List Value).toArray s 0 0 A) (F0 m 16 ls [(.int xj), .ref (a 0)]) := by
    intro xj ej
    subst ej
    refine lv_iconst (v := 0) hx hb dX5_rank_16 (by decide) ?_
    refine lv_iconst (v := 0) hx hb dX5_rank_17 (by decide) ?_
    have hFc := va_free (wc := (wM cI cZ a v g)) hD hS hA [0, 1, 2, 3, 4, 5, 6, 7, 8, 9, 10, 11, 12, 13, 14, 15, 16] rfl
    refine va_calli (va_runV (As := [.int (bI (!(inB ar 0 9))), .int 0, .int 0]) (rest := []) ⟨hx, hb, hml, hown, hts⟩ (m_throwing l dC dI cI cZ cJ a v g s.heap.size (bI (!(inB ar 0 9))) 0 0) (cwV 3 hts (gd_V ml_X5_X5_throwing im_X5_throwing se_X5_throwing in_X5 kX5_throwing) rfl rfl rfl (by decide +kernel) ⟨Nat.le_of_ble_eq_true rfl, Nat.le_of_ble_eq_true rfl⟩) ⟨fun _ U g mk q => by obtain ⟨q0, q1, qP, qK, qD⟩ := q; exact ⟨q0, q1, qP, va_K.moved (u := U) (U := U.calling g mk _) (Vm.Alike.refl U.vm) qK, qD⟩, va_recv hK hP (ci := 5) (q0 := 0) rfl rfl, fun U hU hW => ⟨rfl, by rw [hU], by rw [hU]; exact hP, va_K.moved hW.alike hK, hD.weaken (fun _ _ _ _ => trivial)⟩⟩ rfl rfl hl.1 rfl (lv_room (Nat.le_of_ble_eq_true rfl)) dX5_rank_18 ⟨Nat.le_of_ble_eq_true rfl, Nat.le_of_ble_eq_true rfl⟩) hS (fun q _ h => hFc q h) hFc (fun r18 u9 t9 H1 locs ht hvm hw hB hz1 hk1 hS => ?_)
    obtain ⟨rfl, rfl⟩ := hw
    obtain ⟨hP, hK1, hD1⟩ := hB
    rw [ht] at hP
    have hD := hD1.weaken (fun k q _ h => hFc q.1 h)
    clear hFc hk1 hD1 hK1
    generalize H1 = H at hP hS ⊢
    have hP : va_P (dC, dI) clA (wM cI cZ a (upd v 0 (thI (bI (!(inB ar 0 9))) 0 0)) g) H := hP
    have hD : va_D A (wM cI cZ a (upd v 0 (thI (bI (!(inB ar 0 9))) 0 0)) g) := hD
    refine lv_if_eq (tgt := 26) hx hb dX5_rank_21 (by decide) (fun c21 => ?_) (fun c21 => ?_)
    · have c21 := bI_0.mp c21
      refine lv_iconst (v := 1) hx hb dX5_rank_26 (by decide) ?_
      refine lv_istore_n (lv' := [(2, .int 1), (0, .ref (a 0)), (1, .int ar)]) hx hb dX5_rank_27 rfl hl (by decide) rfl (fun ls hl => ?_)
      refine lv_iconst (v := 0) hx hb dX5_rank_28 (by decide) ?_
      refine lv_istore_n (lv' := [(3, .int 0), (2, .int 1), (0, .ref (a 0)), (1, .int ar)]) hx hb dX5_rank_29 rfl hl (by decide) rfl (fun ls hl => ?_)
      have lp : ∀ (d k : Nat), k ≤ 10 → 10 + 1 ≤ k + d → ∀ (H : Heap) (locs : List Loc), va_P (dC, dI) clA (wM cI cZ a (upd v 0 (thI (bI (!(inB ar 0 9))) 0 0)) g) H → va_D A (wM cI cZ a (upd v 0 (thI (bI (!(inB ar 0 9))) 0 0)) g) → va_S A s.heap H locs → ∀ (ls : Array Slot), lv_has ls 4 [(3, .int (nI k)), (2, .int (1 + rkM g v n ar k)), (0, .ref (a 0)), (1, .int ar)] → W p l e (headSpec wsX5_rank ({ frames := 3, cells := 0, slots := 0, locals := 71 })).room s m ([.ref (a 0), .int ar] : List Value).toArray below meth c H locs 0 0 (MQ below (va_Qi (fun (r : Int32) (u : StA) => r = (if 0 < thI (bI (!(inB ar 0 9))) 0 0 then 0 else 1 + rkM g v n ar n10) ∧ u = (upd v 0 (thI (bI (!(inB ar 0 9))) 0 0), g)) (atM dC dI cI cZ cJ a A) A) ([.ref (a 0), .int ar] : List Value).toArray s 0 0 A) (F0 m 30 ls []) := by
        intro d
        induction d with
        | zero => intro k h1 h2; exact absurd h2 (by omega)
        | succ d ih =>
          intro k hkn hkd H locs hP hD hS ls hl
          refine lv_iload_n hx hb dX5_rank_30 rfl (lv_at hl 0 rfl) ?_
          refine lv_bipush (v := 10) hx hb dX5_rank_31 (by decide) ?_
          refine lv_icmp_ge (tgt := 71) hx hb dX5_rank_33 (by decide) (fun c33 => ?_) (fun c33 => ?_)
          · have n33 := Int32.not_lt.mpr c33
            have hkn2 : k = 10 := Nat.le_antisymm hkn ((nI_leI (a := 10) (b := k) (by decide) (by omega)).mp c33)
            refine lv_iload_n hx hb dX5_rank_71 rfl (lv_at hl 1 rfl) ?_
            exact (W.iret (v := 1 + rkM g v n ar k) hx hb hr (fun t9 ht hW => ⟨⟨_, ((upd v 0 (thI (bI (!(inB ar 0 9))) 0 0)), g), rfl, ⟨(by first | rfl | (simp only [if_neg (of_decide_eq_false c21)]; done) | (simp only [if_neg (of_decide_eq_false c21)]; rw [n10_eq]; subst hkn2; rfl)), (by first | rfl | (simp only [if_neg (of_decide_eq_false c21)]; done) | (simp only [if_neg (of_decide_eq_false c21)]; rw [n10_eq]; subst hkn2; rfl))⟩, ⟨by rw [ht]; exact hP, va_K.moved hW.alike hK, hD⟩⟩, hS.F ht⟩) hS.2.2 dX5_rank_72)
          · have n33 := Int32.not_le.mp c33
            have hk : k < 10 := Nat.lt_of_not_le (fun h => c33 (nI_le (a := 10) h (by omega)))
            refine lv_iload_n hx hb dX5_rank_36 rfl (lv_at hl 1 rfl) ?_
            refine lv_aload_n hx hb dX5_rank_37 rfl (lv_at hl 2 rfl) ?_
            refine lv_iload_n hx hb dX5_rank_38 rfl (lv_at hl 0 rfl) ?_
            refine lv_aload_n hx hb dX5_rank_39 rfl (lv_at hl 2 rfl) ?_
            refine va_get (D := (dC, dI)) (ci := 5) (v := .int (v 5)) (C := RX5) (T := TX5) (N := 24) hx hb hts (fun w h => List.mem_cons_of_mem _ (iw_X5 w h)) hown hK hP 0 rfl rfl 16 (by decide) (hts _ (List.mem_cons_of_mem _ fl_X5_askedKind)) (fun _ h9 => h9) rfl dX5_rank_40 ?_
            refine vp_callSi (W.runV (As := [.int (nI k), .int (v 5)]) (rest := [.int (1 + rkM g v n ar k)]) ⟨hx, hb, hml, hown, hts⟩ (m_rowsOf l dC dI cI cZ cJ a (upd v 0 (thI (bI (!(inB ar 0 9))) 0 0)) g n hn hn2 (nI k) (v 5)) (cwV 2 hts (gd_V ml_X5_X5_rowsOf im_X5_rowsOf se_X5_rowsOf in_X5 kX5_rowsOf) rfl rfl rfl (by decide +kernel) ⟨Nat.le_of_ble_eq_true rfl, Nat.le_of_ble_eq_true rfl⟩) ⟨fun _ U g mk q => by obtain ⟨q0, qP, qK⟩ := q; exact ⟨q0, qP, va_K.moved (u := U) (U := U.calling g mk _) (Vm.Alike.refl U.vm) qK⟩, va_recv hK hP (ci := 5) (q0 := 0) rfl rfl, fun U hU hW => ⟨rfl, by rw [hU]; exact hP, va_K.moved hW.alike hK⟩⟩ rfl rfl hl.1 rfl (lv_room (Nat.le_of_ble_eq_true rfl)) dX5_rank_43 ⟨Nat.le_of_ble_eq_true rfl, Nat.le_of_ble_eq_true rfl⟩) (fun r43 hr43 => ?_)
            replace hr43 : r43 = cnt (fun i => fitB g i (v 3) (v 4) (v 5) (nI k)) n := hr43
            subst hr43
            refine lv_aload_n hx hb dX5_rank_46 rfl (lv_at hl 2 rfl) ?_
            refine lv_iload_n hx hb dX5_rank_47 rfl (lv_at hl 3 rfl) ?_
            refine lv_aload_n hx hb dX5_rank_48 rfl (lv_at hl 2 rfl) ?_
            refine va_get (D := (dC, dI)) (ci := 5) (v := .int (v 5)) (C := RX5) (T := TX5) (N := 24) hx hb hts (fun w h => List.mem_cons_of_mem _ (iw_X5 w h)) hown hK hP 0 rfl rfl 16 (by decide) (hts _ (List.mem_cons_of_mem _ fl_X5_askedKind)) (fun _ h9 => h9) rfl dX5_rank_49 ?_
            refine vp_callSi (W.runV (As := [.int ar, .int (v 5)]) (rest := [.int (cnt (fun i => fitB g i (v 3) (v 4) (v 5) (nI k)) n), .int (1 + rkM g v n ar k)]) ⟨hx, hb, hml, hown, hts⟩ (m_rowsOf l dC dI cI cZ cJ a (upd v 0 (thI (bI (!(inB ar 0 9))) 0 0)) g n hn hn2 ar (v 5)) (cwV 2 hts (gd_V ml_X5_X5_rowsOf im_X5_rowsOf se_X5_rowsOf in_X5 kX5_rowsOf) rfl rfl rfl (by decide +kernel) ⟨Nat.le_of_ble_eq_true rfl, Nat.le_of_ble_eq_true rfl⟩) ⟨fun _ U g mk q => by obtain ⟨q0, qP, qK⟩ := q; exact ⟨q0, qP, va_K.moved (u := U) (U := U.calling g mk _) (Vm.Alike.refl U.vm) qK⟩, va_recv hK hP (ci := 5) (q0 := 0) rfl rfl, fun U hU hW => ⟨rfl, by rw [hU]; exact hP, va_K.moved hW.alike hK⟩⟩ rfl rfl hl.1 rfl (lv_room (Nat.le_of_ble_eq_true rfl)) dX5_rank_52 ⟨Nat.le_of_ble_eq_true rfl, Nat.le_of_ble_eq_true rfl⟩) (fun r52 hr52 => ?_)
            replace hr52 : r52 = cnt (fun i => fitB g i (v 3) (v 4) (v 5) ar) n := hr52
            subst hr52
            refine lv_icmp_le (tgt := 62) hx hb dX5_rank_55 (by decide) (fun c55 => ?_) (fun c55 => ?_)
            · have n55 := Int32.not_lt.mpr c55
              refine lv_iconst (v := 0) hx hb dX5_rank_62 (by decide) ?_
              refine lv_iadd hx hb dX5_rank_63 ?_
              refine lv_istore_n (lv' := [(2, .int ((1 + rkM g v n ar k) + 0)), (3, .int (nI k)), (0, .ref (a 0)), (1, .int ar)]) hx hb dX5_rank_64 rfl hl (by decide) rfl (fun ls hl => ?_)
              refine lv_iinc (v := nI (k + 1)) (lv' := [(3, .int (nI (k + 1))), (2, .int ((1 + rkM g v n ar k) + 0)), (0, .ref (a 0)), (1, .int ar)]) hx hb dX5_rank_65 hl (k := 1) rfl (nI_1 k) (by decide) rfl (fun ls hl => ?_)
              refine lv_goto (tgt := 30) hx hb dX5_rank_68 (by decide) ?_
              have eL0 : (.int (1 + rkM g v n ar (k + 1)) : Value) = .int ((1 + rkM g v n ar k) + 0) := (by simp [rkM, cnt_s, bI, Int32.add_assoc, c33, n33, c55, n55])
              exact ih (k + 1) (by omega) (by omega) _ _ hP hD hS ls (by rw [eL0]; exact lv_sub hl [0, 1, 2, 3] rfl)
            · have n55 := Int32.not_le.mp c55
              refine lv_iconst (v := 1) hx hb dX5_rank_58 (by decide) ?_
              refine lv_goto (tgt := 63) hx hb dX5_rank_59 (by decide) ?_
              refine lv_iadd hx hb dX5_rank_63 ?_
              refine lv_istore_n (lv' := [(2, .int ((1 + rkM g v n ar k) + 1)), (3, .int (nI k)), (0, .ref (a 0)), (1, .int ar)]) hx hb dX5_rank_64 rfl hl (by decide) rfl (fun ls hl => ?_)
              refine lv_iinc (v := nI (k + 1)) (lv' := [(3, .int (nI (k + 1))), (2, .int ((1 + rkM g v n ar k) + 1)), (0, .ref (a 0)), (1, .int ar)]) hx hb dX5_rank_65 hl (k := 1) rfl (nI_1 k) (by decide) rfl (fun ls hl => ?_)
              refine lv_goto (tgt := 30) hx hb dX5_rank_68 (by decide) ?_
              have eL0 : (.int (1 + rkM g v n ar (k + 1)) : Value) = .int ((1 + rkM g v n ar k) + 1) := (by simp [rkM, cnt_s, bI, Int32.add_assoc, c33, n33, c55, n55])
              exact ih (k + 1) (by omega) (by omega) _ _ hP hD hS ls (by rw [eL0]; exact lv_sub hl [0, 1, 2, 3] rfl)
      exact lp (10 + 1) 0 (by omega) (by omega) _ _ hP hD hS ls (lv_sub hl [0, 1, 2, 3] rfl)
    · have c21 := bI_n0.mp c21
      refine lv_iconst (v := 0) hx hb dX5_rank_24 (by decide) ?_
      exact (W.iret (v := 0) hx hb hr (fun t9 ht hW => ⟨⟨_, ((upd v 0 (thI (bI (!(inB ar 0 9))) 0 0)), g), rfl, ⟨(by first | rfl | (simp only [if_pos (of_decide_eq_true c21)]; done) | (simp only [if_pos (of_decide_eq_true c21)]; rw [n10_eq]; subst hkn2; rfl)), (by first | rfl | (simp only [if_pos (of_decide_eq_true c21)]; done) | (simp only [if_pos (of_decide_eq_true c21)]; rw [n10_eq]; subst hkn2; rfl))⟩, ⟨by rw [ht]; exact hP, va_K.moved hW.alike hK, hD⟩⟩, hS.F ht⟩) hS.2.2 dX5_rank_25)
  refine lv_iload_n hx hb dX5_rank_1 rfl (lv_at hl 1 rfl) ?_
  refine lv_iconst (v := 0) hx hb dX5_rank_2 (by decide) ?_
  refine lv_bipush (v := 9) hx hb dX5_rank_3 (by decide) ?_
  refine vp_callSi (W.runS (As := [.int ar, .int 0, .int 9]) (rest := [.ref (a 0)]) ⟨hx, hb, hml, hown, hts⟩ (m_in l dC dI cI cZ cJ a v g ar 0 9) (cwS 3 hts (gd_S ml_X5_X5_in sm_X5_in in_X5 kX5_in) rfl rfl rfl (by decide +kernel) ⟨Nat.le_of_ble_eq_true rfl, Nat.le_of_ble_eq_true rfl⟩) ⟨fun _ U g mk q => by obtain ⟨q0, qP, qK⟩ := q; exact ⟨q0, qP, va_K.moved (u := U) (U := U.calling g mk _) (Vm.Alike.refl U.vm) qK⟩, fun U hU hW => ⟨rfl, by rw [hU]; exact hP, va_K.moved hW.alike hK⟩⟩ rfl rfl hl.1 rfl (lv_room (Nat.le_of_ble_eq_true rfl)) dX5_rank_5 ⟨Nat.le_of_ble_eq_true rfl, Nat.le_of_ble_eq_true rfl⟩) (fun r5 hr5 => ?_)
  subst hr5
  refine lv_if_ne (tgt := 15) hx hb dX5_rank_8 (by decide) (fun c8 => ?_) (fun c8 => ?_)
  · have c8 := bI_n0.mp c8
    refine lv_iconst (v := 0) hx hb dX5_rank_15 (by decide) ?_
    exact jn16 _ (by first | (simp [bI, c8]; done))
  · have c8 := bI_0.mp c8
    refine lv_iconst (v := 1) hx hb dX5_rank_11 (by decide) ?_
    refine lv_goto (tgt := 16) hx hb dX5_rank_12 (by decide) ?_
    exact jn16 _ (by first | (simp [bI, c8]; done))
set_option maxHeartbeats 4000000 in
set_option maxRecDepth 100000 in
theorem m_work (l : Launch) (dC : Nat → ClassId) (dI : Nat → Nat → Nat) (cI cZ cJ : ClassId) (a : Nat → Nat) (v : Nat → Int32) (g : Nat → Nat → Int32) (sz : Nat) (n : Nat) (hn : v 1 = nI n) (hn2 : n ≤ 200) (st w : Int32) : Met l yX5_work wsX5_work ({ frames := 2, cells := 0, slots := 0, locals := 47 }) (va_Pc [.ref (a 0), .int st, .int w] (fun U => U.heap.size = sz ∧ va_P (dC, dI) clA (wM cI cZ a v g) U.heap ∧ va_K (dC, dI) clA (tyA cI cZ cJ) U ∧ va_D (fun _ => True) (wM cI cZ a v g))) (va_Qi (fun (r : Int32) (u : StA) => r = (if 0 < thI (bI (!(inB st 0 5) || !(inB w 0 1))) 0 0 then 0 else isum (wkM g v st w) n) ∧ u = (upd v 0 (thI (bI (!(inB st 0 5) || !(inB w 0 1))) 0 0), g)) (atM dC dI cI cZ cJ a (va_A (wM cI cZ a v g) sz)) (va_A (wM cI cZ a v g) sz))  0 0 (va_A (wM cI cZ a v g) sz) := by
  refine Met.ofW (cc := cX5_work) (maxL := 6) (ret := (some .int)) (by decide) rfl ?_
  intro p e s m args below meth c s₁ B hml hv
  obtain ⟨rfl, hsz, hP, hK, hD0⟩ := hv
  have hx := B.exec
  have hb := B.bytes
  have hr := B.returns
  have hts := atoms_spec (ws := wsX5_work) B.pre
  have hown : s.vm.findClass RX5 = some m.cls := findClass_of_methodNamed B.named
  have hlocks := B.notSynchronized
  subst hsz
  have hD := hD0.self (sz := s.heap.size)
  generalize hAe : va_A (wM cI cZ a v g) s.heap.size = A at hD ⊢
  have hA : ∀ q : Nat, s.heap.size ≤ q → A q := fun q h => by rw [← hAe]; exact Or.inr h
  have hS : va_S A s.heap s.heap [] := va_S.rf
  have hP : va_P (dC, dI) clA (wM cI cZ a v g) s.heap := hP
  have hl := lv_entry ([.ref (a 0), .int st, .int w]) (n := 6) (Nat.le_of_ble_eq_true rfl)
  rw [lg_entry_eq]
  generalize (lg_sl ([.ref (a 0), .int st, .int w]) ++ List.replicate (6 - (lg_sl ([.ref (a 0), .int st, .int w])).length) Slot.unset).toArray = ls at hl ⊢
  have hl : lv_has ls 6 [(0, .ref (a 0)), (1, .int st), (2, .int w)] := hl
  refine lv_aload_n hx hb dX5_work_0 rfl (lv_at hl 0 rfl) ?_
  have jn24 : ∀ xj : Int32, xj = bI (!(inB st 0 5) || !(inB w 0 1)) → W p l e (headSpec wsX5_work ({ frames := 2, cells := 0, slots := 0, locals := 47 })).room s m ([.ref (a 0), .int st, .int w] : List Value).toArray below meth c s.heap [] 0 0 (MQ below (va_Qi (fun (r : Int32) (u : StA) => r = (if 0 < thI (bI (!(inB st 0 5) || !(inB w 0 1))) 0 0 then 0 else isum (wkM g v st w) n) ∧ u = (upd v 0 (thI (bI (!(inB st 0 5) || !(inB w 0 1))) 0 0), g)) (atM dC dI cI cZ cJ a A) A) ([.ref (a 0), .int st, .int w] : List Value).toArray s 0 0 A) (F0 m 24 ls [(.int xj), .ref (a 0)]) := by
    intro xj ej
    subst ej
    refine lv_iconst (v := 0) hx hb dX5_work_24 (by decide) ?_
    refine lv_iconst (v := 0) hx hb dX5_work_25 (by decide) ?_
    have hFc := va_free (wc := (wM cI cZ a v g)) hD hS hA [0, 1, 2, 3, 4, 5, 6, 7, 8, 9, 10, 11, 12, 13, 14, 15, 16] rfl
    refine va_calli (va_runV (As := [.int (bI (!(inB st 0 5) || !(inB w 0 1))), .int 0, .int 0]) (rest := []) ⟨hx, hb, hml, hown, hts⟩ (m_throwing l dC dI cI cZ cJ a v g s.heap.size (bI (!(inB st 0 5) || !(inB w 0 1))) 0 0) (cwV 3 hts (gd_V ml_X5_X5_throwing im_X5_throwing se_X5_throwing in_X5 kX5_throwing) rfl rfl rfl (by decide +kernel) ⟨Nat.le_of_ble_eq_true rfl, Nat.le_of_ble_eq_true rfl⟩) ⟨fun _ U g mk q => by obtain ⟨q0, q1, qP, qK, qD⟩ := q; exact ⟨q0, q1, qP, va_K.moved (u := U) (U := U.calling g mk _) (Vm.Alike.refl U.vm) qK, qD⟩, va_recv hK hP (ci := 5) (q0 := 0) rfl rfl, fun U hU hW => ⟨rfl, by rw [hU], by rw [hU]; exact hP, va_K.moved hW.alike hK, hD.weaken (fun _ _ _ _ => trivial)⟩⟩ rfl rfl hl.1 rfl (lv_room (Nat.le_of_ble_eq_true rfl)) dX5_work_26 ⟨Nat.le_of_ble_eq_true rfl, Nat.le_of_ble_eq_true rfl⟩) hS (fun q _ h => hFc q h) hFc (fun r26 u9 t9 H1 locs ht hvm hw hB hz1 hk1 hS => ?_)
    obtain ⟨rfl, rfl⟩ := hw
    obtain ⟨hP, hK1, hD1⟩ := hB
    rw [ht] at hP
    have hD := hD1.weaken (fun k q _ h => hFc q.1 h)
    clear hFc hk1 hD1 hK1
    generalize H1 = H at hP hS ⊢
    have hP : va_P (dC, dI) clA (wM cI cZ a (upd v 0 (thI (bI (!(inB st 0 5) || !(inB w 0 1))) 0 0)) g) H := hP
    have hD : va_D A (wM cI cZ a (upd v 0 (thI (bI (!(inB st 0 5) || !(inB w 0 1))) 0 0)) g) := hD
    refine lv_if_eq (tgt := 34) hx hb dX5_work_29 (by decide) (fun c29 => ?_) (fun c29 => ?_)
    · have c29 := bI_0.mp c29
      refine lv_iconst (v := 0) hx hb dX5_work_34 (by decide) ?_
      refine lv_istore_n (lv' := [(3, .int 0), (0, .ref (a 0)), (1, .int st), (2, .int w)]) hx hb dX5_work_35 rfl hl (by decide) rfl (fun ls hl => ?_)
      refine lv_iconst (v := 0) hx hb dX5_work_36 (by decide) ?_
      refine lv_istore (lv' := [(4, .int 0), (3, .int 0), (0, .ref (a 0)), (1, .int st), (2, .int w)]) hx hb dX5_work_37 hl (by decide) rfl (fun ls hl => ?_)
      have lp : ∀ (d k : Nat), k ≤ n → n + 1 ≤ k + d → ∀ (H : Heap) (locs : List Loc), va_P (dC, dI) clA (wM cI cZ a (upd v 0 (thI (bI (!(inB st 0 5) || !(inB w 0 1))) 0 0)) g) H → va_D A (wM cI cZ a (upd v 0 (thI (bI (!(inB st 0 5) || !(inB w 0 1))) 0 0)) g) → va_S A s.heap H locs → ∀ (ls : Array Slot), lv_has ls 6 [(4, .int (nI k)), (3, .int (isum (wkM g v st w) k)), (0, .ref (a 0)), (1, .int st), (2, .int w)] → W p l e (headSpec wsX5_work ({ frames := 2, cells := 0, slots := 0, locals := 47 })).room s m ([.ref (a 0), .int st, .int w] : List Value).toArray below meth c H locs 0 0 (MQ below (va_Qi (fun (r : Int32) (u : StA) => r = (if 0 < thI (bI (!(inB st 0 5) || !(inB w 0 1))) 0 0 then 0 else isum (wkM g v st w) n) ∧ u = (upd v 0 (thI (bI (!(inB st 0 5) || !(inB w 0 1))) 0 0), g)) (atM dC dI cI cZ cJ a A) A) ([.ref (a 0), .int st, .int w] : List Value).toArray s 0 0 A) (F0 m 39 ls []) := by
        intro d
        induction d with
        | zero => intro k h1 h2; exact absurd h2 (by omega)
        | succ d ih =>
          intro k hkn hkd H locs hP hD hS ls hl
          refine lv_iload hx hb dX5_work_39 (lv_at hl 0 rfl) ?_
          refine lv_aload_n hx hb dX5_work_41 rfl (lv_at hl 2 rfl) ?_
          refine va_get (D := (dC, dI)) (ci := 5) (v := .int (v 1)) (C := RX5) (T := TX5) (N := 24) hx hb hts (fun w h => List.mem_cons_of_mem _ (iw_X5 w h)) hown hK hP 0 rfl rfl 1 (by decide) (hts _ (List.mem_cons_of_mem _ fl_X5_rows)) (fun _ h9 => h9) rfl dX5_work_42 ?_
          refine lv_icmp_ge (tgt := 142) hx hb dX5_work_45 (by decide) (fun c45 => ?_) (fun c45 => ?_)
          · have n45 := Int32.not_lt.mpr c45
            rw [hn] at c45
            have hkn2 : k = n := Nat.le_antisymm hkn ((nI_leI (by omega) (by omega)).mp c45)
            refine lv_iload_n hx hb dX5_work_142 rfl (lv_at hl 1 rfl) ?_
            exact (W.iret (v := isum (wkM g v st w) k) hx hb hr (fun t9 ht hW => ⟨⟨_, ((upd v 0 (thI (bI (!(inB st 0 5) || !(inB w 0 1))) 0 0)), g), rfl, ⟨(by first | rfl | (simp only [if_neg (of_decide_eq_false c29)]; done) | (simp only [if_neg (of_decide_eq_false c29)]; subst hkn2; rfl)), (by first | rfl | (simp only [if_neg (of_decide_eq_false c29)]; done) | (simp only [if_neg (of_decide_eq_false c29)]; subst hkn2; rfl))⟩, ⟨by rw [ht]; exact hP, va_K.moved hW.alike hK, hD⟩⟩, hS.F ht⟩) hS.2.2 dX5_work_143)
          · have n45 := Int32.not_le.mp c45
            rw [hn] at c45
            have hk : k < n := Nat.lt_of_not_le (fun h => c45 (nI_le h (by omega)))
            refine lv_aload_n hx hb dX5_work_48 rfl (lv_at hl 2 rfl) ?_
            refine lv_iload hx hb dX5_work_49 (lv_at hl 0 rfl) ?_
            refine lv_aload_n hx hb dX5_work_51 rfl (lv_at hl 2 rfl) ?_
            refine va_get (D := (dC, dI)) (ci := 5) (v := .int (v 3)) (C := RX5) (T := TX5) (N := 24) hx hb hts (fun w h => List.mem_cons_of_mem _ (iw_X5 w h)) hown hK hP 0 rfl rfl 14 (by decide) (hts _ (List.mem_cons_of_mem _ fl_X5_from)) (fun _ h9 => h9) rfl dX5_work_52 ?_
            refine lv_aload_n hx hb dX5_work_55 rfl (lv_at hl 2 rfl) ?_
            refine va_get (D := (dC, dI)) (ci := 5) (v := .int (v 4)) (C := RX5) (T := TX5) (N := 24) hx hb hts (fun w h => List.mem_cons_of_mem _ (iw_X5 w h)) hown hK hP 0 rfl rfl 15 (by decide) (hts _ (List.mem_cons_of_mem _ fl_X5_to)) (fun _ h9 => h9) rfl dX5_work_56 ?_
            refine lv_iconst (v := (-1)) hx hb dX5_work_59 (by decide) ?_
            refine lv_iconst (v := (-1)) hx hb dX5_work_60 (by decide) ?_
            refine vp_callSi (W.runV (As := [.int (nI k), .int (v 3), .int (v 4), .int (-1), .int (-1)]) (rest := []) ⟨hx, hb, hml, hown, hts⟩ (m_fits l dC dI cI cZ cJ a (upd v 0 (thI (bI (!(inB st 0 5) || !(inB w 0 1))) 0 0)) g k (v 3) (v 4) (-1) (-1) (by omega)) (cwV 5 hts (gd_V ml_X5_X5_fits im_X5_fits se_X5_fits in_X5 kX5_fits) rfl rfl rfl (by decide +kernel) ⟨Nat.le_of_ble_eq_true rfl, Nat.le_of_ble_eq_true rfl⟩) ⟨fun _ U g mk q => by obtain ⟨q0, qP, qK⟩ := q; exact ⟨q0, qP, va_K.moved (u := U) (U := U.calling g mk _) (Vm.Alike.refl U.vm) qK⟩, va_recv hK hP (ci := 5) (q0 := 0) rfl rfl, fun U hU hW => ⟨rfl, by rw [hU]; exact hP, va_K.moved hW.alike hK⟩⟩ rfl rfl hl.1 rfl (lv_room (Nat.le_of_ble_eq_true rfl)) dX5_work_61 ⟨Nat.le_of_ble_eq_true rfl, Nat.le_of_ble_eq_true rfl⟩) (fun r61 hr61 => ?_)
            subst hr61
            refine lv_if_eq (tgt := 136) hx hb dX5_work_64 (by decide) (fun c64 => ?_) (fun c64 => ?_)
            · have c64 := bI_0.mp c64
              refine lv_iinc (v := nI (k + 1)) (lv' := [(4, .int (nI (k + 1))), (3, .int (isum (wkM g v st w) k)), (0, .ref (a 0)), (1, .int st), (2, .int w)]) hx hb dX5_work_136 hl (k := 0) rfl (nI_1 k) (by decide) rfl (fun ls hl => ?_)
              refine lv_goto (tgt := 39) hx hb dX5_work_139 (by decide) ?_
              have eL0 : (.int (isum (wkM g v st w) (k + 1)) : Value) = .int (isum (wkM g v st w) k) := (by simp [isum_s, wkM, kM, c45, n45, c64])
              exact ih (k + 1) (by omega) (by omega) _ _ hP hD hS ls (by rw [eL0]; exact lv_sub hl [0, 1, 2, 3, 4] rfl)
            · have c64 := bI_n0.mp c64
              refine lv_aload_n hx hb dX5_work_67 rfl (lv_at hl 2 rfl) ?_
              refine va_get (D := (dC, dI)) (ci := 5) (v := .ref (a 5)) (C := RX5) (T := TX5) (N := 24) hx hb hts (fun w h => List.mem_cons_of_mem _ (iw_X5 w h)) hown hK hP 0 rfl rfl 6 (by decide) (hts _ (List.mem_cons_of_mem _ fl_X5_station)) (fun _ h9 => h9) rfl dX5_work_68 ?_
              refine lv_iload hx hb dX5_work_71 (lv_at hl 0 rfl) ?_
              refine wi_ald hx hb hK hP 5 0 rfl rfl (k := k) (by omega) (by decide) dX5_work_73 ?_
              refine lv_iload_n hx hb dX5_work_74 rfl (lv_at hl 3 rfl) ?_
              refine lv_icmp_ne (tgt := 136) hx hb dX5_work_75 (by decide) (fun c75 => ?_) (fun c75 => ?_)
              · refine lv_iinc (v := nI (k + 1)) (lv' := [(4, .int (nI (k + 1))), (3, .int (isum (wkM g v st w) k)), (0, .ref (a 0)), (1, .int st), (2, .int w)]) hx hb dX5_work_136 hl (k := 0) rfl (nI_1 k) (by decide) rfl (fun ls hl => ?_)
                refine lv_goto (tgt := 39) hx hb dX5_work_139 (by decide) ?_
                have eL0 : (.int (isum (wkM g v st w) (k + 1)) : Value) = .int (isum (wkM g v st w) k) := (by simp [isum_s, wkM, kM, c45, n45, c64, c75])
                exact ih (k + 1) (by omega) (by omega) _ _ hP hD hS ls (by rw [eL0]; exact lv_sub hl [0, 1, 2, 3, 4] rfl)
              · refine lv_aload_n hx hb dX5_work_78 rfl (lv_at hl 2 rfl) ?_
                refine va_get (D := (dC, dI)) (ci := 5) (v := .ref (a 8)) (C := RX5) (T := TX5) (N := 24) hx hb hts (fun w h => List.mem_cons_of_mem _ (iw_X5 w h)) hown hK hP 0 rfl rfl 9 (by decide) (hts _ (List.mem_cons_of_mem _ fl_X5_turnOut)) (fun _ h9 => h9) rfl dX5_work_79 ?_
                refine lv_iload hx hb dX5_work_82 (lv_at hl 0 rfl) ?_
                refine wi_ald hx hb hK hP 8 0 rfl rfl (k := k) (by omega) (by decide) dX5_work_84 ?_
                refine lv_if_le (tgt := 98) hx hb dX5_work_85 (by decide) (fun c85 => ?_) (fun c85 => ?_)
                · have n85 := Int32.not_lt.mpr c85
                  refine lv_iconst (v := 0) hx hb dX5_work_98 (by decide) ?_
                  refine lv_aload_n hx hb dX5_work_99 rfl (lv_at hl 2 rfl) ?_
                  refine va_get (D := (dC, dI)) (ci := 5) (v := .ref (a 9)) (C := RX5) (T := TX5) (N := 24) hx hb hts (fun w h => List.mem_cons_of_mem _ (iw_X5 w h)) hown hK hP 0 rfl rfl 10 (by decide) (hts _ (List.mem_cons_of_mem _ fl_X5_travel)) (fun _ h9 => h9) rfl dX5_work_100 ?_
                  refine lv_iload hx hb dX5_work_103 (lv_at hl 0 rfl) ?_
                  refine wi_ald hx hb hK hP 9 0 rfl rfl (k := k) (by omega) (by decide) dX5_work_105 ?_
                  refine lv_if_le (tgt := 119) hx hb dX5_work_106 (by decide) (fun c106 => ?_) (fun c106 => ?_)
                  · have n106 := Int32.not_lt.mpr c106
                    refine lv_iconst (v := 0) hx hb dX5_work_119 (by decide) ?_
                    refine lv_iadd hx hb dX5_work_120 ?_
                    refine lv_istore (lv' := [(5, .int (0 + 0)), (4, .int (nI k)), (3, .int (isum (wkM g v st w) k)), (0, .ref (a 0)), (1, .int st), (2, .int w)]) hx hb dX5_work_121 hl (by decide) rfl (fun ls hl => ?_)
                    refine lv_iload_n hx hb dX5_work_123 rfl (lv_at hl 2 rfl) ?_
                    refine lv_iload_n hx hb dX5_work_124 rfl (lv_at hl 5 rfl) ?_
                    refine lv_if_ne (tgt := 132) hx hb dX5_work_125 (by decide) (fun c125 => ?_) (fun c125 => ?_)
                    · refine lv_iload hx hb dX5_work_132 (lv_at hl 0 rfl) ?_
                      refine lv_iadd hx hb dX5_work_134 ?_
                      refine lv_istore_n (lv' := [(3, .int ((isum (wkM g v st w) k) + (0 + 0))), (5, .int (0 + 0)), (4, .int (nI k)), (0, .ref (a 0)), (1, .int st), (2, .int w)]) hx hb dX5_work_135 rfl hl (by decide) rfl (fun ls hl => ?_)
                      refine lv_iinc (v := nI (k + 1)) (lv' := [(4, .int (nI (k + 1))), (3, .int ((isum (wkM g v st w) k) + (0 + 0))), (5, .int (0 + 0)), (0, .ref (a 0)), (1, .int st), (2, .int w)]) hx hb dX5_work_136 hl (k := 2) rfl (nI_1 k) (by decide) rfl (fun ls hl => ?_)
                      refine lv_goto (tgt := 39) hx hb dX5_work_139 (by decide) ?_
                      have eL0 : (.int (isum (wkM g v st w) (k + 1)) : Value) = .int ((isum (wkM g v st w) k) + (0 + 0)) := (by simp [isum_s, wkM, kM, c45, n45, c64, c75, c85, n85, c106, n106, c125])
                      exact ih (k + 1) (by omega) (by omega) _ _ hP hD hS ls (by rw [eL0]; exact lv_sub hl [0, 1, 3, 4, 5] rfl)
                    · refine lv_iconst (v := 1) hx hb dX5_work_128 (by decide) ?_
                      refine lv_goto (tgt := 134) hx hb dX5_work_129 (by decide) ?_
                      refine lv_iadd hx hb dX5_work_134 ?_
                      refine lv_istore_n (lv' := [(3, .int ((isum (wkM g v st w) k) + 1)), (5, .int (0 + 0)), (4, .int (nI k)), (0, .ref (a 0)), (1, .int st), (2, .int w)]) hx hb dX5_work_135 rfl hl (by decide) rfl (fun ls hl => ?_)
                      refine lv_iinc (v := nI (k + 1)) (lv' := [(4, .int (nI (k + 1))), (3, .int ((isum (wkM g v st w) k) + 1)), (5, .int (0 + 0)), (0, .ref (a 0)), (1, .int st), (2, .int w)]) hx hb dX5_work_136 hl (k := 2) rfl (nI_1 k) (by decide) rfl (fun ls hl => ?_)
                      refine lv_goto (tgt := 39) hx hb dX5_work_139 (by decide) ?_
                      have eL0 : (.int (isum (wkM g v st w) (k + 1)) : Value) = .int ((isum (wkM g v st w) k) + 1) := (by simp [isum_s, wkM, kM, c45, n45, c64, c75, c85, n85, c106, n106, c125])
                      exact ih (k + 1) (by omega) (by omega) _ _ hP hD hS ls (by rw [eL0]; exact lv_sub hl [0, 1, 3, 4, 5] rfl)
                  · have n106 := Int32.not_le.mp c106
                    refine lv_aload_n hx hb dX5_work_109 rfl (lv_at hl 2 rfl) ?_
                    refine va_get (D := (dC, dI)) (ci := 5) (v := .ref (a 9)) (C := RX5) (T := TX5) (N := 24) hx hb hts (fun w h => List.mem_cons_of_mem _ (iw_X5 w h)) hown hK hP 0 rfl rfl 10 (by decide) (hts _ (List.mem_cons_of_mem _ fl_X5_travel)) (fun _ h9 => h9) rfl dX5_work_110 ?_
                    refine lv_iload hx hb dX5_work_113 (lv_at hl 0 rfl) ?_
                    refine wi_ald hx hb hK hP 9 0 rfl rfl (k := k) (by omega) (by decide) dX5_work_115 ?_
                    refine lv_goto (tgt := 120) hx hb dX5_work_116 (by decide) ?_
                    refine lv_iadd hx hb dX5_work_120 ?_
                    refine lv_istore (lv' := [(5, .int (0 + (g 8 k))), (4, .int (nI k)), (3, .int (isum (wkM g v st w) k)), (0, .ref (a 0)), (1, .int st), (2, .int w)]) hx hb dX5_work_121 hl (by decide) rfl (fun ls hl => ?_)
                    refine lv_iload_n hx hb dX5_work_123 rfl (lv_at hl 2 rfl) ?_
                    refine lv_iload_n hx hb dX5_work_124 rfl (lv_at hl 5 rfl) ?_
                    refine lv_if_ne (tgt := 132) hx hb dX5_work_125 (by decide) (fun c125 => ?_) (fun c125 => ?_)
                    · refine lv_iload hx hb dX5_work_132 (lv_at hl 0 rfl) ?_
                      refine lv_iadd hx hb dX5_work_134 ?_
                      refine lv_istore_n (lv' := [(3, .int ((isum (wkM g v st w) k) + (0 + (g 8 k)))), (5, .int (0 + (g 8 k))), (4, .int (nI k)), (0, .ref (a 0)), (1, .int st), (2, .int w)]) hx hb dX5_work_135 rfl hl (by decide) rfl (fun ls hl => ?_)
                      refine lv_iinc (v := nI (k + 1)) (lv' := [(4, .int (nI (k + 1))), (3, .int ((isum (wkM g v st w) k) + (0 + (g 8 k)))), (5, .int (0 + (g 8 k))), (0, .ref (a 0)), (1, .int st), (2, .int w)]) hx hb dX5_work_136 hl (k := 2) rfl (nI_1 k) (by decide) rfl (fun ls hl => ?_)
                      refine lv_goto (tgt := 39) hx hb dX5_work_139 (by decide) ?_
                      have eL0 : (.int (isum (wkM g v st w) (k + 1)) : Value) = .int ((isum (wkM g v st w) k) + (0 + (g 8 k))) := (by simp [isum_s, wkM, kM, c45, n45, c64, c75, c85, n85, c106, n106, c125])
                      exact ih (k + 1) (by omega) (by omega) _ _ hP hD hS ls (by rw [eL0]; exact lv_sub hl [0, 1, 3, 4, 5] rfl)
                    · refine lv_iconst (v := 1) hx hb dX5_work_128 (by decide) ?_
                      refine lv_goto (tgt := 134) hx hb dX5_work_129 (by decide) ?_
                      refine lv_iadd hx hb dX5_work_134 ?_
                      refine lv_istore_n (lv' := [(3, .int ((isum (wkM g v st w) k) + 1)), (5, .int (0 + (g 8 k))), (4, .int (nI k)), (0, .ref (a 0)), (1, .int st), (2, .int w)]) hx hb dX5_work_135 rfl hl (by decide) rfl (fun ls hl => ?_)
                      refine lv_iinc (v := nI (k + 1)) (lv' := [(4, .int (nI (k + 1))), (3, .int ((isum (wkM g v st w) k) + 1)), (5, .int (0 + (g 8 k))), (0, .ref (a 0)), (1, .int st), (2, .int w)]) hx hb dX5_work_136 hl (k := 2) rfl (nI_1 k) (by decide) rfl (fun ls hl => ?_)
                      refine lv_goto (tgt := 39) hx hb dX5_work_139 (by decide) ?_
                      have eL0 : (.int (isum (wkM g v st w) (k + 1)) : Value) = .int ((isum (wkM g v st w) k) + 1) := (by simp [isum_s, wkM, kM, c45, n45, c64, c75, c85, n85, c106, n106, c125])
                      exact ih (k + 1) (by omega) (by omega) _ _ hP hD hS ls (by rw [eL0]; exact lv_sub hl [0, 1, 3, 4, 5] rfl)
                · have n85 := Int32.not_le.mp c85
                  refine lv_aload_n hx hb dX5_work_88 rfl (lv_at hl 2 rfl) ?_
                  refine va_get (D := (dC, dI)) (ci := 5) (v := .ref (a 8)) (C := RX5) (T := TX5) (N := 24) hx hb hts (fun w h => List.mem_cons_of_mem _ (iw_X5 w h)) hown hK hP 0 rfl rfl 9 (by decide) (hts _ (List.mem_cons_of_mem _ fl_X5_turnOut)) (fun _ h9 => h9) rfl dX5_work_89 ?_
                  refine lv_iload hx hb dX5_work_92 (lv_at hl 0 rfl) ?_
                  refine wi_ald hx hb hK hP 8 0 rfl rfl (k := k) (by omega) (by decide) dX5_work_94 ?_
                  refine lv_goto (tgt := 99) hx hb dX5_work_95 (by decide) ?_
                  refine lv_aload_n hx hb dX5_work_99 rfl (lv_at hl 2 rfl) ?_
                  refine va_get (D := (dC, dI)) (ci := 5) (v := .ref (a 9)) (C := RX5) (T := TX5) (N := 24) hx hb hts (fun w h => List.mem_cons_of_mem _ (iw_X5 w h)) hown hK hP 0 rfl rfl 10 (by decide) (hts _ (List.mem_cons_of_mem _ fl_X5_travel)) (fun _ h9 => h9) rfl dX5_work_100 ?_
                  refine lv_iload hx hb dX5_work_103 (lv_at hl 0 rfl) ?_
                  refine wi_ald hx hb hK hP 9 0 rfl rfl (k := k) (by omega) (by decide) dX5_work_105 ?_
                  refine lv_if_le (tgt := 119) hx hb dX5_work_106 (by decide) (fun c106 => ?_) (fun c106 => ?_)
                  · have n106 := Int32.not_lt.mpr c106
                    refine lv_iconst (v := 0) hx hb dX5_work_119 (by decide) ?_
                    refine lv_iadd hx hb dX5_work_120 ?_
                    refine lv_istore (lv' := [(5, .int ((g 7 k) + 0)), (4, .int (nI k)), (3, .int (isum (wkM g v st w) k)), (0, .ref (a 0)), (1, .int st), (2, .int w)]) hx hb dX5_work_121 hl (by decide) rfl (fun ls hl => ?_)
                    refine lv_iload_n hx hb dX5_work_123 rfl (lv_at hl 2 rfl) ?_
                    refine lv_iload_n hx hb dX5_work_124 rfl (lv_at hl 5 rfl) ?_
                    refine lv_if_ne (tgt := 132) hx hb dX5_work_125 (by decide) (fun c125 => ?_) (fun c125 => ?_)
                    · refine lv_iload hx hb dX5_work_132 (lv_at hl 0 rfl) ?_
                      refine lv_iadd hx hb dX5_work_134 ?_
                      refine lv_istore_n (lv' := [(3, .int ((isum (wkM g v st w) k) + ((g 7 k) + 0))), (5, .int ((g 7 k) + 0)), (4, .int (nI k)), (0, .ref (a 0)), (1, .int st), (2, .int w)]) hx hb dX5_work_135 rfl hl (by decide) rfl (fun ls hl => ?_)
                      refine lv_iinc (v := nI (k + 1)) (lv' := [(4, .int (nI (k + 1))), (3, .int ((isum (wkM g v st w) k) + ((g 7 k) + 0))), (5, .int ((g 7 k) + 0)), (0, .ref (a 0)), (1, .int st), (2, .int w)]) hx hb dX5_work_136 hl (k := 2) rfl (nI_1 k) (by decide) rfl (fun ls hl => ?_)
                      refine lv_goto (tgt := 39) hx hb dX5_work_139 (by decide) ?_
                      have eL0 : (.int (isum (wkM g v st w) (k + 1)) : Value) = .int ((isum (wkM g v st w) k) + ((g 7 k) + 0)) := (by simp [isum_s, wkM, kM, c45, n45, c64, c75, c85, n85, c106, n106, c125])
                      exact ih (k + 1) (by omega) (by omega) _ _ hP hD hS ls (by rw [eL0]; exact lv_sub hl [0, 1, 3, 4, 5] rfl)
                    · refine lv_iconst (v := 1) hx hb dX5_work_128 (by decide) ?_
                      refine lv_goto (tgt := 134) hx hb dX5_work_129 (by decide) ?_
                      refine lv_iadd hx hb dX5_work_134 ?_
                      refine lv_istore_n (lv' := [(3, .int ((isum (wkM g v st w) k) + 1)), (5, .int ((g 7 k) + 0)), (4, .int (nI k)), (0, .ref (a 0)), (1, .int st), (2, .int w)]) hx hb dX5_work_135 rfl hl (by decide) rfl (fun ls hl => ?_)
                      refine lv_iinc (v := nI (k + 1)) (lv' := [(4, .int (nI (k + 1))), (3, .int ((isum (wkM g v st w) k) + 1)), (5, .int ((g 7 k) + 0)), (0, .ref (a 0)), (1, .int st), (2, .int w)]) hx hb dX5_work_136 hl (k := 2) rfl (nI_1 k) (by decide) rfl (fun ls hl => ?_)
                      refine lv_goto (tgt := 39) hx hb dX5_work_139 (by decide) ?_
                      have eL0 : (.int (isum (wkM g v st w) (k + 1)) : Value) = .int ((isum (wkM g v st w) k) + 1) := (by simp [isum_s, wkM, kM, c45, n45, c64, c75, c85, n85, c106, n106, c125])
                      exact ih (k + 1) (by omega) (by omega) _ _ hP hD hS ls (by rw [eL0]; exact lv_sub hl [0, 1, 3, 4, 5] rfl)
                  · have n106 := Int32.not_le.mp c106
                    refine lv_aload_n hx hb dX5_work_109 rfl (lv_at hl 2 rfl) ?_
                    refine va_get (D := (dC, dI)) (ci := 5) (v := .ref (a 9)) (C := RX5) (T := TX5) (N := 24) hx hb hts (fun w h => List.mem_cons_of_mem _ (iw_X5 w h)) hown hK hP 0 rfl rfl 10 (by decide) (hts _ (List.mem_cons_of_mem _ fl_X5_travel)) (fun _ h9 => h9) rfl dX5_work_110 ?_
                    refine lv_iload hx hb dX5_work_113 (lv_at hl 0 rfl) ?_
                    refine wi_ald hx hb hK hP 9 0 rfl rfl (k := k) (by omega) (by decide) dX5_work_115 ?_
                    refine lv_goto (tgt := 120) hx hb dX5_work_116 (by decide) ?_
                    refine lv_iadd hx hb dX5_work_120 ?_
                    refine lv_istore (lv' := [(5, .int ((g 7 k) + (g 8 k))), (4, .int (nI k)), (3, .int (isum (wkM g v st w) k)), (0, .ref (a 0)), (1, .int st), (2, .int w)]) hx hb dX5_work_121 hl (by decide) rfl (fun ls hl => ?_)
                    refine lv_iload_n hx hb dX5_work_123 rfl (lv_at hl 2 rfl) ?_
                    refine lv_iload_n hx hb dX5_work_124 rfl (lv_at hl 5 rfl) ?_
                    refine lv_if_ne (tgt := 132) hx hb dX5_work_125 (by decide) (fun c125 => ?_) (fun c125 => ?_)
                    · refine lv_iload hx hb dX5_work_132 (lv_at hl 0 rfl) ?_
                      refine lv_iadd hx hb dX5_work_134 ?_
                      refine lv_istore_n (lv' := [(3, .int ((isum (wkM g v st w) k) + ((g 7 k) + (g 8 k)))), (5, .int ((g 7 k) + (g 8 k))), (4, .int (nI k)), (0, .ref (a 0)), (1, .int st), (2, .int w)]) hx hb dX5_work_135 rfl hl (by decide) rfl (fun ls hl => ?_)
                      refine lv_iinc (v := nI (k + 1)) (lv' := [(4, .int (nI (k + 1))), (3, .int ((isum (wkM g v st w) k) + ((g 7 k) + (g 8 k)))), (5, .int ((g 7 k) + (g 8 k))), (0, .ref (a 0)), (1, .int st), (2, .int w)]) hx hb dX5_work_136 hl (k := 2) rfl (nI_1 k) (by decide) rfl (fun ls hl => ?_)
                      refine lv_goto (tgt := 39) hx hb dX5_work_139 (by decide) ?_
                      have eL0 : (.int (isum (wkM g v st w) (k + 1)) : Value) = .int ((isum (wkM g v st w) k) + ((g 7 k) + (g 8 k))) := (by simp [isum_s, wkM, kM, c45, n45, c64, c75, c85, n85, c106, n106, c125])
                      exact ih (k + 1) (by omega) (by omega) _ _ hP hD hS ls (by rw [eL0]; exact lv_sub hl [0, 1, 3, 4, 5] rfl)
                    · refine lv_iconst (v := 1) hx hb dX5_work_128 (by decide) ?_
                      refine lv_goto (tgt := 134) hx hb dX5_work_129 (by decide) ?_
                      refine lv_iadd hx hb dX5_work_134 ?_
                      refine lv_istore_n (lv' := [(3, .int ((isum (wkM g v st w) k) + 1)), (5, .int ((g 7 k) + (g 8 k))), (4, .int (nI k)), (0, .ref (a 0)), (1, .int st), (2, .int w)]) hx hb dX5_work_135 rfl hl (by decide) rfl (fun ls hl => ?_)
                      refine lv_iinc (v := nI (k + 1)) (lv' := [(4, .int (nI (k + 1))), (3, .int ((isum (wkM g v st w) k) + 1)), (5, .int ((g 7 k) + (g 8 k))), (0, .ref (a 0)), (1, .int st), (2, .int w)]) hx hb dX5_work_136 hl (k := 2) rfl (nI_1 k) (by decide) rfl (fun ls hl => ?_)
                      refine lv_goto (tgt := 39) hx hb dX5_work_139 (by decide) ?_
                      have eL0 : (.int (isum (wkM g v st w) (k + 1)) : Value) = .int ((isum (wkM g v st w) k) + 1) := (by simp [isum_s, wkM, kM, c45, n45, c64, c75, c85, n85, c106, n106, c125])
                      exact ih (k + 1) (by omega) (by omega) _ _ hP hD hS ls (by rw [eL0]; exact lv_sub hl [0, 1, 3, 4, 5] rfl)
      exact lp (n + 1) 0 (by omega) (by omega) _ _ hP hD hS ls (lv_sub hl [0, 1, 2, 3, 4] rfl)
    · have c29 := bI_n0.mp c29
      refine lv_iconst (v := 0) hx hb dX5_work_32 (by decide) ?_
      exact (W.iret (v := 0) hx hb hr (fun t9 ht hW => ⟨⟨_, ((upd v 0 (thI (bI (!(inB st 0 5) || !(inB w 0 1))) 0 0)), g), rfl, ⟨(by first | rfl | (simp only [if_pos (of_decide_eq_true c29)]; done) | (simp only [if_pos (of_decide_eq_true c29)]; subst hkn2; rfl)), (by first | rfl | (simp only [if_pos (of_decide_eq_true c29)]; done) | (simp only [if_pos (of_decide_eq_true c29)]; subst hkn2; rfl))⟩, ⟨by rw [ht]; exact hP, va_K.moved hW.alike hK, hD⟩⟩, hS.F ht⟩) hS.2.2 dX5_work_33)
  refine lv_iload_n hx hb dX5_work_1 rfl (lv_at hl 1 rfl) ?_
  refine lv_iconst (v := 0) hx hb dX5_work_2 (by decide) ?_
  refine lv_iconst (v := 5) hx hb dX5_work_3 (by decide) ?_
  refine vp_callSi (W.runS (As := [.int st, .int 0, .int 5]) (rest := [.ref (a 0)]) ⟨hx, hb, hml, hown, hts⟩ (m_in l dC dI cI cZ cJ a v g st 0 5) (cwS 3 hts (gd_S ml_X5_X5_in sm_X5_in in_X5 kX5_in) rfl rfl rfl (by decide +kernel) ⟨Nat.le_of_ble_eq_true rfl, Nat.le_of_ble_eq_true rfl⟩) ⟨fun _ U g mk q => by obtain ⟨q0, qP, qK⟩ := q; exact ⟨q0, qP, va_K.moved (u := U) (U := U.calling g mk _) (Vm.Alike.refl U.vm) qK⟩, fun U hU hW => ⟨rfl, by rw [hU]; exact hP, va_K.moved hW.alike hK⟩⟩ rfl rfl hl.1 rfl (lv_room (Nat.le_of_ble_eq_true rfl)) dX5_work_4 ⟨Nat.le_of_ble_eq_true rfl, Nat.le_of_ble_eq_true rfl⟩) (fun r4 hr4 => ?_)
  subst hr4
  refine lv_if_eq (tgt := 19) hx hb dX5_work_7 (by decide) (fun c7 => ?_) (fun c7 => ?_)
  · have c7 := bI_0.mp c7
    refine lv_iconst (v := 1) hx hb dX5_work_19 (by decide) ?_
    refine lv_goto (tgt := 24) hx hb dX5_work_20 (by decide) ?_
    exact jn24 _ (by first | (simp [bI, c7]; done))
  · have c7 := bI_n0.mp c7
    refine lv_iload_n hx hb dX5_work_10 rfl (lv_at hl 2 rfl) ?_
    refine lv_iconst (v := 0) hx hb dX5_work_11 (by decide) ?_
    refine lv_iconst (v := 1) hx hb dX5_work_12 (by decide) ?_
    refine vp_callSi (W.runS (As := [.int w, .int 0, .int 1]) (rest := [.ref (a 0)]) ⟨hx, hb, hml, hown, hts⟩ (m_in l dC dI cI cZ cJ a v g w 0 1) (cwS 3 hts (gd_S ml_X5_X5_in sm_X5_in in_X5 kX5_in) rfl rfl rfl (by decide +kernel) ⟨Nat.le_of_ble_eq_true rfl, Nat.le_of_ble_eq_true rfl⟩) ⟨fun _ U g mk q => by obtain ⟨q0, qP, qK⟩ := q; exact ⟨q0, qP, va_K.moved (u := U) (U := U.calling g mk _) (Vm.Alike.refl U.vm) qK⟩, fun U hU hW => ⟨rfl, by rw [hU]; exact hP, va_K.moved hW.alike hK⟩⟩ rfl rfl hl.1 rfl (lv_room (Nat.le_of_ble_eq_true rfl)) dX5_work_13 ⟨Nat.le_of_ble_eq_true rfl, Nat.le_of_ble_eq_true rfl⟩) (fun r13 hr13 => ?_)
    subst hr13
    refine lv_if_ne (tgt := 23) hx hb dX5_work_16 (by decide) (fun c16 => ?_) (fun c16 => ?_)
    · have c16 := bI_n0.mp c16
      refine lv_iconst (v := 0) hx hb dX5_work_23 (by decide) ?_
      exact jn24 _ (by first | (simp [bI, c7, c16]; done) | exact absurd (c7.symm.trans c16) (by decide))
    · have c16 := bI_0.mp c16
      refine lv_iconst (v := 1) hx hb dX5_work_19 (by decide) ?_
      refine lv_goto (tgt := 24) hx hb dX5_work_20 (by decide) ?_
      exact jn24 _ (by first | (simp [bI, c7, c16]; done) | exact absurd (c7.symm.trans c16) (by decide))
-- perThousand
