
theorem upg_at (g : Nat → Nat → Int32) (j k : Nat) (x : Int32) : upg g j k x j k = x := by simp [upg, upd]
/-- a sum put at its place among the first m sorted ones -/
def insG (x : Int32) : Nat → (Nat → Nat → Int32) → (Nat → Nat → Int32)
  | 0, g => upg g 11 0 x
  | q + 1, g => if x < g 11 q then insG x q (upg g 11 (q + 1) (g 11 q)) else upg g 11 (q + 1) x
/-- areas joined, as long as there are too few rows together -/
noncomputable def jmS : Nat → StA → StA
  | 0, u => u
  | d + 1, u => if u.1 8 < u.1 7 then (if fewest u.2 < 0 then u else jmS d (upd u.1 8 (u.1 8 + u.2 13 (fewest u.2).toNatClampNeg), upg u.2 14 (fewest u.2).toNatClampNeg 1)) else u
theorem fewest_at (g : Nat → Nat → Int32) (h : ¬ fewest g < 0) : fewest g = nI (fewest g).toNatClampNeg ∧ (fewest g).toNatClampNeg < 10 := by
  have e : fewest g = fewI g 10 := by rw [fewest, n10_eq]
  rw [e] at h ⊢
  rcases fewI_in g 10 (Nat.le_refl _) with h1 | ⟨j, h1, h2⟩
  · exact absurd h1 h
  · rw [h2, nI_clamp (by omega)]; exact ⟨rfl, h1⟩
/-- the first k areas counted -/
def jlS (v : Nat → Int32) (g : Nat → Nat → Int32) (f t : Int32) (n : Nat) : Nat → StA
  | 0 => (upd v 8 0, g)
  | k + 1 => if 1 ≤ cnt (fun i => askB (jlS v g f t n k).2 i f t (-1) (nI k)) n ∧ cnt (fun i => askB (jlS v g f t n k).2 i f t (-1) (nI k)) n < (jlS v g f t n k).1 7 then (upd (jlS v g f t n k).1 8 ((jlS v g f t n k).1 8 + cnt (fun i => askB (jlS v g f t n k).2 i f t (-1) (nI k)) n), upg (upg (jlS v g f t n k).2 13 k (cnt (fun i => askB (jlS v g f t n k).2 i f t (-1) (nI k)) n)) 14 k 1)
      else (upd (jlS v g f t n k).1 8 ((jlS v g f t n k).1 8 + 0), upg (upg (jlS v g f t n k).2 13 k (cnt (fun i => askB (jlS v g f t n k).2 i f t (-1) (nI k)) n)) 14 k 0)
theorem jlS_5 (v : Nat → Int32) (g : Nat → Nat → Int32) (f t : Int32) (n : Nat) : ∀ k, (jlS v g f t n k).1 5 = v 5 := by
  intro k
  induction k with
  | zero => rfl
  | succ k ih => rw [jlS]; split <;> (rw [← ih]; rfl)
noncomputable def joinS (v : Nat → Int32) (g : Nat → Nat → Int32) (f t : Int32) (n : Nat) : StA :=
  if 0 < (jlS v g f t n n10).1 8 then jmS n10 (upd (jlS v g f t n n10).1 8 ((jlS v g f t n n10).1 8 + cnt (fun i => hidB (jlS v g f t n n10).2 i && spanB (jlS v g f t n n10).2 i f t) n), (jlS v g f t n n10).2) else jlS v g f t n n10
/-- the sums of the first k rows, sorted: how many, and where -/
def spS (g : Nat → Nat → Int32) (f t kd ar : Int32) : Nat → Nat × (Nat → Nat → Int32)
  | 0 => (0, g)
  | k + 1 => if askB (spS g f t kd ar k).2 k f t kd ar = true ∧ bothB (spS g f t kd ar k).2 k = true then ((spS g f t kd ar k).1 + 1, insG ((spS g f t kd ar k).2 9 k + (spS g f t kd ar k).2 10 k) (spS g f t kd ar k).1 (spS g f t kd ar k).2) else spS g f t kd ar k
theorem spS_le (g : Nat → Nat → Int32) (f t kd ar : Int32) : ∀ k, (spS g f t kd ar k).1 ≤ k := by
  intro k
  induction k with
  | zero => exact Nat.le_refl _
  | succ k ih => rw [spS]; split
                 · exact Nat.succ_le_succ ih
                 · exact Nat.le_succ_of_le ih
def plI (g : Nat → Nat → Int32) (p : Int32) (m : Nat) : Int32 := if 1 ≤ (p * nI m + 100 - 1) / 100 ∧ (p * nI m + 100 - 1) / 100 ≤ nI m then g 11 ((p * nI m + 100 - 1) / 100 - 1).toNatClampNeg else -1
theorem idx_ok {x : Int32} {m : Nat} (h1 : 1 ≤ x) (h2 : x ≤ nI m) (hm : m ≤ 200) : x - 1 = nI (x - 1).toNatClampNeg ∧ (x - 1).toNatClampNeg < 200 := by
  have h0 : ¬ x < 0 := fun h => by
    have := Int32.lt_iff_toInt_lt.mp h
    have := Int32.le_iff_toInt_le.mp h1
    simp at *
    omega
  obtain ⟨j, hj, rfl⟩ := nI_of h0
  have e1 : 1 ≤ j := (nI_leI (a := 1) (by decide) hj).mp h1
  have e2 : j ≤ m := (nI_leI hj (by omega)).mp h2
  have e : nI j - 1 = nI (j - 1) := by
    obtain ⟨q, rfl⟩ : ∃ q, j = q + 1 := ⟨j - 1, by omega⟩
    exact nI_pred q
  rw [e, nI_clamp (by omega)]
  exact ⟨rfl, by omega⟩

set_option maxHeartbeats 4000000 in
set_option maxRecDepth 100000 in
theorem c_sortIn (l : Launch) (dC : Nat → ClassId) (dI : Nat → Nat → Nat) (cI cZ cJ : ClassId) (a : Nat → Nat) (v : Nat → Int32) (g : Nat → Nat → Int32) (sz : Nat) (x : Int32) (m0 : Nat) (hm : m0 < 200) : Met l yX1_sortIn wsX1_sortIn ({ frames := 0, cells := 0, slots := 0, locals := 0 }) (va_Pc [.ref (a 5), .int x, .int (nI m0)] (fun U => U.heap.size = sz ∧ va_P (dC, dI) clA (wA cI cZ a v g) U.heap ∧ va_K (dC, dI) clA (tyA cI cZ cJ) U ∧ va_D (fun _ => True) (wA cI cZ a v g))) (va_Qv (fun (u : StA) => u = (v, insG x m0 g)) (atA dC dI cI cZ cJ a (va_A (wA cI cZ a v g) sz)) (va_A (wA cI cZ a v g) sz))  0 0 (va_A (wA cI cZ a v g) sz) := by
  refine Met.ofW (cc := cX1_sortIn) (maxL := 4) (ret := none) (by decide) rfl ?_
  intro p e s m args below meth c s₁ B hml hv
  obtain ⟨rfl, hsz, hP, hK, hD0⟩ := hv
  have hx := B.exec
  have hb := B.bytes
  have hr := B.returns
  have hts := atoms_spec (ws := wsX1_sortIn) B.pre
  have hown : s.vm.findClass RX1 = some m.cls := findClass_of_methodNamed B.named
  have hlocks := B.notSynchronized
  subst hsz
  have hD := hD0.self (sz := s.heap.size)
  generalize hAe : va_A (wA cI cZ a v g) s.heap.size = A at hD ⊢
  have hA : ∀ q : Nat, s.heap.size ≤ q → A q := fun q h => by rw [← hAe]; exact Or.inr h
  have hS : va_S A s.heap s.heap [] := va_S.rf
  have hP : va_P (dC, dI) clA (wA cI cZ a v g) s.heap := hP
  have hl := lv_entry ([.ref (a 5), .int x, .int (nI m0)]) (n := 4) (Nat.le_of_ble_eq_true rfl)
  rw [lg_entry_eq]
  generalize (lg_sl ([.ref (a 5), .int x, .int (nI m0)]) ++ List.replicate (4 - (lg_sl ([.ref (a 5), .int x, .int (nI m0)])).length) Slot.unset).toArray = ls at hl ⊢
  have hl : lv_has ls 4 [(0, .ref (a 5)), (1, .int x), (2, .int (nI m0))] := hl
  refine lv_iload_n hx hb dX1_sortIn_0 rfl (lv_at hl 2 rfl) ?_
  refine lv_if_lt (tgt := 11) hx hb dX1_sortIn_1 (by decide) (fun c1 => ?_) (fun c1 => ?_)
  · exact absurd c1 (nI_pos (by omega))
  · refine lv_iload_n hx hb dX1_sortIn_4 rfl (lv_at hl 2 rfl) ?_
    refine lv_sipush (v := 200) hx hb dX1_sortIn_5 (by decide) ?_
    refine lv_icmp_lt (tgt := 12) hx hb dX1_sortIn_8 (by decide) (fun c8 => ?_) (fun c8 => ?_)
    · refine lv_iload_n hx hb dX1_sortIn_12 rfl (lv_at hl 2 rfl) ?_
      refine lv_istore_n (lv' := [(3, .int (nI m0)), (0, .ref (a 5)), (1, .int x), (2, .int (nI m0))]) hx hb dX1_sortIn_13 rfl hl (by decide) rfl (fun ls hl => ?_)
      have lp : ∀ (q : Nat) (G : Nat → Nat → Int32), q < 200 → insG x q G = insG x m0 g → ∀ (H : Heap) (locs : List Loc), va_P (dC, dI) clA (wA cI cZ a v G) H → va_D A (wA cI cZ a v G) → va_S A s.heap H locs → ∀ (ls : Array Slot), lv_has ls 4 [(3, .int (nI q)), (0, .ref (a 5)), (1, .int x), (2, .int (nI m0))] → W p l e (headSpec wsX1_sortIn ({ frames := 0, cells := 0, slots := 0, locals := 0 })).room s m ([.ref (a 5), .int x, .int (nI m0)] : List Value).toArray below meth c H locs 0 0 (MQ below (va_Qv (fun (u : StA) => u = (v, insG x m0 g)) (atA dC dI cI cZ cJ a A) A) ([.ref (a 5), .int x, .int (nI m0)] : List Value).toArray s 0 0 A) (F0 m 14 ls []) := by
        intro q
        induction q with
        | zero =>
          intro G hq hG H locs hP hD hS ls hl
          refine lv_iload_n hx hb dX1_sortIn_14 rfl (lv_at hl 0 rfl) ?_
          refine lv_if_le (tgt := 50) hx hb dX1_sortIn_15 (by decide) (fun c15 => ?_) (fun c15 => ?_)
          · refine lv_aload_n hx hb dX1_sortIn_50 rfl (lv_at hl 1 rfl) ?_
            refine va_get (D := (dC, dI)) (ci := 1) (v := .ref (a 14)) (C := RX1) (T := TX1) (N := 10) hx hb hts (fun w h => List.mem_cons_of_mem _ (iw_X1 w h)) hown hK hP 5 rfl rfl 8 (by decide) (hts _ (List.mem_cons_of_mem _ fl_X1_sortedSums)) (fun _ h9 => h9) rfl dX1_sortIn_51 ?_
            refine lv_iload_n hx hb dX1_sortIn_54 rfl (lv_at hl 0 rfl) ?_
            refine lv_iload_n hx hb dX1_sortIn_55 rfl (lv_at hl 2 rfl) ?_
            refine wi_ast hx hb hK hP hD hS 14 0 rfl rfl (k := 0) (by omega) (by decide) dX1_sortIn_56 (fun H locs hP hD hS => ?_)
            have hP : va_P (dC, dI) clA (wA cI cZ a v (upg G 11 0 x)) H := hP
            have hD : va_D A (wA cI cZ a v (upg G 11 0 x)) := hD
            exact (W.vret hx hb hr (fun t9 ht hW => ⟨⟨(v, (upg G 11 0 x)), rfl, (by rw [← hG]; rfl), ⟨by rw [ht]; exact hP, va_K.moved hW.alike hK, hD⟩⟩, hS.F ht⟩) hS.2.2 dX1_sortIn_57)
          · exact absurd (show nI 0 ≤ 0 by decide) c15
        | succ q ih =>
          intro G hq hG H locs hP hD hS ls hl
          refine lv_iload_n hx hb dX1_sortIn_14 rfl (lv_at hl 0 rfl) ?_
          refine lv_if_le (tgt := 50) hx hb dX1_sortIn_15 (by decide) (fun c15 => ?_) (fun c15 => ?_)
          · exact absurd c15 (nI_nle (by omega) (by omega))
          · refine lv_aload_n hx hb dX1_sortIn_18 rfl (lv_at hl 1 rfl) ?_
            refine va_get (D := (dC, dI)) (ci := 1) (v := .ref (a 14)) (C := RX1) (T := TX1) (N := 10) hx hb hts (fun w h => List.mem_cons_of_mem _ (iw_X1 w h)) hown hK hP 5 rfl rfl 8 (by decide) (hts _ (List.mem_cons_of_mem _ fl_X1_sortedSums)) (fun _ h9 => h9) rfl dX1_sortIn_19 ?_
            refine lv_iload_n hx hb dX1_sortIn_22 rfl (lv_at hl 0 rfl) ?_
            refine lv_iconst (v := 1) hx hb dX1_sortIn_23 (by decide) ?_
            refine lv_isub hx hb dX1_sortIn_24 ?_
            refine wi_aldE hx hb hK hP 14 0 rfl rfl (k := q) (nI_pred q) (by omega) (by decide) dX1_sortIn_25 ?_
            refine lv_iload_n hx hb dX1_sortIn_26 rfl (lv_at hl 2 rfl) ?_
            refine lv_icmp_le (tgt := 50) hx hb dX1_sortIn_27 (by decide) (fun c27 => ?_) (fun c27 => ?_)
            · have n27 := Int32.not_lt.mpr c27
              refine lv_aload_n hx hb dX1_sortIn_50 rfl (lv_at hl 1 rfl) ?_
              refine va_get (D := (dC, dI)) (ci := 1) (v := .ref (a 14)) (C := RX1) (T := TX1) (N := 10) hx hb hts (fun w h => List.mem_cons_of_mem _ (iw_X1 w h)) hown hK hP 5 rfl rfl 8 (by decide) (hts _ (List.mem_cons_of_mem _ fl_X1_sortedSums)) (fun _ h9 => h9) rfl dX1_sortIn_51 ?_
              refine lv_iload_n hx hb dX1_sortIn_54 rfl (lv_at hl 0 rfl) ?_
              refine lv_iload_n hx hb dX1_sortIn_55 rfl (lv_at hl 2 rfl) ?_
              refine wi_ast hx hb hK hP hD hS 14 0 rfl rfl (k := ((q + 1))) (by omega) (by decide) dX1_sortIn_56 (fun H locs hP hD hS => ?_)
              have hP : va_P (dC, dI) clA (wA cI cZ a v (upg G 11 ((q + 1)) x)) H := hP
              have hD : va_D A (wA cI cZ a v (upg G 11 ((q + 1)) x)) := hD
              exact (W.vret hx hb hr (fun t9 ht hW => ⟨⟨(v, (upg G 11 ((q + 1)) x)), rfl, (by rw [← hG, insG, if_neg n27]), ⟨by rw [ht]; exact hP, va_K.moved hW.alike hK, hD⟩⟩, hS.F ht⟩) hS.2.2 dX1_sortIn_57)
            · have n27 := Int32.not_le.mp c27
              refine lv_aload_n hx hb dX1_sortIn_30 rfl (lv_at hl 1 rfl) ?_
              refine va_get (D := (dC, dI)) (ci := 1) (v := .ref (a 14)) (C := RX1) (T := TX1) (N := 10) hx hb hts (fun w h => List.mem_cons_of_mem _ (iw_X1 w h)) hown hK hP 5 rfl rfl 8 (by decide) (hts _ (List.mem_cons_of_mem _ fl_X1_sortedSums)) (fun _ h9 => h9) rfl dX1_sortIn_31 ?_
              refine lv_iload_n hx hb dX1_sortIn_34 rfl (lv_at hl 0 rfl) ?_
              refine lv_aload_n hx hb dX1_sortIn_35 rfl (lv_at hl 1 rfl) ?_
              refine va_get (D := (dC, dI)) (ci := 1) (v := .ref (a 14)) (C := RX1) (T := TX1) (N := 10) hx hb hts (fun w h => List.mem_cons_of_mem _ (iw_X1 w h)) hown hK hP 5 rfl rfl 8 (by decide) (hts _ (List.mem_cons_of_mem _ fl_X1_sortedSums)) (fun _ h9 => h9) rfl dX1_sortIn_36 ?_
              refine lv_iload_n hx hb dX1_sortIn_39 rfl (lv_at hl 0 rfl) ?_
              refine lv_iconst (v := 1) hx hb dX1_sortIn_40 (by decide) ?_
              refine lv_isub hx hb dX1_sortIn_41 ?_
              refine wi_aldE hx hb hK hP 14 0 rfl rfl (k := q) (nI_pred q) (by omega) (by decide) dX1_sortIn_42 ?_
              refine wi_ast hx hb hK hP hD hS 14 0 rfl rfl (k := ((q + 1))) (by omega) (by decide) dX1_sortIn_43 (fun H locs hP hD hS => ?_)
              have hP : va_P (dC, dI) clA (wA cI cZ a v (upg G 11 ((q + 1)) (G 11 q))) H := hP
              have hD : va_D A (wA cI cZ a v (upg G 11 ((q + 1)) (G 11 q))) := hD
              refine lv_iinc (v := nI q) (lv' := [(3, .int (nI q)), (0, .ref (a 5)), (1, .int x), (2, .int (nI m0))]) hx hb dX1_sortIn_44 hl (k := 0) rfl (by rw [show (Int32.ofInt (-1)) = -1 from by decide]; exact pk_m1 q) (by decide) rfl (fun ls hl => ?_)
              refine lv_goto (tgt := 14) hx hb dX1_sortIn_47 (by decide) ?_
              exact ih _ (by omega) (by rw [← hG, insG, if_pos n27]) _ _ hP hD hS ls (lv_sub hl [0, 1, 2, 3] rfl)
      exact lp m0 g hm rfl _ _ hP hD hS ls (lv_sub hl [0, 1, 2, 3] rfl)
    · exact absurd (nI_lt (a := m0) (b := 200) hm (by decide)) c8
set_option maxHeartbeats 4000000 in
set_option maxRecDepth 100000 in
theorem c_joinMore (l : Launch) (dC : Nat → ClassId) (dI : Nat → Nat → Nat) (cI cZ cJ : ClassId) (a : Nat → Nat) (v : Nat → Int32) (g : Nat → Nat → Int32) (sz : Nat)  : Met l yX2_joinMore wsX2_joinMore ({ frames := 1, cells := 0, slots := 0, locals := 23 }) (va_Pc [.ref (a 17)] (fun U => U.heap.size = sz ∧ va_P (dC, dI) clA (wA cI cZ a v g) U.heap ∧ va_K (dC, dI) clA (tyA cI cZ cJ) U ∧ va_D (fun _ => True) (wA cI cZ a v g))) (va_Qv (fun (u : StA) => u = ((jmS n10 (v, g)).1, (jmS n10 (v, g)).2)) (atA dC dI cI cZ cJ a (va_A (wA cI cZ a v g) sz)) (va_A (wA cI cZ a v g) sz))  0 0 (va_A (wA cI cZ a v g) sz) := by
  refine Met.ofW (cc := cX2_joinMore) (maxL := 3) (ret := none) (by decide) rfl ?_
  intro p e s m args below meth c s₁ B hml hv
  obtain ⟨rfl, hsz, hP, hK, hD0⟩ := hv
  have hx := B.exec
  have hb := B.bytes
  have hr := B.returns
  have hts := atoms_spec (ws := wsX2_joinMore) B.pre
  have hown : s.vm.findClass RX2 = some m.cls := findClass_of_methodNamed B.named
  have hlocks := B.notSynchronized
  subst hsz
  have hD := hD0.self (sz := s.heap.size)
  generalize hAe : va_A (wA cI cZ a v g) s.heap.size = A at hD ⊢
  have hA : ∀ q : Nat, s.heap.size ≤ q → A q := fun q h => by rw [← hAe]; exact Or.inr h
  have hS : va_S A s.heap s.heap [] := va_S.rf
  have hP : va_P (dC, dI) clA (wA cI cZ a v g) s.heap := hP
  have hl := lv_entry ([.ref (a 17)]) (n := 3) (Nat.le_of_ble_eq_true rfl)
  rw [lg_entry_eq]
  generalize (lg_sl ([.ref (a 17)]) ++ List.replicate (3 - (lg_sl ([.ref (a 17)])).length) Slot.unset).toArray = ls at hl ⊢
  have hl : lv_has ls 3 [(0, .ref (a 17))] := hl
  refine lv_iconst (v := 0) hx hb dX2_joinMore_0 (by decide) ?_
  refine lv_istore_n (lv' := [(1, .int 0), (0, .ref (a 17))]) hx hb dX2_joinMore_1 rfl hl (by decide) rfl (fun ls hl => ?_)
  have lp : ∀ (d k : Nat) (V : Nat → Int32) (G : Nat → Nat → Int32), k + d = 10 → jmS d (V, G) = jmS n10 (v, g) → ∀ (H : Heap) (locs : List Loc), va_P (dC, dI) clA (wA cI cZ a V G) H → va_D A (wA cI cZ a V G) → va_S A s.heap H locs → ∀ (ls : Array Slot), lv_has ls 3 [(1, .int (nI k)), (0, .ref (a 17))] → W p l e (headSpec wsX2_joinMore ({ frames := 1, cells := 0, slots := 0, locals := 23 })).room s m ([.ref (a 17)] : List Value).toArray below meth c H locs 0 0 (MQ below (va_Qv (fun (u : StA) => u = ((jmS n10 (v, g)).1, (jmS n10 (v, g)).2)) (atA dC dI cI cZ cJ a A) A) ([.ref (a 17)] : List Value).toArray s 0 0 A) (F0 m 2 ls []) := by
    intro d
    induction d with
    | zero =>
      intro k V G hk hG H locs hP hD hS ls hl
      refine lv_iload_n hx hb dX2_joinMore_2 rfl (lv_at hl 0 rfl) ?_
      refine lv_bipush (v := 10) hx hb dX2_joinMore_3 (by decide) ?_
      refine lv_icmp_ge (tgt := 57) hx hb dX2_joinMore_5 (by decide) (fun c5 => ?_) (fun c5 => ?_)
      · exact (W.vret hx hb hr (fun t9 ht hW => ⟨⟨(V, G), rfl, (by rw [← hG]; rfl), ⟨by rw [ht]; exact hP, va_K.moved hW.alike hK, hD⟩⟩, hS.F ht⟩) hS.2.2 dX2_joinMore_57)
      · exact absurd (by rw [show k = 10 by omega]; decide) c5
    | succ d ih =>
      intro k V G hk hG H locs hP hD hS ls hl
      refine lv_iload_n hx hb dX2_joinMore_2 rfl (lv_at hl 0 rfl) ?_
      refine lv_bipush (v := 10) hx hb dX2_joinMore_3 (by decide) ?_
      refine lv_icmp_ge (tgt := 57) hx hb dX2_joinMore_5 (by decide) (fun c5 => ?_) (fun c5 => ?_)
      · exact absurd c5 (nI_ge (a := k) (b := 10) (by omega) (by decide))
      · refine lv_aload_n hx hb dX2_joinMore_8 rfl (lv_at hl 1 rfl) ?_
        refine va_get (D := (dC, dI)) (ci := 2) (v := .int (V 8)) (C := RX2) (T := TX2) (N := 4) hx hb hts (fun w h => List.mem_cons_of_mem _ (iw_X2 w h)) hown hK hP 17 rfl rfl 3 (by decide) (hts _ (List.mem_cons_of_mem _ fl_X2_together)) (fun _ h9 => h9) rfl dX2_joinMore_9 ?_
        refine lv_aload_n hx hb dX2_joinMore_12 rfl (lv_at hl 1 rfl) ?_
        refine va_get (D := (dC, dI)) (ci := 2) (v := .int (V 7)) (C := RX2) (T := TX2) (N := 4) hx hb hts (fun w h => List.mem_cons_of_mem _ (iw_X2 w h)) hown hK hP 17 rfl rfl 2 (by decide) (hts _ (List.mem_cons_of_mem _ fl_X2_lowestShown)) (fun _ h9 => h9) rfl dX2_joinMore_13 ?_
        refine lv_icmp_ge (tgt := 57) hx hb dX2_joinMore_16 (by decide) (fun c16 => ?_) (fun c16 => ?_)
        · have n16 := Int32.not_lt.mpr c16
          exact (W.vret hx hb hr (fun t9 ht hW => ⟨⟨(V, G), rfl, (by rw [← hG, jmS, if_neg n16]), ⟨by rw [ht]; exact hP, va_K.moved hW.alike hK, hD⟩⟩, hS.F ht⟩) hS.2.2 dX2_joinMore_57)
        · have n16 := Int32.not_le.mp c16
          refine lv_aload_n hx hb dX2_joinMore_19 rfl (lv_at hl 1 rfl) ?_
          refine vp_callSi (W.runV (As := []) (rest := []) ⟨hx, hb, hml, hown, hts⟩ (c_fewest l dC dI cI cZ cJ a V G ) (cwV 0 hts (gd_V ml_X2_X2_areaOfFewest im_X2_areaOfFewest se_X2_areaOfFewest in_X2 kX2_areaOfFewest) rfl rfl rfl (by decide +kernel) ⟨Nat.le_of_ble_eq_true rfl, Nat.le_of_ble_eq_true rfl⟩) ⟨fun _ U g mk q => by obtain ⟨q0, qP, qK⟩ := q; exact ⟨q0, qP, va_K.moved (u := U) (U := U.calling g mk _) (Vm.Alike.refl U.vm) qK⟩, va_recv hK hP (ci := 2) (q0 := 17) rfl rfl, fun U hU hW => ⟨rfl, by rw [hU]; exact hP, va_K.moved hW.alike hK⟩⟩ rfl rfl hl.1 rfl (lv_room (Nat.le_of_ble_eq_true rfl)) dX2_joinMore_20 ⟨Nat.le_of_ble_eq_true rfl, Nat.le_of_ble_eq_true rfl⟩) (fun r20 hr20 => ?_)
          subst hr20
          refine lv_istore_n (lv' := [(2, .int (fewest G)), (1, .int (nI k)), (0, .ref (a 17))]) hx hb dX2_joinMore_23 rfl hl (by decide) rfl (fun ls hl => ?_)
          refine lv_iload_n hx hb dX2_joinMore_24 rfl (lv_at hl 0 rfl) ?_
          refine lv_if_ge (tgt := 29) hx hb dX2_joinMore_25 (by decide) (fun c25 => ?_) (fun c25 => ?_)
          · have n25 := Int32.not_lt.mpr c25
            refine lv_aload_n hx hb dX2_joinMore_29 rfl (lv_at hl 2 rfl) ?_
            refine va_get (D := (dC, dI)) (ci := 2) (v := .ref (a 19)) (C := RX2) (T := TX2) (N := 4) hx hb hts (fun w h => List.mem_cons_of_mem _ (iw_X2 w h)) hown hK hP 17 rfl rfl 1 (by decide) (hts _ (List.mem_cons_of_mem _ fl_X2_isJoined)) (fun _ h9 => h9) rfl dX2_joinMore_30 ?_
            refine lv_iload_n hx hb dX2_joinMore_33 rfl (lv_at hl 0 rfl) ?_
            refine lv_iconst (v := 1) hx hb dX2_joinMore_34 (by decide) ?_
            refine wz_astE hx hb hK hP hD hS 19 1 rfl rfl (k := ((fewest G).toNatClampNeg)) (fewest_at G n25).1 rfl (fewest_at G n25).2 (by decide) dX2_joinMore_35 (fun H locs hP hD hS => ?_)
            have hP : va_P (dC, dI) clA (wA cI cZ a V (upg G 14 ((fewest G).toNatClampNeg) 1)) H := hP
            have hD : va_D A (wA cI cZ a V (upg G 14 ((fewest G).toNatClampNeg) 1)) := hD
            refine lv_aload_n hx hb dX2_joinMore_36 rfl (lv_at hl 2 rfl) ?_
            refine lv_dup hx hb dX2_joinMore_37 rfl ?_
            refine va_get (D := (dC, dI)) (ci := 2) (v := .int (V 8)) (C := RX2) (T := TX2) (N := 4) hx hb hts (fun w h => List.mem_cons_of_mem _ (iw_X2 w h)) hown hK hP 17 rfl rfl 3 (by decide) (hts _ (List.mem_cons_of_mem _ fl_X2_together)) (fun _ h9 => h9) rfl dX2_joinMore_38 ?_
            refine lv_aload_n hx hb dX2_joinMore_41 rfl (lv_at hl 2 rfl) ?_
            refine va_get (D := (dC, dI)) (ci := 2) (v := .ref (a 18)) (C := RX2) (T := TX2) (N := 4) hx hb hts (fun w h => List.mem_cons_of_mem _ (iw_X2 w h)) hown hK hP 17 rfl rfl 0 (by decide) (hts _ (List.mem_cons_of_mem _ fl_X2_rowsOfArea)) (fun _ h9 => h9) rfl dX2_joinMore_42 ?_
            refine lv_iload_n hx hb dX2_joinMore_45 rfl (lv_at hl 0 rfl) ?_
            refine wi_aldE hx hb hK hP 18 0 rfl rfl (k := ((fewest G).toNatClampNeg)) (fewest_at G n25).1 (fewest_at G n25).2 (by decide) dX2_joinMore_46 ?_
            refine lv_iadd hx hb dX2_joinMore_47 ?_
            refine va_put (D := (dC, dI)) (ci := 2) (v := .int ((V 8) + ((upg G 14 ((fewest G).toNatClampNeg) 1) 13 ((fewest G).toNatClampNeg)))) (ty := .int) (C := RX2) (T := TX2) (N := 4) hx hb hts (fun w h => List.mem_cons_of_mem _ (iw_X2 w h)) tyX2 tyX2_ok nmX2 hown hK hP hD hS 17 rfl rfl 3 (by decide) (hts _ (List.mem_cons_of_mem _ fl_X2_together)) (fun _ h9 => h9) rfl (by decide +kernel) rfl rfl (Nat.le_of_ble_eq_true rfl) dX2_joinMore_48 (fun H locs hP hD hS => ?_)
            have hP : va_P (dC, dI) clA (wA cI cZ a (upd V 8 ((V 8) + ((upg G 14 ((fewest G).toNatClampNeg) 1) 13 ((fewest G).toNatClampNeg)))) (upg G 14 ((fewest G).toNatClampNeg) 1)) H := hP
            have hD : va_D A (wA cI cZ a (upd V 8 ((V 8) + ((upg G 14 ((fewest G).toNatClampNeg) 1) 13 ((fewest G).toNatClampNeg)))) (upg G 14 ((fewest G).toNatClampNeg) 1)) := hD
            refine lv_iinc (v := nI (k + 1)) (lv' := [(1, .int (nI (k + 1))), (2, .int (fewest G)), (0, .ref (a 17))]) hx hb dX2_joinMore_51 hl (k := 1) rfl (nI_1 k) (by decide) rfl (fun ls hl => ?_)
            refine lv_goto (tgt := 2) hx hb dX2_joinMore_54 (by decide) ?_
            exact ih (k + 1) _ _ (by omega) (by rw [← hG, jmS, if_pos n16, if_neg n25]; rfl) _ _ hP hD hS ls (lv_sub hl [0, 2] rfl)
          · have n25 := Int32.not_le.mp c25
            exact (W.vret hx hb hr (fun t9 ht hW => ⟨⟨(V, G), rfl, (by rw [← hG, jmS, if_pos n16, if_pos n25]), ⟨by rw [ht]; exact hP, va_K.moved hW.alike hK, hD⟩⟩, hS.F ht⟩) hS.2.2 dX2_joinMore_28)
  exact lp 10 0 v g rfl (by rw [n10_eq]) _ _ hP hD hS ls (lv_sub hl [0, 1] rfl)
set_option maxHeartbeats 4000000 in
set_option maxRecDepth 100000 in
theorem c_join (l : Launch) (dC : Nat → ClassId) (dI : Nat → Nat → Nat) (cI cZ cJ : ClassId) (a : Nat → Nat) (v : Nat → Int32) (g : Nat → Nat → Int32) (sz : Nat) (n : Nat) (hn : v 5 = nI n) (hn2 : n ≤ 200) (f t : Int32) : Met l yX2_join wsX2_join ({ frames := 3, cells := 0, slots := 0, locals := 74 }) (va_Pc [.ref (a 17), .ref (a 5), .int f, .int t] (fun U => U.heap.size = sz ∧ va_P (dC, dI) clA (wA cI cZ a v g) U.heap ∧ va_K (dC, dI) clA (tyA cI cZ cJ) U ∧ va_D (fun _ => True) (wA cI cZ a v g))) (va_Qv (fun (u : StA) => u = ((joinS v g f t n).1, (joinS v g f t n).2)) (atA dC dI cI cZ cJ a (va_A (wA cI cZ a v g) sz)) (va_A (wA cI cZ a v g) sz))  0 0 (va_A (wA cI cZ a v g) sz) := by
  refine Met.ofW (cc := cX2_join) (maxL := 6) (ret := none) (by decide) rfl ?_
  intro p e s m args below meth c s₁ B hml hv
  obtain ⟨rfl, hsz, hP, hK, hD0⟩ := hv
  have hx := B.exec
  have hb := B.bytes
  have hr := B.returns
  have hts := atoms_spec (ws := wsX2_join) B.pre
  have hown : s.vm.findClass RX2 = some m.cls := findClass_of_methodNamed B.named
  have hlocks := B.notSynchronized
  subst hsz
  have hD := hD0.self (sz := s.heap.size)
  generalize hAe : va_A (wA cI cZ a v g) s.heap.size = A at hD ⊢
  have hA : ∀ q : Nat, s.heap.size ≤ q → A q := fun q h => by rw [← hAe]; exact Or.inr h
  have hS : va_S A s.heap s.heap [] := va_S.rf
  have hP : va_P (dC, dI) clA (wA cI cZ a v g) s.heap := hP
  have hl := lv_entry ([.ref (a 17), .ref (a 5), .int f, .int t]) (n := 6) (Nat.le_of_ble_eq_true rfl)
  rw [lg_entry_eq]
  generalize (lg_sl ([.ref (a 17), .ref (a 5), .int f, .int t]) ++ List.replicate (6 - (lg_sl ([.ref (a 17), .ref (a 5), .int f, .int t])).length) Slot.unset).toArray = ls at hl ⊢
  have hl : lv_has ls 6 [(0, .ref (a 17)), (1, .ref (a 5)), (2, .int f), (3, .int t)] := hl
  refine lv_aload_n hx hb dX2_join_0 rfl (lv_at hl 0 rfl) ?_
  refine lv_iconst (v := 0) hx hb dX2_join_1 (by decide) ?_
  refine va_put (D := (dC, dI)) (ci := 2) (v := .int 0) (ty := .int) (C := RX2) (T := TX2) (N := 4) hx hb hts (fun w h => List.mem_cons_of_mem _ (iw_X2 w h)) tyX2 tyX2_ok nmX2 hown hK hP hD hS 17 rfl rfl 3 (by decide) (hts _ (List.mem_cons_of_mem _ fl_X2_together)) (fun _ h9 => h9) rfl (by decide +kernel) rfl rfl (Nat.le_of_ble_eq_true rfl) dX2_join_2 (fun H locs hP hD hS => ?_)
  have hP : va_P (dC, dI) clA (wA cI cZ a (upd v 8 0) g) H := hP
  have hD : va_D A (wA cI cZ a (upd v 8 0) g) := hD
  refine lv_iconst (v := 0) hx hb dX2_join_5 (by decide) ?_
  refine lv_istore (lv' := [(4, .int 0), (0, .ref (a 17)), (1, .ref (a 5)), (2, .int f), (3, .int t)]) hx hb dX2_join_6 hl (by decide) rfl (fun ls hl => ?_)
  have lp : ∀ (d k : Nat), k ≤ 10 → 10 + 1 ≤ k + d → ∀ (H : Heap) (locs : List Loc), va_P (dC, dI) clA (wA cI cZ a (jlS v g f t n k).1 (jlS v g f t n k).2) H → va_D A (wA cI cZ a (jlS v g f t n k).1 (jlS v g f t n k).2) → va_S A s.heap H locs → ∀ (ls : Array Slot), lv_has ls 6 [(4, .int (nI k)), (0, .ref (a 17)), (1, .ref (a 5)), (2, .int f), (3, .int t)] → W p l e (headSpec wsX2_join ({ frames := 3, cells := 0, slots := 0, locals := 74 })).room s m ([.ref (a 17), .ref (a 5), .int f, .int t] : List Value).toArray below meth c H locs 0 0 (MQ below (va_Qv (fun (u : StA) => u = ((joinS v g f t n).1, (joinS v g f t n).2)) (atA dC dI cI cZ cJ a A) A) ([.ref (a 17), .ref (a 5), .int f, .int t] : List Value).toArray s 0 0 A) (F0 m 8 ls []) := by
    intro d
    induction d with
    | zero => intro k h1 h2; exact absurd h2 (by omega)
    | succ d ih =>
      intro k hkn hkd H locs hP hD hS ls hl
      have hn : (jlS v g f t n k).1 5 = nI n := by rw [jlS_5]; exact hn
      refine lv_iload hx hb dX2_join_8 (lv_at hl 0 rfl) ?_
      refine lv_bipush (v := 10) hx hb dX2_join_10 (by decide) ?_
      refine lv_icmp_ge (tgt := 93) hx hb dX2_join_12 (by decide) (fun c12 => ?_) (fun c12 => ?_)
      · have n12 := Int32.not_lt.mpr c12
        have hkn2 : k = 10 := Nat.le_antisymm hkn ((nI_leI (a := 10) (b := k) (by decide) (by omega)).mp c12)
        have hk10 : k = n10 := by rw [n10_eq]; exact hkn2
        refine lv_aload_n hx hb dX2_join_93 rfl (lv_at hl 1 rfl) ?_
        refine va_get (D := (dC, dI)) (ci := 2) (v := .int ((jlS v g f t n k).1 8)) (C := RX2) (T := TX2) (N := 4) hx hb hts (fun w h => List.mem_cons_of_mem _ (iw_X2 w h)) hown hK hP 17 rfl rfl 3 (by decide) (hts _ (List.mem_cons_of_mem _ fl_X2_together)) (fun _ h9 => h9) rfl dX2_join_94 ?_
        refine lv_if_le (tgt := 119) hx hb dX2_join_97 (by decide) (fun c97 => ?_) (fun c97 => ?_)
        · have n97 := Int32.not_lt.mpr c97
          exact (W.vret hx hb hr (fun t9 ht hW => ⟨⟨((jlS v g f t n k).1, (jlS v g f t n k).2), rfl, (by rw [joinS, ← hk10]; simp [c12, n12, c97, n97]), ⟨by rw [ht]; exact hP, va_K.moved hW.alike hK, hD⟩⟩, hS.F ht⟩) hS.2.2 dX2_join_119)
        · have n97 := Int32.not_le.mp c97
          refine lv_aload_n hx hb dX2_join_100 rfl (lv_at hl 1 rfl) ?_
          refine lv_dup hx hb dX2_join_101 rfl ?_
          refine va_get (D := (dC, dI)) (ci := 2) (v := .int ((jlS v g f t n k).1 8)) (C := RX2) (T := TX2) (N := 4) hx hb hts (fun w h => List.mem_cons_of_mem _ (iw_X2 w h)) hown hK hP 17 rfl rfl 3 (by decide) (hts _ (List.mem_cons_of_mem _ fl_X2_together)) (fun _ h9 => h9) rfl dX2_join_102 ?_
          refine lv_aload_n hx hb dX2_join_105 rfl (lv_at hl 2 rfl) ?_
          refine lv_iload_n hx hb dX2_join_106 rfl (lv_at hl 3 rfl) ?_
          refine lv_iload_n hx hb dX2_join_107 rfl (lv_at hl 4 rfl) ?_
          refine vp_callSi (W.runV (As := [.int f, .int t]) (rest := [.int ((jlS v g f t n k).1 8), .ref (a 17)]) ⟨hx, hb, hml, hown, hts⟩ (c_hidden l dC dI cI cZ cJ a (jlS v g f t n k).1 (jlS v g f t n k).2 n hn hn2 f t) (cwV 2 hts (gd_V ml_X2_X1_hidden im_X1_hidden se_X1_hidden in_X1 kX1_hidden) rfl rfl rfl (by decide +kernel) ⟨Nat.le_of_ble_eq_true rfl, Nat.le_of_ble_eq_true rfl⟩) ⟨fun _ U g mk q => by obtain ⟨q0, qP, qK⟩ := q; exact ⟨q0, qP, va_K.moved (u := U) (U := U.calling g mk _) (Vm.Alike.refl U.vm) qK⟩, va_recv hK hP (ci := 1) (q0 := 5) rfl rfl, fun U hU hW => ⟨rfl, by rw [hU]; exact hP, va_K.moved hW.alike hK⟩⟩ rfl rfl hl.1 rfl (lv_room (Nat.le_of_ble_eq_true rfl)) dX2_join_108 ⟨Nat.le_of_ble_eq_true rfl, Nat.le_of_ble_eq_true rfl⟩) (fun r108 hr108 => ?_)
          subst hr108
          refine lv_iadd hx hb dX2_join_111 ?_
          refine lv_topi (fun x111 e111 => ?_)
          refine va_put (D := (dC, dI)) (ci := 2) (v := .int x111) (ty := .int) (C := RX2) (T := TX2) (N := 4) hx hb hts (fun w h => List.mem_cons_of_mem _ (iw_X2 w h)) tyX2 tyX2_ok nmX2 hown hK hP hD hS 17 rfl rfl 3 (by decide) (hts _ (List.mem_cons_of_mem _ fl_X2_together)) (fun _ h9 => h9) rfl (by decide +kernel) rfl rfl (Nat.le_of_ble_eq_true rfl) dX2_join_112 (fun H locs hP hD hS => ?_)
          have hP : va_P (dC, dI) clA (wA cI cZ a (upd (jlS v g f t n k).1 8 x111) (jlS v g f t n k).2) H := hP
          have hD : va_D A (wA cI cZ a (upd (jlS v g f t n k).1 8 x111) (jlS v g f t n k).2) := hD
          refine lv_aload_n hx hb dX2_join_115 rfl (lv_at hl 1 rfl) ?_
          have hFc := va_free (wc := (wA cI cZ a (upd (jlS v g f t n k).1 8 x111) (jlS v g f t n k).2)) hD hS hA [0, 1, 2, 3, 4, 5, 6, 7, 8, 9, 10, 11, 12, 13, 14, 15, 16, 17, 18, 19] rfl
          refine va_callv (va_runV (As := []) (rest := []) ⟨hx, hb, hml, hown, hts⟩ (c_joinMore l dC dI cI cZ cJ a (upd (jlS v g f t n k).1 8 x111) (jlS v g f t n k).2 H.size ) (cwV 0 hts (gd_V ml_X2_X2_joinMore im_X2_joinMore se_X2_joinMore in_X2 kX2_joinMore) rfl rfl rfl (by decide +kernel) ⟨Nat.le_of_ble_eq_true rfl, Nat.le_of_ble_eq_true rfl⟩) ⟨fun _ U g mk q => by obtain ⟨q0, q1, qP, qK, qD⟩ := q; exact ⟨q0, q1, qP, va_K.moved (u := U) (U := U.calling g mk _) (Vm.Alike.refl U.vm) qK, qD⟩, va_recv hK hP (ci := 2) (q0 := 17) rfl rfl, fun U hU hW => ⟨rfl, by rw [hU], by rw [hU]; exact hP, va_K.moved hW.alike hK, hD.weaken (fun _ _ _ _ => trivial)⟩⟩ rfl rfl hl.1 rfl (lv_room (Nat.le_of_ble_eq_true rfl)) dX2_join_116 ⟨Nat.le_of_ble_eq_true rfl, Nat.le_of_ble_eq_true rfl⟩) hS (fun q _ h => hFc q h) hFc (fun u9 t9 H1 locs ht hvm hw hB hz1 hk1 hS => ?_)
          subst hw
          obtain ⟨hP, hK1, hD1⟩ := hB
          rw [ht] at hP
          have hD := hD1.weaken (fun k q _ h => hFc q.1 h)
          clear hFc hk1 hD1 hK1
          generalize H1 = H at hP hS ⊢
          have hP : va_P (dC, dI) clA (wA cI cZ a (jmS n10 ((upd (jlS v g f t n k).1 8 x111), (jlS v g f t n k).2)).1 (jmS n10 ((upd (jlS v g f t n k).1 8 x111), (jlS v g f t n k).2)).2) H := hP
          have hD : va_D A (wA cI cZ a (jmS n10 ((upd (jlS v g f t n k).1 8 x111), (jlS v g f t n k).2)).1 (jmS n10 ((upd (jlS v g f t n k).1 8 x111), (jlS v g f t n k).2)).2) := hD
          exact (W.vret hx hb hr (fun t9 ht hW => ⟨⟨((jmS n10 ((upd (jlS v g f t n k).1 8 x111), (jlS v g f t n k).2)).1, (jmS n10 ((upd (jlS v g f t n k).1 8 x111), (jlS v g f t n k).2)).2), rfl, (by rw [joinS, ← hk10]; simp [c12, n12, c97, n97, e111]), ⟨by rw [ht]; exact hP, va_K.moved hW.alike hK, hD⟩⟩, hS.F ht⟩) hS.2.2 dX2_join_119)
      · have n12 := Int32.not_le.mp c12
        have hk : k < 10 := Nat.lt_of_not_le (fun h => c12 (nI_le (a := 10) h (by omega)))
        refine lv_aload_n hx hb dX2_join_15 rfl (lv_at hl 2 rfl) ?_
        refine lv_iload_n hx hb dX2_join_16 rfl (lv_at hl 3 rfl) ?_
        refine lv_iload_n hx hb dX2_join_17 rfl (lv_at hl 4 rfl) ?_
        refine lv_iconst (v := (-1)) hx hb dX2_join_18 (by decide) ?_
        refine lv_iload hx hb dX2_join_19 (lv_at hl 0 rfl) ?_
        refine vp_callSi (W.runV (As := [.int f, .int t, .int (-1), .int (nI k)]) (rest := []) ⟨hx, hb, hml, hown, hts⟩ (c_number l dC dI cI cZ cJ a (jlS v g f t n k).1 (jlS v g f t n k).2 n hn hn2 f t (-1) (nI k)) (cwV 4 hts (gd_V ml_X2_X1_number im_X1_number se_X1_number in_X1 kX1_number) rfl rfl rfl (by decide +kernel) ⟨Nat.le_of_ble_eq_true rfl, Nat.le_of_ble_eq_true rfl⟩) ⟨fun _ U g mk q => by obtain ⟨q0, qP, qK⟩ := q; exact ⟨q0, qP, va_K.moved (u := U) (U := U.calling g mk _) (Vm.Alike.refl U.vm) qK⟩, va_recv hK hP (ci := 1) (q0 := 5) rfl rfl, fun U hU hW => ⟨rfl, by rw [hU]; exact hP, va_K.moved hW.alike hK⟩⟩ rfl rfl hl.1 rfl (lv_room (Nat.le_of_ble_eq_true rfl)) dX2_join_21 ⟨Nat.le_of_ble_eq_true rfl, Nat.le_of_ble_eq_true rfl⟩) (fun r21 hr21 => ?_)
        subst hr21
        refine lv_istore (lv' := [(5, .int (cnt (fun i => askB (jlS v g f t n k).2 i f t (-1) (nI k)) n)), (4, .int (nI k)), (0, .ref (a 17)), (1, .ref (a 5)), (2, .int f), (3, .int t)]) hx hb dX2_join_24 hl (by decide) rfl (fun ls hl => ?_)
        refine lv_aload_n hx hb dX2_join_26 rfl (lv_at hl 2 rfl) ?_
        refine va_get (D := (dC, dI)) (ci := 2) (v := .ref (a 18)) (C := RX2) (T := TX2) (N := 4) hx hb hts (fun w h => List.mem_cons_of_mem _ (iw_X2 w h)) hown hK hP 17 rfl rfl 0 (by decide) (hts _ (List.mem_cons_of_mem _ fl_X2_rowsOfArea)) (fun _ h9 => h9) rfl dX2_join_27 ?_
        refine lv_iload hx hb dX2_join_30 (lv_at hl 1 rfl) ?_
        refine lv_iload hx hb dX2_join_32 (lv_at hl 0 rfl) ?_
        refine wi_ast hx hb hK hP hD hS 18 0 rfl rfl (k := k) (by omega) (by decide) dX2_join_34 (fun H locs hP hD hS => ?_)
        have hP : va_P (dC, dI) clA (wA cI cZ a (jlS v g f t n k).1 (upg (jlS v g f t n k).2 13 k (cnt (fun i => askB (jlS v g f t n k).2 i f t (-1) (nI k)) n))) H := hP
        have hD : va_D A (wA cI cZ a (jlS v g f t n k).1 (upg (jlS v g f t n k).2 13 k (cnt (fun i => askB (jlS v g f t n k).2 i f t (-1) (nI k)) n))) := hD
        refine lv_aload_n hx hb dX2_join_35 rfl (lv_at hl 2 rfl) ?_
        refine va_get (D := (dC, dI)) (ci := 2) (v := .ref (a 19)) (C := RX2) (T := TX2) (N := 4) hx hb hts (fun w h => List.mem_cons_of_mem _ (iw_X2 w h)) hown hK hP 17 rfl rfl 1 (by decide) (hts _ (List.mem_cons_of_mem _ fl_X2_isJoined)) (fun _ h9 => h9) rfl dX2_join_36 ?_
        refine lv_iload hx hb dX2_join_39 (lv_at hl 1 rfl) ?_
        refine lv_iload hx hb dX2_join_41 (lv_at hl 0 rfl) ?_
        refine lv_iconst (v := 1) hx hb dX2_join_43 (by decide) ?_
        refine lv_icmp_lt (tgt := 60) hx hb dX2_join_44 (by decide) (fun c44 => ?_) (fun c44 => ?_)
        · have n44 := Int32.not_le.mpr c44
          refine lv_iconst (v := 0) hx hb dX2_join_60 (by decide) ?_
          refine wz_ast hx hb hK hP hD hS 19 1 rfl rfl (k := k) rfl (by omega) (by decide) dX2_join_61 (fun H locs hP hD hS => ?_)
          have hP : va_P (dC, dI) clA (wA cI cZ a (jlS v g f t n k).1 (upg (upg (jlS v g f t n k).2 13 k (cnt (fun i => askB (jlS v g f t n k).2 i f t (-1) (nI k)) n)) 14 k 0)) H := hP
          have hD : va_D A (wA cI cZ a (jlS v g f t n k).1 (upg (upg (jlS v g f t n k).2 13 k (cnt (fun i => askB (jlS v g f t n k).2 i f t (-1) (nI k)) n)) 14 k 0)) := hD
          refine lv_aload_n hx hb dX2_join_62 rfl (lv_at hl 2 rfl) ?_
          refine lv_dup hx hb dX2_join_63 rfl ?_
          refine va_get (D := (dC, dI)) (ci := 2) (v := .int ((jlS v g f t n k).1 8)) (C := RX2) (T := TX2) (N := 4) hx hb hts (fun w h => List.mem_cons_of_mem _ (iw_X2 w h)) hown hK hP 17 rfl rfl 3 (by decide) (hts _ (List.mem_cons_of_mem _ fl_X2_together)) (fun _ h9 => h9) rfl dX2_join_64 ?_
          refine lv_aload_n hx hb dX2_join_67 rfl (lv_at hl 2 rfl) ?_
          refine va_get (D := (dC, dI)) (ci := 2) (v := .ref (a 19)) (C := RX2) (T := TX2) (N := 4) hx hb hts (fun w h => List.mem_cons_of_mem _ (iw_X2 w h)) hown hK hP 17 rfl rfl 1 (by decide) (hts _ (List.mem_cons_of_mem _ fl_X2_isJoined)) (fun _ h9 => h9) rfl dX2_join_68 ?_
          refine lv_iload hx hb dX2_join_71 (lv_at hl 1 rfl) ?_
          refine wz_ald hx hb hK hP 19 1 rfl rfl (k := k) (by omega) (by decide) dX2_join_73 ?_
          rw [upg_at]
          refine lv_if_eq (tgt := 82) hx hb dX2_join_74 (by decide) (fun c74 => ?_) (fun c74 => ?_)
          · refine lv_iconst (v := 0) hx hb dX2_join_82 (by decide) ?_
            refine lv_iadd hx hb dX2_join_83 ?_
            refine va_put (D := (dC, dI)) (ci := 2) (v := .int (((jlS v g f t n k).1 8) + 0)) (ty := .int) (C := RX2) (T := TX2) (N := 4) hx hb hts (fun w h => List.mem_cons_of_mem _ (iw_X2 w h)) tyX2 tyX2_ok nmX2 hown hK hP hD hS 17 rfl rfl 3 (by decide) (hts _ (List.mem_cons_of_mem _ fl_X2_together)) (fun _ h9 => h9) rfl (by decide +kernel) rfl rfl (Nat.le_of_ble_eq_true rfl) dX2_join_84 (fun H locs hP hD hS => ?_)
            have hP : va_P (dC, dI) clA (wA cI cZ a (upd (jlS v g f t n k).1 8 (((jlS v g f t n k).1 8) + 0)) (upg (upg (jlS v g f t n k).2 13 k (cnt (fun i => askB (jlS v g f t n k).2 i f t (-1) (nI k)) n)) 14 k 0)) H := hP
            have hD : va_D A (wA cI cZ a (upd (jlS v g f t n k).1 8 (((jlS v g f t n k).1 8) + 0)) (upg (upg (jlS v g f t n k).2 13 k (cnt (fun i => askB (jlS v g f t n k).2 i f t (-1) (nI k)) n)) 14 k 0)) := hD
            refine lv_iinc (v := nI (k + 1)) (lv' := [(4, .int (nI (k + 1))), (5, .int (cnt (fun i => askB (jlS v g f t n k).2 i f t (-1) (nI k)) n)), (0, .ref (a 17)), (1, .ref (a 5)), (2, .int f), (3, .int t)]) hx hb dX2_join_87 hl (k := 1) rfl (nI_1 k) (by decide) rfl (fun ls hl => ?_)
            refine lv_goto (tgt := 8) hx hb dX2_join_90 (by decide) ?_
            have eV : (jlS v g f t n (k + 1)).1 = (upd (jlS v g f t n k).1 8 (((jlS v g f t n k).1 8) + 0)) := (by simp [jlS, c12, n12, c44, n44])
            have eG : (jlS v g f t n (k + 1)).2 = (upg (upg (jlS v g f t n k).2 13 k (cnt (fun i => askB (jlS v g f t n k).2 i f t (-1) (nI k)) n)) 14 k 0) := (by simp [jlS, c12, n12, c44, n44])
            exact ih (k + 1) (by omega) (by omega) _ _ (by rw [eV, eG]; exact hP) (by rw [eV, eG]; exact hD) hS ls (lv_sub hl [0, 2, 3, 4, 5] rfl)
          · exact absurd c74 (by decide)
        · have n44 := Int32.not_lt.mp c44
          refine lv_iload hx hb dX2_join_47 (lv_at hl 0 rfl) ?_
          refine lv_aload_n hx hb dX2_join_49 rfl (lv_at hl 2 rfl) ?_
          refine va_get (D := (dC, dI)) (ci := 2) (v := .int ((jlS v g f t n k).1 7)) (C := RX2) (T := TX2) (N := 4) hx hb hts (fun w h => List.mem_cons_of_mem _ (iw_X2 w h)) hown hK hP 17 rfl rfl 2 (by decide) (hts _ (List.mem_cons_of_mem _ fl_X2_lowestShown)) (fun _ h9 => h9) rfl dX2_join_50 ?_
          refine lv_icmp_ge (tgt := 60) hx hb dX2_join_53 (by decide) (fun c53 => ?_) (fun c53 => ?_)
          · have n53 := Int32.not_lt.mpr c53
            refine lv_iconst (v := 0) hx hb dX2_join_60 (by decide) ?_
            refine wz_ast hx hb hK hP hD hS 19 1 rfl rfl (k := k) rfl (by omega) (by decide) dX2_join_61 (fun H locs hP hD hS => ?_)
            have hP : va_P (dC, dI) clA (wA cI cZ a (jlS v g f t n k).1 (upg (upg (jlS v g f t n k).2 13 k (cnt (fun i => askB (jlS v g f t n k).2 i f t (-1) (nI k)) n)) 14 k 0)) H := hP
            have hD : va_D A (wA cI cZ a (jlS v g f t n k).1 (upg (upg (jlS v g f t n k).2 13 k (cnt (fun i => askB (jlS v g f t n k).2 i f t (-1) (nI k)) n)) 14 k 0)) := hD
            refine lv_aload_n hx hb dX2_join_62 rfl (lv_at hl 2 rfl) ?_
            refine lv_dup hx hb dX2_join_63 rfl ?_
            refine va_get (D := (dC, dI)) (ci := 2) (v := .int ((jlS v g f t n k).1 8)) (C := RX2) (T := TX2) (N := 4) hx hb hts (fun w h => List.mem_cons_of_mem _ (iw_X2 w h)) hown hK hP 17 rfl rfl 3 (by decide) (hts _ (List.mem_cons_of_mem _ fl_X2_together)) (fun _ h9 => h9) rfl dX2_join_64 ?_
            refine lv_aload_n hx hb dX2_join_67 rfl (lv_at hl 2 rfl) ?_
            refine va_get (D := (dC, dI)) (ci := 2) (v := .ref (a 19)) (C := RX2) (T := TX2) (N := 4) hx hb hts (fun w h => List.mem_cons_of_mem _ (iw_X2 w h)) hown hK hP 17 rfl rfl 1 (by decide) (hts _ (List.mem_cons_of_mem _ fl_X2_isJoined)) (fun _ h9 => h9) rfl dX2_join_68 ?_
            refine lv_iload hx hb dX2_join_71 (lv_at hl 1 rfl) ?_
            refine wz_ald hx hb hK hP 19 1 rfl rfl (k := k) (by omega) (by decide) dX2_join_73 ?_
            rw [upg_at]
            refine lv_if_eq (tgt := 82) hx hb dX2_join_74 (by decide) (fun c74 => ?_) (fun c74 => ?_)
            · refine lv_iconst (v := 0) hx hb dX2_join_82 (by decide) ?_
              refine lv_iadd hx hb dX2_join_83 ?_
              refine va_put (D := (dC, dI)) (ci := 2) (v := .int (((jlS v g f t n k).1 8) + 0)) (ty := .int) (C := RX2) (T := TX2) (N := 4) hx hb hts (fun w h => List.mem_cons_of_mem _ (iw_X2 w h)) tyX2 tyX2_ok nmX2 hown hK hP hD hS 17 rfl rfl 3 (by decide) (hts _ (List.mem_cons_of_mem _ fl_X2_together)) (fun _ h9 => h9) rfl (by decide +kernel) rfl rfl (Nat.le_of_ble_eq_true rfl) dX2_join_84 (fun H locs hP hD hS => ?_)
              have hP : va_P (dC, dI) clA (wA cI cZ a (upd (jlS v g f t n k).1 8 (((jlS v g f t n k).1 8) + 0)) (upg (upg (jlS v g f t n k).2 13 k (cnt (fun i => askB (jlS v g f t n k).2 i f t (-1) (nI k)) n)) 14 k 0)) H := hP
              have hD : va_D A (wA cI cZ a (upd (jlS v g f t n k).1 8 (((jlS v g f t n k).1 8) + 0)) (upg (upg (jlS v g f t n k).2 13 k (cnt (fun i => askB (jlS v g f t n k).2 i f t (-1) (nI k)) n)) 14 k 0)) := hD
              refine lv_iinc (v := nI (k + 1)) (lv' := [(4, .int (nI (k + 1))), (5, .int (cnt (fun i => askB (jlS v g f t n k).2 i f t (-1) (nI k)) n)), (0, .ref (a 17)), (1, .ref (a 5)), (2, .int f), (3, .int t)]) hx hb dX2_join_87 hl (k := 1) rfl (nI_1 k) (by decide) rfl (fun ls hl => ?_)
              refine lv_goto (tgt := 8) hx hb dX2_join_90 (by decide) ?_
              have eV : (jlS v g f t n (k + 1)).1 = (upd (jlS v g f t n k).1 8 (((jlS v g f t n k).1 8) + 0)) := (by simp [jlS, c12, n12, c44, n44, c53, n53])
              have eG : (jlS v g f t n (k + 1)).2 = (upg (upg (jlS v g f t n k).2 13 k (cnt (fun i => askB (jlS v g f t n k).2 i f t (-1) (nI k)) n)) 14 k 0) := (by simp [jlS, c12, n12, c44, n44, c53, n53])
              exact ih (k + 1) (by omega) (by omega) _ _ (by rw [eV, eG]; exact hP) (by rw [eV, eG]; exact hD) hS ls (lv_sub hl [0, 2, 3, 4, 5] rfl)
            · exact absurd c74 (by decide)
          · have n53 := Int32.not_le.mp c53
            refine lv_iconst (v := 1) hx hb dX2_join_56 (by decide) ?_
            refine lv_goto (tgt := 61) hx hb dX2_join_57 (by decide) ?_
            refine wz_ast hx hb hK hP hD hS 19 1 rfl rfl (k := k) rfl (by omega) (by decide) dX2_join_61 (fun H locs hP hD hS => ?_)
            have hP : va_P (dC, dI) clA (wA cI cZ a (jlS v g f t n k).1 (upg (upg (jlS v g f t n k).2 13 k (cnt (fun i => askB (jlS v g f t n k).2 i f t (-1) (nI k)) n)) 14 k 1)) H := hP
            have hD : va_D A (wA cI cZ a (jlS v g f t n k).1 (upg (upg (jlS v g f t n k).2 13 k (cnt (fun i => askB (jlS v g f t n k).2 i f t (-1) (nI k)) n)) 14 k 1)) := hD
            refine lv_aload_n hx hb dX2_join_62 rfl (lv_at hl 2 rfl) ?_
            refine lv_dup hx hb dX2_join_63 rfl ?_
            refine va_get (D := (dC, dI)) (ci := 2) (v := .int ((jlS v g f t n k).1 8)) (C := RX2) (T := TX2) (N := 4) hx hb hts (fun w h => List.mem_cons_of_mem _ (iw_X2 w h)) hown hK hP 17 rfl rfl 3 (by decide) (hts _ (List.mem_cons_of_mem _ fl_X2_together)) (fun _ h9 => h9) rfl dX2_join_64 ?_
            refine lv_aload_n hx hb dX2_join_67 rfl (lv_at hl 2 rfl) ?_
            refine va_get (D := (dC, dI)) (ci := 2) (v := .ref (a 19)) (C := RX2) (T := TX2) (N := 4) hx hb hts (fun w h => List.mem_cons_of_mem _ (iw_X2 w h)) hown hK hP 17 rfl rfl 1 (by decide) (hts _ (List.mem_cons_of_mem _ fl_X2_isJoined)) (fun _ h9 => h9) rfl dX2_join_68 ?_
            refine lv_iload hx hb dX2_join_71 (lv_at hl 1 rfl) ?_
            refine wz_ald hx hb hK hP 19 1 rfl rfl (k := k) (by omega) (by decide) dX2_join_73 ?_
            rw [upg_at]
            refine lv_if_eq (tgt := 82) hx hb dX2_join_74 (by decide) (fun c74 => ?_) (fun c74 => ?_)
            · exact absurd c74 (by decide)
            · refine lv_iload hx hb dX2_join_77 (lv_at hl 0 rfl) ?_
              refine lv_goto (tgt := 83) hx hb dX2_join_79 (by decide) ?_
              refine lv_iadd hx hb dX2_join_83 ?_
              refine va_put (D := (dC, dI)) (ci := 2) (v := .int (((jlS v g f t n k).1 8) + (cnt (fun i => askB (jlS v g f t n k).2 i f t (-1) (nI k)) n))) (ty := .int) (C := RX2) (T := TX2) (N := 4) hx hb hts (fun w h => List.mem_cons_of_mem _ (iw_X2 w h)) tyX2 tyX2_ok nmX2 hown hK hP hD hS 17 rfl rfl 3 (by decide) (hts _ (List.mem_cons_of_mem _ fl_X2_together)) (fun _ h9 => h9) rfl (by decide +kernel) rfl rfl (Nat.le_of_ble_eq_true rfl) dX2_join_84 (fun H locs hP hD hS => ?_)
              have hP : va_P (dC, dI) clA (wA cI cZ a (upd (jlS v g f t n k).1 8 (((jlS v g f t n k).1 8) + (cnt (fun i => askB (jlS v g f t n k).2 i f t (-1) (nI k)) n))) (upg (upg (jlS v g f t n k).2 13 k (cnt (fun i => askB (jlS v g f t n k).2 i f t (-1) (nI k)) n)) 14 k 1)) H := hP
              have hD : va_D A (wA cI cZ a (upd (jlS v g f t n k).1 8 (((jlS v g f t n k).1 8) + (cnt (fun i => askB (jlS v g f t n k).2 i f t (-1) (nI k)) n))) (upg (upg (jlS v g f t n k).2 13 k (cnt (fun i => askB (jlS v g f t n k).2 i f t (-1) (nI k)) n)) 14 k 1)) := hD
              refine lv_iinc (v := nI (k + 1)) (lv' := [(4, .int (nI (k + 1))), (5, .int (cnt (fun i => askB (jlS v g f t n k).2 i f t (-1) (nI k)) n)), (0, .ref (a 17)), (1, .ref (a 5)), (2, .int f), (3, .int t)]) hx hb dX2_join_87 hl (k := 1) rfl (nI_1 k) (by decide) rfl (fun ls hl => ?_)
              refine lv_goto (tgt := 8) hx hb dX2_join_90 (by decide) ?_
              have eV : (jlS v g f t n (k + 1)).1 = (upd (jlS v g f t n k).1 8 (((jlS v g f t n k).1 8) + (cnt (fun i => askB (jlS v g f t n k).2 i f t (-1) (nI k)) n))) := (by simp [jlS, c12, n12, c44, n44, c53, n53])
              have eG : (jlS v g f t n (k + 1)).2 = (upg (upg (jlS v g f t n k).2 13 k (cnt (fun i => askB (jlS v g f t n k).2 i f t (-1) (nI k)) n)) 14 k 1) := (by simp [jlS, c12, n12, c44, n44, c53, n53])
              exact ih (k + 1) (by omega) (by omega) _ _ (by rw [eV, eG]; exact hP) (by rw [eV, eG]; exact hD) hS ls (lv_sub hl [0, 2, 3, 4, 5] rfl)
  exact lp (10 + 1) 0 (by omega) (by omega) _ _ hP hD hS ls (lv_sub hl [0, 1, 2, 3, 4] rfl)
set_option maxHeartbeats 4000000 in
set_option maxRecDepth 100000 in
theorem c_sumAt (l : Launch) (dC : Nat → ClassId) (dI : Nat → Nat → Nat) (cI cZ cJ : ClassId) (a : Nat → Nat) (v : Nat → Int32) (g : Nat → Nat → Int32) (sz : Nat) (n : Nat) (hn : v 5 = nI n) (hn2 : n ≤ 200) (pp f t kd ar : Int32) : Met l yX1_sumAtPlace wsX1_sumAtPlace ({ frames := 2, cells := 0, slots := 0, locals := 48 }) (va_Pc [.ref (a 5), .int pp, .int f, .int t, .int kd, .int ar] (fun U => U.heap.size = sz ∧ va_P (dC, dI) clA (wA cI cZ a v g) U.heap ∧ va_K (dC, dI) clA (tyA cI cZ cJ) U ∧ va_D (fun _ => True) (wA cI cZ a v g))) (va_Qi (fun (r : Int32) (u : StA) => r = plI (spS g f t kd ar n).2 pp (spS g f t kd ar n).1 ∧ u = (v, (spS g f t kd ar n).2)) (atA dC dI cI cZ cJ a (va_A (wA cI cZ a v g) sz)) (va_A (wA cI cZ a v g) sz))  0 0 (va_A (wA cI cZ a v g) sz) := by
  refine Met.ofW (cc := cX1_sumAtPlace) (maxL := 8) (ret := (some .int)) (by decide) rfl ?_
  intro p e s m args below meth c s₁ B hml hv
  obtain ⟨rfl, hsz, hP, hK, hD0⟩ := hv
  have hx := B.exec
  have hb := B.bytes
  have hr := B.returns
  have hts := atoms_spec (ws := wsX1_sumAtPlace) B.pre
  have hown : s.vm.findClass RX1 = some m.cls := findClass_of_methodNamed B.named
  have hlocks := B.notSynchronized
  subst hsz
  have hD := hD0.self (sz := s.heap.size)
  generalize hAe : va_A (wA cI cZ a v g) s.heap.size = A at hD ⊢
  have hA : ∀ q : Nat, s.heap.size ≤ q → A q := fun q h => by rw [← hAe]; exact Or.inr h
  have hS : va_S A s.heap s.heap [] := va_S.rf
  have hP : va_P (dC, dI) clA (wA cI cZ a v g) s.heap := hP
  have hl := lv_entry ([.ref (a 5), .int pp, .int f, .int t, .int kd, .int ar]) (n := 8) (Nat.le_of_ble_eq_true rfl)
  rw [lg_entry_eq]
  generalize (lg_sl ([.ref (a 5), .int pp, .int f, .int t, .int kd, .int ar]) ++ List.replicate (8 - (lg_sl ([.ref (a 5), .int pp, .int f, .int t, .int kd, .int ar])).length) Slot.unset).toArray = ls at hl ⊢
  have hl : lv_has ls 8 [(0, .ref (a 5)), (1, .int pp), (2, .int f), (3, .int t), (4, .int kd), (5, .int ar)] := hl
  refine lv_iconst (v := 0) hx hb dX1_sumAtPlace_0 (by decide) ?_
  refine lv_istore (lv' := [(6, .int 0), (0, .ref (a 5)), (1, .int pp), (2, .int f), (3, .int t), (4, .int kd), (5, .int ar)]) hx hb dX1_sumAtPlace_1 hl (by decide) rfl (fun ls hl => ?_)
  refine lv_iconst (v := 0) hx hb dX1_sumAtPlace_3 (by decide) ?_
  refine lv_istore (lv' := [(7, .int 0), (6, .int 0), (0, .ref (a 5)), (1, .int pp), (2, .int f), (3, .int t), (4, .int kd), (5, .int ar)]) hx hb dX1_sumAtPlace_4 hl (by decide) rfl (fun ls hl => ?_)
  have lp : ∀ (d k : Nat), k ≤ n → n + 1 ≤ k + d → ∀ (H : Heap) (locs : List Loc), va_P (dC, dI) clA (wA cI cZ a v (spS g f t kd ar k).2) H → va_D A (wA cI cZ a v (spS g f t kd ar k).2) → va_S A s.heap H locs → ∀ (ls : Array Slot), lv_has ls 8 [(7, .int (nI k)), (6, .int (nI (spS g f t kd ar k).1)), (0, .ref (a 5)), (1, .int pp), (2, .int f), (3, .int t), (4, .int kd), (5, .int ar)] → W p l e (headSpec wsX1_sumAtPlace ({ frames := 2, cells := 0, slots := 0, locals := 48 })).room s m ([.ref (a 5), .int pp, .int f, .int t, .int kd, .int ar] : List Value).toArray below meth c H locs 0 0 (MQ below (va_Qi (fun (r : Int32) (u : StA) => r = plI (spS g f t kd ar n).2 pp (spS g f t kd ar n).1 ∧ u = (v, (spS g f t kd ar n).2)) (atA dC dI cI cZ cJ a A) A) ([.ref (a 5), .int pp, .int f, .int t, .int kd, .int ar] : List Value).toArray s 0 0 A) (F0 m 6 ls []) := by
    intro d
    induction d with
    | zero => intro k h1 h2; exact absurd h2 (by omega)
    | succ d ih =>
      intro k hkn hkd H locs hP hD hS ls hl
      refine lv_iload hx hb dX1_sumAtPlace_6 (lv_at hl 0 rfl) ?_
      refine lv_aload_n hx hb dX1_sumAtPlace_8 rfl (lv_at hl 2 rfl) ?_
      refine va_get (D := (dC, dI)) (ci := 1) (v := .int (v 5)) (C := RX1) (T := TX1) (N := 10) hx hb hts (fun w h => List.mem_cons_of_mem _ (iw_X1 w h)) hown hK hP 5 rfl rfl 9 (by decide) (hts _ (List.mem_cons_of_mem _ fl_X1_size)) (fun _ h9 => h9) rfl dX1_sumAtPlace_9 ?_
      refine lv_icmp_ge (tgt := 69) hx hb dX1_sumAtPlace_12 (by decide) (fun c12 => ?_) (fun c12 => ?_)
      · have n12 := Int32.not_lt.mpr c12
        rw [hn] at c12
        have hkn2 : k = n := Nat.le_antisymm hkn ((nI_leI (by omega) (by omega)).mp c12)
        refine lv_iload_n hx hb dX1_sumAtPlace_69 rfl (lv_at hl 3 rfl) ?_
        refine lv_iload hx hb dX1_sumAtPlace_70 (lv_at hl 1 rfl) ?_
        refine lv_imul hx hb dX1_sumAtPlace_72 ?_
        refine lv_bipush (v := 100) hx hb dX1_sumAtPlace_73 (by decide) ?_
        refine lv_iadd hx hb dX1_sumAtPlace_75 ?_
        refine lv_iconst (v := 1) hx hb dX1_sumAtPlace_76 (by decide) ?_
        refine lv_isub hx hb dX1_sumAtPlace_77 ?_
        refine lv_bipush (v := 100) hx hb dX1_sumAtPlace_78 (by decide) ?_
        refine lv_idiv hx hb dX1_sumAtPlace_80 (by decide) ?_
        refine lv_istore (lv' := [(7, .int ((((pp * (nI (spS g f t kd ar k).1)) + 100) - 1) / 100)), (6, .int (nI (spS g f t kd ar k).1)), (0, .ref (a 5)), (1, .int pp), (2, .int f), (3, .int t), (4, .int kd), (5, .int ar)]) hx hb dX1_sumAtPlace_81 hl (by decide) rfl (fun ls hl => ?_)
        refine lv_iload hx hb dX1_sumAtPlace_83 (lv_at hl 0 rfl) ?_
        refine lv_iconst (v := 1) hx hb dX1_sumAtPlace_85 (by decide) ?_
        refine lv_icmp_lt (tgt := 108) hx hb dX1_sumAtPlace_86 (by decide) (fun c86 => ?_) (fun c86 => ?_)
        · have n86 := Int32.not_le.mpr c86
          refine lv_iconst (v := (-1)) hx hb dX1_sumAtPlace_108 (by decide) ?_
          exact (W.iret (v := -1) hx hb hr (fun t9 ht hW => ⟨⟨_, (v, (spS g f t kd ar k).2), rfl, ⟨by subst hkn2; simp [plI, c12, n12, c86, n86], by subst hkn2; rfl⟩, ⟨by rw [ht]; exact hP, va_K.moved hW.alike hK, hD⟩⟩, hS.F ht⟩) hS.2.2 dX1_sumAtPlace_109)
        · have n86 := Int32.not_lt.mp c86
          refine lv_iload hx hb dX1_sumAtPlace_89 (lv_at hl 0 rfl) ?_
          refine lv_iload hx hb dX1_sumAtPlace_91 (lv_at hl 1 rfl) ?_
          refine lv_icmp_gt (tgt := 108) hx hb dX1_sumAtPlace_93 (by decide) (fun c93 => ?_) (fun c93 => ?_)
          · have n93 := Int32.not_le.mpr c93
            refine lv_iconst (v := (-1)) hx hb dX1_sumAtPlace_108 (by decide) ?_
            exact (W.iret (v := -1) hx hb hr (fun t9 ht hW => ⟨⟨_, (v, (spS g f t kd ar k).2), rfl, ⟨by subst hkn2; simp [plI, c12, n12, c86, n86, c93, n93], by subst hkn2; rfl⟩, ⟨by rw [ht]; exact hP, va_K.moved hW.alike hK, hD⟩⟩, hS.F ht⟩) hS.2.2 dX1_sumAtPlace_109)
          · have n93 := Int32.not_lt.mp c93
            refine lv_aload_n hx hb dX1_sumAtPlace_96 rfl (lv_at hl 2 rfl) ?_
            refine va_get (D := (dC, dI)) (ci := 1) (v := .ref (a 14)) (C := RX1) (T := TX1) (N := 10) hx hb hts (fun w h => List.mem_cons_of_mem _ (iw_X1 w h)) hown hK hP 5 rfl rfl 8 (by decide) (hts _ (List.mem_cons_of_mem _ fl_X1_sortedSums)) (fun _ h9 => h9) rfl dX1_sumAtPlace_97 ?_
            refine lv_iload hx hb dX1_sumAtPlace_100 (lv_at hl 0 rfl) ?_
            refine lv_iconst (v := 1) hx hb dX1_sumAtPlace_102 (by decide) ?_
            refine lv_isub hx hb dX1_sumAtPlace_103 ?_
            refine wi_aldE hx hb hK hP 14 0 rfl rfl (k := (((pp * nI (spS g f t kd ar k).1 + 100 - 1) / 100 - 1).toNatClampNeg)) (idx_ok n86 n93 (Nat.le_trans (spS_le g f t kd ar k) (by omega))).1 (idx_ok n86 n93 (Nat.le_trans (spS_le g f t kd ar k) (by omega))).2 (by decide) dX1_sumAtPlace_104 ?_
            refine lv_goto (tgt := 109) hx hb dX1_sumAtPlace_105 (by decide) ?_
            exact (W.iret (v := (spS g f t kd ar k).2 11 (((pp * nI (spS g f t kd ar k).1 + 100 - 1) / 100 - 1).toNatClampNeg)) hx hb hr (fun t9 ht hW => ⟨⟨_, (v, (spS g f t kd ar k).2), rfl, ⟨by subst hkn2; simp [plI, c12, n12, c86, n86, c93, n93], by subst hkn2; rfl⟩, ⟨by rw [ht]; exact hP, va_K.moved hW.alike hK, hD⟩⟩, hS.F ht⟩) hS.2.2 dX1_sumAtPlace_109)
      · have n12 := Int32.not_le.mp c12
        rw [hn] at c12
        have hk : k < n := Nat.lt_of_not_le (fun h => c12 (nI_le h (by omega)))
        refine lv_aload_n hx hb dX1_sumAtPlace_15 rfl (lv_at hl 2 rfl) ?_
        refine lv_iload hx hb dX1_sumAtPlace_16 (lv_at hl 0 rfl) ?_
        refine lv_iload_n hx hb dX1_sumAtPlace_18 rfl (lv_at hl 4 rfl) ?_
        refine lv_iload_n hx hb dX1_sumAtPlace_19 rfl (lv_at hl 5 rfl) ?_
        refine lv_iload hx hb dX1_sumAtPlace_20 (lv_at hl 6 rfl) ?_
        refine lv_iload hx hb dX1_sumAtPlace_22 (lv_at hl 7 rfl) ?_
        refine vp_callSi (W.runV (As := [.int (nI k), .int f, .int t, .int kd, .int ar]) (rest := []) ⟨hx, hb, hml, hown, hts⟩ (c_isAsked l dC dI cI cZ cJ a v (spS g f t kd ar k).2 k f t kd ar (by omega)) (cwV 5 hts (gd_V ml_X1_X1_isAsked im_X1_isAsked se_X1_isAsked in_X1 kX1_isAsked) rfl rfl rfl (by decide +kernel) ⟨Nat.le_of_ble_eq_true rfl, Nat.le_of_ble_eq_true rfl⟩) ⟨fun _ U g mk q => by obtain ⟨q0, qP, qK⟩ := q; exact ⟨q0, qP, va_K.moved (u := U) (U := U.calling g mk _) (Vm.Alike.refl U.vm) qK⟩, va_recv hK hP (ci := 1) (q0 := 5) rfl rfl, fun U hU hW => ⟨rfl, by rw [hU]; exact hP, va_K.moved hW.alike hK⟩⟩ rfl rfl hl.1 rfl (lv_room (Nat.le_of_ble_eq_true rfl)) dX1_sumAtPlace_24 ⟨Nat.le_of_ble_eq_true rfl, Nat.le_of_ble_eq_true rfl⟩) (fun r24 hr24 => ?_)
        subst hr24
        refine lv_if_eq (tgt := 63) hx hb dX1_sumAtPlace_27 (by decide) (fun c27 => ?_) (fun c27 => ?_)
        · have c27 := bI_0.mp c27
          refine lv_iinc (v := nI (k + 1)) (lv' := [(7, .int (nI (k + 1))), (6, .int (nI (spS g f t kd ar k).1)), (0, .ref (a 5)), (1, .int pp), (2, .int f), (3, .int t), (4, .int kd), (5, .int ar)]) hx hb dX1_sumAtPlace_63 hl (k := 0) rfl (nI_1 k) (by decide) rfl (fun ls hl => ?_)
          refine lv_goto (tgt := 6) hx hb dX1_sumAtPlace_66 (by decide) ?_
          have eG : (spS g f t kd ar (k + 1)).2 = (spS g f t kd ar k).2 := (by simp [spS, c12, n12, c27])
          have eL0 : (.int (nI (spS g f t kd ar (k + 1)).1) : Value) = .int (nI (spS g f t kd ar k).1) := (by simp [spS, c12, n12, c27])
          exact ih (k + 1) (by omega) (by omega) _ _ (by rw [eG]; exact hP) (by rw [eG]; exact hD) hS ls (by rw [eL0]; exact lv_sub hl [0, 1, 2, 3, 4, 5, 6, 7] rfl)
        · have c27 := bI_n0.mp c27
          refine lv_aload_n hx hb dX1_sumAtPlace_30 rfl (lv_at hl 2 rfl) ?_
          refine lv_iload hx hb dX1_sumAtPlace_31 (lv_at hl 0 rfl) ?_
          refine vp_callSi (W.runV (As := [.int (nI k)]) (rest := []) ⟨hx, hb, hml, hown, hts⟩ (c_hasBoth l dC dI cI cZ cJ a v (spS g f t kd ar k).2 k (by omega)) (cwV 1 hts (gd_V ml_X1_X1_hasBothValues im_X1_hasBothValues se_X1_hasBothValues in_X1 kX1_hasBothValues) rfl rfl rfl (by decide +kernel) ⟨Nat.le_of_ble_eq_true rfl, Nat.le_of_ble_eq_true rfl⟩) ⟨fun _ U g mk q => by obtain ⟨q0, qP, qK⟩ := q; exact ⟨q0, qP, va_K.moved (u := U) (U := U.calling g mk _) (Vm.Alike.refl U.vm) qK⟩, va_recv hK hP (ci := 1) (q0 := 5) rfl rfl, fun U hU hW => ⟨rfl, by rw [hU]; exact hP, va_K.moved hW.alike hK⟩⟩ rfl rfl hl.1 rfl (lv_room (Nat.le_of_ble_eq_true rfl)) dX1_sumAtPlace_33 ⟨Nat.le_of_ble_eq_true rfl, Nat.le_of_ble_eq_true rfl⟩) (fun r33 hr33 => ?_)
          subst hr33
          refine lv_if_eq (tgt := 63) hx hb dX1_sumAtPlace_36 (by decide) (fun c36 => ?_) (fun c36 => ?_)
          · have c36 := bI_0.mp c36
            refine lv_iinc (v := nI (k + 1)) (lv' := [(7, .int (nI (k + 1))), (6, .int (nI (spS g f t kd ar k).1)), (0, .ref (a 5)), (1, .int pp), (2, .int f), (3, .int t), (4, .int kd), (5, .int ar)]) hx hb dX1_sumAtPlace_63 hl (k := 0) rfl (nI_1 k) (by decide) rfl (fun ls hl => ?_)
            refine lv_goto (tgt := 6) hx hb dX1_sumAtPlace_66 (by decide) ?_
            have eG : (spS g f t kd ar (k + 1)).2 = (spS g f t kd ar k).2 := (by simp [spS, c12, n12, c27, c36])
            have eL0 : (.int (nI (spS g f t kd ar (k + 1)).1) : Value) = .int (nI (spS g f t kd ar k).1) := (by simp [spS, c12, n12, c27, c36])
            exact ih (k + 1) (by omega) (by omega) _ _ (by rw [eG]; exact hP) (by rw [eG]; exact hD) hS ls (by rw [eL0]; exact lv_sub hl [0, 1, 2, 3, 4, 5, 6, 7] rfl)
          · have c36 := bI_n0.mp c36
            refine lv_aload_n hx hb dX1_sumAtPlace_39 rfl (lv_at hl 2 rfl) ?_
            refine lv_aload_n hx hb dX1_sumAtPlace_40 rfl (lv_at hl 2 rfl) ?_
            refine va_get (D := (dC, dI)) (ci := 1) (v := .ref (a 12)) (C := RX1) (T := TX1) (N := 10) hx hb hts (fun w h => List.mem_cons_of_mem _ (iw_X1 w h)) hown hK hP 5 rfl rfl 6 (by decide) (hts _ (List.mem_cons_of_mem _ fl_X1_turnOuts)) (fun _ h9 => h9) rfl dX1_sumAtPlace_41 ?_
            refine lv_iload hx hb dX1_sumAtPlace_44 (lv_at hl 0 rfl) ?_
            refine wi_ald hx hb hK hP 12 0 rfl rfl (k := k) (by omega) (by decide) dX1_sumAtPlace_46 ?_
            refine lv_aload_n hx hb dX1_sumAtPlace_47 rfl (lv_at hl 2 rfl) ?_
            refine va_get (D := (dC, dI)) (ci := 1) (v := .ref (a 13)) (C := RX1) (T := TX1) (N := 10) hx hb hts (fun w h => List.mem_cons_of_mem _ (iw_X1 w h)) hown hK hP 5 rfl rfl 7 (by decide) (hts _ (List.mem_cons_of_mem _ fl_X1_travels)) (fun _ h9 => h9) rfl dX1_sumAtPlace_48 ?_
            refine lv_iload hx hb dX1_sumAtPlace_51 (lv_at hl 0 rfl) ?_
            refine wi_ald hx hb hK hP 13 0 rfl rfl (k := k) (by omega) (by decide) dX1_sumAtPlace_53 ?_
            refine lv_iadd hx hb dX1_sumAtPlace_54 ?_
            refine lv_iload hx hb dX1_sumAtPlace_55 (lv_at hl 1 rfl) ?_
            have hsp := spS_le g f t kd ar k
            have hFc := va_free (wc := (wA cI cZ a v (spS g f t kd ar k).2)) hD hS hA [0, 1, 2, 3, 4, 5, 6, 7, 8, 9, 10, 11, 12, 13, 14, 15, 16, 17, 18, 19] rfl
            refine va_callv (va_runV (As := [.int (((spS g f t kd ar k).2 9 k) + ((spS g f t kd ar k).2 10 k)), .int (nI (spS g f t kd ar k).1)]) (rest := []) ⟨hx, hb, hml, hown, hts⟩ (c_sortIn l dC dI cI cZ cJ a v (spS g f t kd ar k).2 H.size (((spS g f t kd ar k).2 9 k) + ((spS g f t kd ar k).2 10 k)) ((spS g f t kd ar k).1) (by omega)) (cwV 2 hts (gd_V ml_X1_X1_sortIn im_X1_sortIn se_X1_sortIn in_X1 kX1_sortIn) rfl rfl rfl (by decide +kernel) ⟨Nat.le_of_ble_eq_true rfl, Nat.le_of_ble_eq_true rfl⟩) ⟨fun _ U g mk q => by obtain ⟨q0, q1, qP, qK, qD⟩ := q; exact ⟨q0, q1, qP, va_K.moved (u := U) (U := U.calling g mk _) (Vm.Alike.refl U.vm) qK, qD⟩, va_recv hK hP (ci := 1) (q0 := 5) rfl rfl, fun U hU hW => ⟨rfl, by rw [hU], by rw [hU]; exact hP, va_K.moved hW.alike hK, hD.weaken (fun _ _ _ _ => trivial)⟩⟩ rfl rfl hl.1 rfl (lv_room (Nat.le_of_ble_eq_true rfl)) dX1_sumAtPlace_57 ⟨Nat.le_of_ble_eq_true rfl, Nat.le_of_ble_eq_true rfl⟩) hS (fun q _ h => hFc q h) hFc (fun u9 t9 H1 locs ht hvm hw hB hz1 hk1 hS => ?_)
            subst hw
            obtain ⟨hP, hK1, hD1⟩ := hB
            rw [ht] at hP
            have hD := hD1.weaken (fun k q _ h => hFc q.1 h)
            clear hFc hk1 hD1 hK1
            generalize H1 = H at hP hS ⊢
            have hP : va_P (dC, dI) clA (wA cI cZ a v (insG (((spS g f t kd ar k).2 9 k) + ((spS g f t kd ar k).2 10 k)) ((spS g f t kd ar k).1) (spS g f t kd ar k).2)) H := hP
            have hD : va_D A (wA cI cZ a v (insG (((spS g f t kd ar k).2 9 k) + ((spS g f t kd ar k).2 10 k)) ((spS g f t kd ar k).1) (spS g f t kd ar k).2)) := hD
            refine lv_iinc (v := nI ((spS g f t kd ar k).1 + 1)) (lv' := [(6, .int (nI ((spS g f t kd ar k).1 + 1))), (7, .int (nI k)), (0, .ref (a 5)), (1, .int pp), (2, .int f), (3, .int t), (4, .int kd), (5, .int ar)]) hx hb dX1_sumAtPlace_60 hl (k := 1) rfl (nI_1 ((spS g f t kd ar k).1)) (by decide) rfl (fun ls hl => ?_)
            refine lv_iinc (v := nI (k + 1)) (lv' := [(7, .int (nI (k + 1))), (6, .int (nI ((spS g f t kd ar k).1 + 1))), (0, .ref (a 5)), (1, .int pp), (2, .int f), (3, .int t), (4, .int kd), (5, .int ar)]) hx hb dX1_sumAtPlace_63 hl (k := 1) rfl (nI_1 k) (by decide) rfl (fun ls hl => ?_)
            refine lv_goto (tgt := 6) hx hb dX1_sumAtPlace_66 (by decide) ?_
            have eG : (spS g f t kd ar (k + 1)).2 = (insG (((spS g f t kd ar k).2 9 k) + ((spS g f t kd ar k).2 10 k)) ((spS g f t kd ar k).1) (spS g f t kd ar k).2) := (by simp [spS, c12, n12, c27, c36])
            have eL0 : (.int (nI (spS g f t kd ar (k + 1)).1) : Value) = .int (nI ((spS g f t kd ar k).1 + 1)) := (by simp [spS, c12, n12, c27, c36])
            exact ih (k + 1) (by omega) (by omega) _ _ (by rw [eG]; exact hP) (by rw [eG]; exact hD) hS ls (by rw [eL0]; exact lv_sub hl [0, 1, 2, 3, 4, 5, 6, 7] rfl)
  exact lp (n + 1) 0 (by omega) (by omega) _ _ hP hD hS ls (lv_sub hl [0, 1, 2, 3, 4, 5, 6, 7] rfl)
