
theorem upg_upg (g : Nat → Nat → Int32) (j k : Nat) (x y : Int32) : upg (upg g j k x) j k y = upg g j k y := by
  funext i q
  simp only [upg]
  by_cases h : i = j
  · subst h; simp only [if_true, upd]; by_cases h2 : q = k <;> simp [h2]
  · simp [h]
def rgT (fr dy pr : Int32) : Bool := !(inB pr 2 6) || !(inB dy 1 1000) || decide (fr < 0) || !(inB fr 0 9999) || decide (10000 < fr + dy * pr)
def facM : Nat → Int32
  | 0 => 1
  | k + 1 => facM k * (nI k + 1)
/-- the counts of the first k periods -/
def tcG (g : Nat → Nat → Int32) (v : Nat → Int32) (fr dy : Int32) (n : Nat) : Nat → (Nat → Nat → Int32)
  | 0 => g
  | k + 1 => upg (tcG g v fr dy n k) 12 k (cnt (fun i => fitB (tcG g v fr dy n k) i (fr + dy * nI k) (fr + dy * nI k + dy - 1) (v 5) (v 6)) n)
def sgM (g : Nat → Nat → Int32) (k : Nat) : Int32 := isum (fun i => isum (gnM g ((1 : Int32) <<< (nI i &&& 31) - 1) i) 6) k
theorem o_m1 : ∀ i, i < 6 → (1 : Int32) <<< (nI i &&& 31) - 1 = nI (2 ^ i - 1) := by decide +kernel
theorem o_pm : ∀ i, i < 6 → pcN (2 ^ i - 1) = i ∧ 2 ^ i - 1 < 64 := by decide +kernel
theorem sg_b (g : Nat → Nat → Int32) : ∀ k, k ≤ 6 → -(15 : Int) ≤ (sgM g k).toInt ∧ (sgM g k).toInt ≤ 15 ∧ -(triN k : Int) ≤ (sgM g k).toInt ∧ (sgM g k).toInt ≤ triN k := by
  intro k
  induction k with
  | zero => intro _; rw [show sgM g 0 = 0 from rfl]; decide
  | succ k ih =>
    intro hk
    obtain ⟨-, -, i1, i2⟩ := ih (by omega)
    obtain ⟨p1, p2⟩ := o_pm k (by omega)
    have b := gn_m g p2 k
    rw [p1] at b
    have ht := o_tri k (by omega)
    have e : sgM g (k + 1) = sgM g k + isum (gnM g (nI (2 ^ k - 1)) k) 6 := by rw [sgM, isum_s, o_m1 k (by omega)]; rfl
    rw [e, i_add i1 i2 b.1 b.2 (by omega)]
    omega
theorem sg_ok (g : Nat → Nat → Int32) {k : Nat} (hk : k ≤ 6) : sgM g k + 15 = nI (sgM g k + 15).toNatClampNeg ∧ (sgM g k + 15).toNatClampNeg ≤ 30 := by
  obtain ⟨h1, h2, -, -⟩ := sg_b g k hk
  have e : (sgM g k + 15).toInt = (sgM g k).toInt + 15 := by
    rw [i_add (a := 15) (b := 15) h1 h2 (by decide) (by decide) (by decide)]; rfl
  have h0 : ¬ sgM g k + 15 < 0 := fun h => by
    have := Int32.lt_iff_toInt_lt.mp h
    rw [e] at this
    have z : (0 : Int32).toInt = 0 := by decide
    omega
  obtain ⟨j, hj, q⟩ := nI_of h0
  rw [q] at e ⊢
  rw [nI_toInt hj] at e
  rw [nI_clamp hj]
  exact ⟨rfl, by omega⟩
noncomputable def otM (g : Nat → Nat → Int32) (np s0 : Nat) : Int32 := isum (fun i => (stT (tb0 g) np (2 ^ np)) 13 (31 * (2 ^ np - 1) + s0 + i)) (31 - s0)
/-- the greatest common divisor, the first number being any -/
def cmI (x : Int32) (q0 : Nat) : Int32 := if 0 < x - x / nI q0 * nI q0 then nI (Nat.gcd q0 (x - x / nI q0 * nI q0).toNatClampNeg) else nI q0
theorem cmI_ne {x : Int32} {q0 : Nat} (h : 0 < q0) (hq : q0 < 2 ^ 31) : ¬ cmI x q0 = 0 := by
  rw [cmI]
  split
  · exact nI_ne0 (Nat.gcd_pos_of_pos_left _ h) (Nat.lt_of_le_of_lt (Nat.gcd_le_left _ h) hq)
  · exact nI_ne0 h hq
def facN : Nat → Nat
  | 0 => 1
  | k + 1 => facN k * (k + 1)
theorem facM_n : ∀ k, facM k = nI (facN k) := by
  intro k
  induction k with
  | zero => rfl
  | succ k ih => rw [facM, facN, ih, nI_1, pk_mul]
theorem facN_b : ∀ k, k < 7 → 0 < facN k ∧ facN k < 2 ^ 31 := by decide +kernel
noncomputable def trM (g : Nat → Nat → Int32) (np : Nat) (w : Int32) : Int32 := if w = 0 then sgM g np else (if w = 1 then otM g np (sgM g np + 15).toNatClampNeg else facM np) / cmI (otM g np (sgM g np + 15).toNatClampNeg) (facN np)
theorem rgT_pr {fr dy pr : Int32} (h : rgT fr dy pr = false) : ∃ np : Nat, 2 ≤ np ∧ np ≤ 6 ∧ pr = nI np := by
  simp only [rgT, Bool.or_eq_false_iff, Bool.not_eq_false', inB, Bool.and_eq_true, decide_eq_true_eq] at h
  exact inR_nat (a := 2) (b := 6) (by decide) (by decide) h.1.1.1.1

set_option maxHeartbeats 4000000 in
set_option maxRecDepth 100000 in
theorem m_common2 (l : Launch) (dC : Nat → ClassId) (dI : Nat → Nat → Nat) (cI cZ cJ : ClassId) (a : Nat → Nat) (v : Nat → Int32) (g : Nat → Nat → Int32) (x : Int32) (q0 : Nat) (hq1 : 0 < q0) (hq0 : q0 < 2 ^ 31) : Met l yX5_common wsX5_common ({ frames := 0, cells := 0, slots := 0, locals := 0 }) (va_Pc [.int x, .int (nI q0)] (fun U => va_P (dC, dI) clA (wM cI cZ a v g) U.heap ∧ va_K (dC, dI) clA (tyA cI cZ cJ) U)) (vp_Si (fun r => r = cmI x q0)) 0 0 (fun _ => False) := by
  refine Met.ofW (cc := cX5_common) (maxL := 5) (ret := (some .int)) (by decide) rfl ?_
  intro p e s m args below meth c s₁ B hml hv
  obtain ⟨rfl, hP, hK⟩ := hv
  have hx := B.exec
  have hb := B.bytes
  have hr := B.returns
  have hts := atoms_spec (ws := wsX5_common) B.pre
  have hown : s.vm.findClass RX5 = some m.cls := findClass_of_methodNamed B.named
  have hlocks := B.notSynchronized
  have hl := lv_entry ([.int x, .int (nI q0)]) (n := 5) (Nat.le_of_ble_eq_true rfl)
  rw [lg_entry_eq]
  generalize (lg_sl ([.int x, .int (nI q0)]) ++ List.replicate (5 - (lg_sl ([.int x, .int (nI q0)])).length) Slot.unset).toArray = ls at hl ⊢
  have hl : lv_has ls 5 [(0, .int x), (1, .int (nI q0))] := hl
  refine lv_iload_n hx hb dX5_common_0 rfl (lv_at hl 0 rfl) ?_
  refine lv_istore_n (lv' := [(2, .int x), (0, .int x), (1, .int (nI q0))]) hx hb dX5_common_1 rfl hl (by decide) rfl (fun ls hl => ?_)
  refine lv_iload_n hx hb dX5_common_2 rfl (lv_at hl 2 rfl) ?_
  refine lv_istore_n (lv' := [(3, .int (nI q0)), (2, .int x), (0, .int x), (1, .int (nI q0))]) hx hb dX5_common_3 rfl hl (by decide) rfl (fun ls hl => ?_)
  refine lv_iload_n hx hb dX5_common_4 rfl (lv_at hl 0 rfl) ?_
  refine lv_if_le (tgt := 21) hx hb dX5_common_5 (by decide) (fun c5 => ?_) (fun c5 => ?_)
  · exact absurd c5 (nI_nle hq1 hq0)
  · refine lv_iload_n hx hb dX5_common_8 rfl (lv_at hl 1 rfl) ?_
    refine lv_iload_n hx hb dX5_common_9 rfl (lv_at hl 0 rfl) ?_
    refine lv_irem hx hb dX5_common_10 (nI_ne0 hq1 (by omega)) ?_
    refine lv_istore (lv' := [(4, .int (x - x / (nI q0) * (nI q0))), (3, .int (nI q0)), (2, .int x), (0, .int x), (1, .int (nI q0))]) hx hb dX5_common_11 hl (by decide) rfl (fun ls hl => ?_)
    refine lv_iload_n hx hb dX5_common_13 rfl (lv_at hl 1 rfl) ?_
    refine lv_istore_n (lv' := [(2, .int (nI q0)), (4, .int (x - x / (nI q0) * (nI q0))), (3, .int (nI q0)), (0, .int x), (1, .int (nI q0))]) hx hb dX5_common_14 rfl hl (by decide) rfl (fun ls hl => ?_)
    refine lv_iload hx hb dX5_common_15 (lv_at hl 1 rfl) ?_
    refine lv_istore_n (lv' := [(3, .int (x - x / (nI q0) * (nI q0))), (2, .int (nI q0)), (4, .int (x - x / (nI q0) * (nI q0))), (0, .int x), (1, .int (nI q0))]) hx hb dX5_common_17 rfl hl (by decide) rfl (fun ls hl => ?_)
    refine lv_goto (tgt := 4) hx hb dX5_common_18 (by decide) ?_
    by_cases hz9 : 0 < x - x / nI q0 * nI q0
    · obtain ⟨z9, hz8, hz7⟩ := nI_of (Int32.not_lt.mpr (Int32.le_of_lt hz9))
      have hz6 : (x - x / nI q0 * nI q0).toNatClampNeg = z9 := by rw [hz7, nI_clamp hz8]
      have hcm : cmI x q0 = nI (Nat.gcd q0 z9) := by rw [cmI, if_pos hz9, hz6]
      have hl : lv_has ls 5 [(3, .int (nI z9)), (2, .int (nI q0)), (4, .int (nI z9)), (0, .int x), (1, .int (nI q0))] := by rw [← hz7]; exact hl
      have lp : ∀ (d q pp : Nat), q ≤ d → pp < 2 ^ 31 → q < 2 ^ 31 → Nat.gcd pp q = Nat.gcd q0 z9 → ∀ (ls : Array Slot), lv_has ls 5 [(2, .int (nI pp)), (3, .int (nI q)), (0, .int x), (1, .int (nI q0))] → W p l e (headSpec wsX5_common ({ frames := 0, cells := 0, slots := 0, locals := 0 })).room s m ([.int x, .int (nI q0)] : List Value).toArray below meth c s.heap [] 0 0 (MQ below (vp_Si (fun r => r = cmI x q0)) ([.int x, .int (nI q0)] : List Value).toArray s 0 0 (fun _ => False)) (F0 m 4 ls []) := by
        intro d
        induction d with
        | zero =>
          intro q pp hd hp hq hg ls hl
          refine lv_iload_n hx hb dX5_common_4 rfl (lv_at hl 1 rfl) ?_
          refine lv_if_le (tgt := 21) hx hb dX5_common_5 (by decide) (fun c5 => ?_) (fun c5 => ?_)
          · refine lv_iload_n hx hb dX5_common_21 rfl (lv_at hl 0 rfl) ?_
            exact W.iret (v := nI pp) hx hb hr (fun t ht hW => ⟨_, rfl, (by rw [hcm, ← hg, show q = 0 by omega, Nat.gcd_zero_right]), ht⟩) (fun _ h => absurd h List.not_mem_nil) dX5_common_22
          · exact absurd (by rw [show q = 0 by omega]; decide) c5
        | succ d ih =>
          intro q pp hd hp hq hg ls hl
          refine lv_iload_n hx hb dX5_common_4 rfl (lv_at hl 1 rfl) ?_
          refine lv_if_le (tgt := 21) hx hb dX5_common_5 (by decide) (fun c5 => ?_) (fun c5 => ?_)
          · have n5 := Int32.not_lt.mpr c5
            have hqz : q = 0 := Nat.eq_zero_of_not_pos (fun h => nI_nle h hq c5)
            refine lv_iload_n hx hb dX5_common_21 rfl (lv_at hl 0 rfl) ?_
            exact W.iret (v := nI pp) hx hb hr (fun t ht hW => ⟨_, rfl, (by rw [hcm, ← hg, hqz, Nat.gcd_zero_right]), ht⟩) (fun _ h => absurd h List.not_mem_nil) dX5_common_22
          · have n5 := Int32.not_le.mp c5
            have hq1 : 0 < q := Nat.pos_of_ne_zero (fun h => c5 (by rw [h]; decide))
            refine lv_iload_n hx hb dX5_common_8 rfl (lv_at hl 0 rfl) ?_
            refine lv_iload_n hx hb dX5_common_9 rfl (lv_at hl 1 rfl) ?_
            refine lv_irem hx hb dX5_common_10 (nI_ne0 hq1 (by omega)) ?_
            rw [pk_rem hp hq1 hq]
            refine lv_istore (lv' := [(4, .int (nI (pp % q))), (2, .int (nI pp)), (3, .int (nI q)), (0, .int x), (1, .int (nI q0))]) hx hb dX5_common_11 hl (by decide) rfl (fun ls hl => ?_)
            refine lv_iload_n hx hb dX5_common_13 rfl (lv_at hl 2 rfl) ?_
            refine lv_istore_n (lv' := [(2, .int (nI q)), (4, .int (nI (pp % q))), (3, .int (nI q)), (0, .int x), (1, .int (nI q0))]) hx hb dX5_common_14 rfl hl (by decide) rfl (fun ls hl => ?_)
            refine lv_iload hx hb dX5_common_15 (lv_at hl 1 rfl) ?_
            refine lv_istore_n (lv' := [(3, .int (nI (pp % q))), (2, .int (nI q)), (4, .int (nI (pp % q))), (0, .int x), (1, .int (nI q0))]) hx hb dX5_common_17 rfl hl (by decide) rfl (fun ls hl => ?_)
            refine lv_goto (tgt := 4) hx hb dX5_common_18 (by decide) ?_
            exact ih (pp % q) q (by have := Nat.mod_lt pp hq1; omega) hq (by have := Nat.mod_lt pp hq1; omega) (by rw [← hg, Nat.gcd_comm pp q, Nat.gcd_rec q pp, Nat.gcd_comm]) ls (lv_sub hl [1, 0, 3, 4] rfl)
      exact lp z9 z9 q0 (Nat.le_refl _) hq0 hz8 rfl ls (lv_sub hl [1, 0, 3, 4] rfl)
    · refine lv_iload_n hx hb dX5_common_4 rfl (lv_at hl 0 rfl) ?_
      refine lv_if_le (tgt := 21) hx hb dX5_common_5 (by decide) (fun c5 => ?_) (fun c5 => ?_)
      · refine lv_iload_n hx hb dX5_common_21 rfl (lv_at hl 1 rfl) ?_
        exact W.iret (v := nI q0) hx hb hr (fun t ht hW => ⟨_, rfl, (by rw [cmI, if_neg hz9]), ht⟩) (fun _ h => absurd h List.not_mem_nil) dX5_common_22
      · exact absurd (Int32.not_lt.mp hz9) c5
set_option maxHeartbeats 4000000 in
set_option maxRecDepth 100000 in
theorem m_trend (l : Launch) (dC : Nat → ClassId) (dI : Nat → Nat → Nat) (cI cZ cJ : ClassId) (a : Nat → Nat) (v : Nat → Int32) (g : Nat → Nat → Int32) (sz : Nat) (n : Nat) (hn : v 1 = nI n) (hn2 : n ≤ 200) (fr dy pr w : Int32) : Met l yX5_trend wsX5_trend ({ frames := 2, cells := 0, slots := 0, locals := 51 }) (va_Pc [.ref (a 0), .int fr, .int dy, .int pr, .int w] (fun U => U.heap.size = sz ∧ va_P (dC, dI) clA (wM cI cZ a v g) U.heap ∧ va_K (dC, dI) clA (tyA cI cZ cJ) U ∧ va_D (fun _ => True) (wM cI cZ a v g))) (va_Qi (fun (r : Int32) (u : StA) => r = (if 0 < thI (bI (!(inB w 0 2))) (bI (rgT fr dy pr)) 0 then 0 else trM (tcG g v fr dy n pr.toNatClampNeg) pr.toNatClampNeg w) ∧ u = (upd v 0 (thI (bI (!(inB w 0 2))) (bI (rgT fr dy pr)) 0), if 0 < thI (bI (!(inB w 0 2))) (bI (rgT fr dy pr)) 0 then g else stT (tb0 (tcG g v fr dy n pr.toNatClampNeg)) pr.toNatClampNeg (2 ^ pr.toNatClampNeg))) (atM dC dI cI cZ cJ a (va_A (wM cI cZ a v g) sz)) (va_A (wM cI cZ a v g) sz))  0 0 (va_A (wM cI cZ a v g) sz) := by
  refine Met.ofW (cc := cX5_trend) (maxL := 10) (ret := (some .int)) (by decide) rfl ?_
  intro p e s m args below meth c s₁ B hml hv
  obtain ⟨rfl, hsz, hP, hK, hD0⟩ := hv
  have hx := B.exec
  have hb := B.bytes
  have hr := B.returns
  have hts := atoms_spec (ws := wsX5_trend) B.pre
  have hown : s.vm.findClass RX5 = some m.cls := findClass_of_methodNamed B.named
  have hlocks := B.notSynchronized
  subst hsz
  have hD := hD0.self (sz := s.heap.size)
  generalize hAe : va_A (wM cI cZ a v g) s.heap.size = A at hD ⊢
  have hA : ∀ q : Nat, s.heap.size ≤ q → A q := fun q h => by rw [← hAe]; exact Or.inr h
  have hS : va_S A s.heap s.heap [] := va_S.rf
  have hP : va_P (dC, dI) clA (wM cI cZ a v g) s.heap := hP
  have hl := lv_entry ([.ref (a 0), .int fr, .int dy, .int pr, .int w]) (n := 10) (Nat.le_of_ble_eq_true rfl)
  rw [lg_entry_eq]
  generalize (lg_sl ([.ref (a 0), .int fr, .int dy, .int pr, .int w]) ++ List.replicate (10 - (lg_sl ([.ref (a 0), .int fr, .int dy, .int pr, .int w])).length) Slot.unset).toArray = ls at hl ⊢
  have hl : lv_has ls 10 [(0, .ref (a 0)), (1, .int fr), (2, .int dy), (3, .int pr), (4, .int w)] := hl
  have jn52 : ∀ xj : Int32, xj = bI (rgT fr dy pr) → W p l e (headSpec wsX5_trend ({ frames := 2, cells := 0, slots := 0, locals := 51 })).room s m ([.ref (a 0), .int fr, .int dy, .int pr, .int w] : List Value).toArray below meth c s.heap [] 0 0 (MQ below (va_Qi (fun (r : Int32) (u : StA) => r = (if 0 < thI (bI (!(inB w 0 2))) (bI (rgT fr dy pr)) 0 then 0 else trM (tcG g v fr dy n pr.toNatClampNeg) pr.toNatClampNeg w) ∧ u = (upd v 0 (thI (bI (!(inB w 0 2))) (bI (rgT fr dy pr)) 0), if 0 < thI (bI (!(inB w 0 2))) (bI (rgT fr dy pr)) 0 then g else stT (tb0 (tcG g v fr dy n pr.toNatClampNeg)) pr.toNatClampNeg (2 ^ pr.toNatClampNeg))) (atM dC dI cI cZ cJ a A) A) ([.ref (a 0), .int fr, .int dy, .int pr, .int w] : List Value).toArray s 0 0 A) (F0 m 52 ls [(.int xj)]) := by
    intro xj ej
    subst ej
    refine lv_istore (lv' := [(5, .int (bI (rgT fr dy pr))), (0, .ref (a 0)), (1, .int fr), (2, .int dy), (3, .int pr), (4, .int w)]) hx hb dX5_trend_52 hl (by decide) rfl (fun ls hl => ?_)
    refine lv_aload_n hx hb dX5_trend_54 rfl (lv_at hl 1 rfl) ?_
    have jn70 : ∀ xj : Int32, xj = bI (!(inB w 0 2)) → W p l e (headSpec wsX5_trend ({ frames := 2, cells := 0, slots := 0, locals := 51 })).room s m ([.ref (a 0), .int fr, .int dy, .int pr, .int w] : List Value).toArray below meth c s.heap [] 0 0 (MQ below (va_Qi (fun (r : Int32) (u : StA) => r = (if 0 < thI (bI (!(inB w 0 2))) (bI (rgT fr dy pr)) 0 then 0 else trM (tcG g v fr dy n pr.toNatClampNeg) pr.toNatClampNeg w) ∧ u = (upd v 0 (thI (bI (!(inB w 0 2))) (bI (rgT fr dy pr)) 0), if 0 < thI (bI (!(inB w 0 2))) (bI (rgT fr dy pr)) 0 then g else stT (tb0 (tcG g v fr dy n pr.toNatClampNeg)) pr.toNatClampNeg (2 ^ pr.toNatClampNeg))) (atM dC dI cI cZ cJ a A) A) ([.ref (a 0), .int fr, .int dy, .int pr, .int w] : List Value).toArray s 0 0 A) (F0 m 70 ls [(.int xj), .ref (a 0)]) := by
      intro xj ej
      subst ej
      refine lv_iload hx hb dX5_trend_70 (lv_at hl 0 rfl) ?_
      refine lv_iconst (v := 0) hx hb dX5_trend_72 (by decide) ?_
      have hFc := va_free (wc := (wM cI cZ a v g)) hD hS hA [0, 1, 2, 3, 4, 5, 6, 7, 8, 9, 10, 11, 12, 13, 14, 15, 16] rfl
      refine va_calli (va_runV (As := [.int (bI (!(inB w 0 2))), .int (bI (rgT fr dy pr)), .int 0]) (rest := []) ⟨hx, hb, hml, hown, hts⟩ (m_throwing l dC dI cI cZ cJ a v g s.heap.size (bI (!(inB w 0 2))) (bI (rgT fr dy pr)) 0) (cwV 3 hts (gd_V ml_X5_X5_throwing im_X5_throwing se_X5_throwing in_X5 kX5_throwing) rfl rfl rfl (by decide +kernel) ⟨Nat.le_of_ble_eq_true rfl, Nat.le_of_ble_eq_true rfl⟩) ⟨fun _ U g mk q => by obtain ⟨q0, q1, qP, qK, qD⟩ := q; exact ⟨q0, q1, qP, va_K.moved (u := U) (U := U.calling g mk _) (Vm.Alike.refl U.vm) qK, qD⟩, va_recv hK hP (ci := 5) (q0 := 0) rfl rfl, fun U hU hW => ⟨rfl, by rw [hU], by rw [hU]; exact hP, va_K.moved hW.alike hK, hD.weaken (fun _ _ _ _ => trivial)⟩⟩ rfl rfl hl.1 rfl (lv_room (Nat.le_of_ble_eq_true rfl)) dX5_trend_73 ⟨Nat.le_of_ble_eq_true rfl, Nat.le_of_ble_eq_true rfl⟩) hS (fun q _ h => hFc q h) hFc (fun r73 u9 t9 H1 locs ht hvm hw hB hz1 hk1 hS => ?_)
      obtain ⟨rfl, rfl⟩ := hw
      obtain ⟨hP, hK1, hD1⟩ := hB
      rw [ht] at hP
      have hD := hD1.weaken (fun k q _ h => hFc q.1 h)
      clear hFc hk1 hD1 hK1
      generalize H1 = H at hP hS ⊢
      have hP : va_P (dC, dI) clA (wM cI cZ a (upd v 0 (thI (bI (!(inB w 0 2))) (bI (rgT fr dy pr)) 0)) g) H := hP
      have hD : va_D A (wM cI cZ a (upd v 0 (thI (bI (!(inB w 0 2))) (bI (rgT fr dy pr)) 0)) g) := hD
      refine lv_if_eq (tgt := 81) hx hb dX5_trend_76 (by decide) (fun c76 => ?_) (fun c76 => ?_)
      · have c76 := bI_0.mp c76
        obtain ⟨np, hnp1, hnp2, rfl⟩ := rgT_pr (th2 c76).2
        refine lv_iconst (v := 1) hx hb dX5_trend_81 (by decide) ?_
        refine lv_istore (lv' := [(6, .int 1), (5, .int (bI (rgT fr dy (nI np)))), (0, .ref (a 0)), (1, .int fr), (2, .int dy), (3, .int (nI np)), (4, .int w)]) hx hb dX5_trend_82 hl (by decide) rfl (fun ls hl => ?_)
        refine lv_iconst (v := 0) hx hb dX5_trend_84 (by decide) ?_
        refine lv_istore (lv' := [(7, .int 0), (6, .int 1), (5, .int (bI (rgT fr dy (nI np)))), (0, .ref (a 0)), (1, .int fr), (2, .int dy), (3, .int (nI np)), (4, .int w)]) hx hb dX5_trend_85 hl (by decide) rfl (fun ls hl => ?_)
        have lp1 : ∀ (d1 k : Nat), k ≤ np → np + 1 ≤ k + d1 → ∀ (H : Heap) (locs : List Loc), va_P (dC, dI) clA (wM cI cZ a (upd v 0 (thI (bI (!(inB w 0 2))) (bI (rgT fr dy (nI np))) 0)) (tcG g v fr dy n k)) H → va_D A (wM cI cZ a (upd v 0 (thI (bI (!(inB w 0 2))) (bI (rgT fr dy (nI np))) 0)) (tcG g v fr dy n k)) → va_S A s.heap H locs → ∀ (ls : Array Slot), lv_has ls 10 [(7, .int (nI k)), (6, .int (facM k)), (5, .int (bI (rgT fr dy (nI np)))), (0, .ref (a 0)), (1, .int fr), (2, .int dy), (3, .int (nI np)), (4, .int w)] → W p l e (headSpec wsX5_trend ({ frames := 2, cells := 0, slots := 0, locals := 51 })).room s m ([.ref (a 0), .int fr, .int dy, .int (nI np), .int w] : List Value).toArray below meth c H locs 0 0 (MQ below (va_Qi (fun (r : Int32) (u : StA) => r = (if 0 < thI (bI (!(inB w 0 2))) (bI (rgT fr dy (nI np))) 0 then 0 else trM (tcG g v fr dy n (nI np).toNatClampNeg) (nI np).toNatClampNeg w) ∧ u = (upd v 0 (thI (bI (!(inB w 0 2))) (bI (rgT fr dy (nI np))) 0), if 0 < thI (bI (!(inB w 0 2))) (bI (rgT fr dy (nI np))) 0 then g else stT (tb0 (tcG g v fr dy n (nI np).toNatClampNeg)) (nI np).toNatClampNeg (2 ^ (nI np).toNatClampNeg))) (atM dC dI cI cZ cJ a A) A) ([.ref (a 0), .int fr, .int dy, .int (nI np), .int w] : List Value).toArray s 0 0 A) (F0 m 87 ls []) := by
          intro d1
          induction d1 with
          | zero => intro k h1 h2; exact absurd h2 (by omega)
          | succ d1 ih1 =>
            intro k hkn1 hkd1 H locs hP hD hS ls hl
            refine lv_iload hx hb dX5_trend_87 (lv_at hl 0 rfl) ?_
            refine lv_iload_n hx hb dX5_trend_89 rfl (lv_at hl 6 rfl) ?_
            refine lv_icmp_ge (tgt := 182) hx hb dX5_trend_90 (by decide) (fun c90 => ?_) (fun c90 => ?_)
            · have n90 := Int32.not_lt.mpr c90
              have he1 : k = np := Nat.le_antisymm hkn1 ((nI_leI (by omega) (by omega)).mp c90)
              rw [he1] at hP hD
              have hl : lv_has ls 10 [(7, .int (nI k)), (6, .int (facM np)), (5, .int (bI (rgT fr dy (nI np)))), (0, .ref (a 0)), (1, .int fr), (2, .int dy), (3, .int (nI np)), (4, .int w)] := by rw [show facM np = facM k from by rw [he1]]; exact hl
              refine lv_iconst (v := 0) hx hb dX5_trend_182 (by decide) ?_
              refine lv_istore (lv' := [(7, .int 0), (6, .int (facM np)), (5, .int (bI (rgT fr dy (nI np)))), (0, .ref (a 0)), (1, .int fr), (2, .int dy), (3, .int (nI np)), (4, .int w)]) hx hb dX5_trend_183 hl (by decide) rfl (fun ls hl => ?_)
              refine lv_iconst (v := 0) hx hb dX5_trend_185 (by decide) ?_
              refine lv_istore (lv' := [(8, .int 0), (7, .int 0), (6, .int (facM np)), (5, .int (bI (rgT fr dy (nI np)))), (0, .ref (a 0)), (1, .int fr), (2, .int dy), (3, .int (nI np)), (4, .int w)]) hx hb dX5_trend_186 hl (by decide) rfl (fun ls hl => ?_)
              have lp3 : ∀ (d3 k3 : Nat), k3 ≤ np → np + 1 ≤ k3 + d3 → ∀ (H : Heap) (locs : List Loc), va_P (dC, dI) clA (wM cI cZ a (upd v 0 (thI (bI (!(inB w 0 2))) (bI (rgT fr dy (nI np))) 0)) (tcG g v fr dy n np)) H → va_D A (wM cI cZ a (upd v 0 (thI (bI (!(inB w 0 2))) (bI (rgT fr dy (nI np))) 0)) (tcG g v fr dy n np)) → va_S A s.heap H locs → ∀ (ls : Array Slot), lv_has ls 10 [(8, .int (nI k3)), (7, .int (sgM (tcG g v fr dy n np) k3)), (6, .int (facM np)), (5, .int (bI (rgT fr dy (nI np)))), (0, .ref (a 0)), (1, .int fr), (2, .int dy), (3, .int (nI np)), (4, .int w)] → W p l e (headSpec wsX5_trend ({ frames := 2, cells := 0, slots := 0, locals := 51 })).room s m ([.ref (a 0), .int fr, .int dy, .int (nI np), .int w] : List Value).toArray below meth c H locs 0 0 (MQ below (va_Qi (fun (r : Int32) (u : StA) => r = (if 0 < thI (bI (!(inB w 0 2))) (bI (rgT fr dy (nI np))) 0 then 0 else trM (tcG g v fr dy n (nI np).toNatClampNeg) (nI np).toNatClampNeg w) ∧ u = (upd v 0 (thI (bI (!(inB w 0 2))) (bI (rgT fr dy (nI np))) 0), if 0 < thI (bI (!(inB w 0 2))) (bI (rgT fr dy (nI np))) 0 then g else stT (tb0 (tcG g v fr dy n (nI np).toNatClampNeg)) (nI np).toNatClampNeg (2 ^ (nI np).toNatClampNeg))) (atM dC dI cI cZ cJ a A) A) ([.ref (a 0), .int fr, .int dy, .int (nI np), .int w] : List Value).toArray s 0 0 A) (F0 m 188 ls []) := by
                intro d3
                induction d3 with
                | zero => intro k3 h1 h2; exact absurd h2 (by omega)
                | succ d3 ih3 =>
                  intro k3 hkn3 hkd3 H locs hP hD hS ls hl
                  refine lv_iload hx hb dX5_trend_188 (lv_at hl 0 rfl) ?_
                  refine lv_iload_n hx hb dX5_trend_190 rfl (lv_at hl 7 rfl) ?_
                  refine lv_icmp_ge (tgt := 217) hx hb dX5_trend_191 (by decide) (fun c191 => ?_) (fun c191 => ?_)
                  · have n191 := Int32.not_lt.mpr c191
                    have he3 : k3 = np := Nat.le_antisymm hkn3 ((nI_leI (by omega) (by omega)).mp c191)
                    have hl : lv_has ls 10 [(8, .int (nI k3)), (7, .int (sgM (tcG g v fr dy n np) np)), (6, .int (facM np)), (5, .int (bI (rgT fr dy (nI np)))), (0, .ref (a 0)), (1, .int fr), (2, .int dy), (3, .int (nI np)), (4, .int w)] := by rw [show sgM (tcG g v fr dy n np) np = sgM (tcG g v fr dy n np) k3 from by rw [he3]]; exact hl
                    refine lv_aload_n hx hb dX5_trend_217 rfl (lv_at hl 4 rfl) ?_
                    refine lv_iload hx hb dX5_trend_218 (lv_at hl 1 rfl) ?_
                    refine lv_iload_n hx hb dX5_trend_220 rfl (lv_at hl 7 rfl) ?_
                    have hFc := va_free (wc := (wM cI cZ a (upd v 0 (thI (bI (!(inB w 0 2))) (bI (rgT fr dy (nI np))) 0)) (tcG g v fr dy n np))) hD hS hA [0, 1, 2, 3, 4, 5, 6, 7, 8, 9, 10, 11, 12, 13, 14, 15, 16] rfl
                    refine va_calli (va_runV (As := [.int (sgM (tcG g v fr dy n np) np), .int (nI np)]) (rest := []) ⟨hx, hb, hml, hown, hts⟩ (m_ordersFrom l dC dI cI cZ cJ a (upd v 0 (thI (bI (!(inB w 0 2))) (bI (rgT fr dy (nI np))) 0)) (tcG g v fr dy n np) H.size (sgM (tcG g v fr dy n np) np) np (sgM (tcG g v fr dy n np) np + 15).toNatClampNeg (sg_ok (tcG g v fr dy n np) hnp2).1 (sg_ok (tcG g v fr dy n np) hnp2).2 hnp2) (cwV 2 hts (gd_V ml_X5_X5_ordersFrom im_X5_ordersFrom se_X5_ordersFrom in_X5 kX5_ordersFrom) rfl rfl rfl (by decide +kernel) ⟨Nat.le_of_ble_eq_true rfl, Nat.le_of_ble_eq_true rfl⟩) ⟨fun _ U g mk q => by obtain ⟨q0, q1, qP, qK, qD⟩ := q; exact ⟨q0, q1, qP, va_K.moved (u := U) (U := U.calling g mk _) (Vm.Alike.refl U.vm) qK, qD⟩, va_recv hK hP (ci := 5) (q0 := 0) rfl rfl, fun U hU hW => ⟨rfl, by rw [hU], by rw [hU]; exact hP, va_K.moved hW.alike hK, hD.weaken (fun _ _ _ _ => trivial)⟩⟩ rfl rfl hl.1 rfl (lv_room (Nat.le_of_ble_eq_true rfl)) dX5_trend_221 ⟨Nat.le_of_ble_eq_true rfl, Nat.le_of_ble_eq_true rfl⟩) hS (fun q _ h => hFc q h) hFc (fun r221 u9 t9 H1 locs ht hvm hw hB hz1 hk1 hS => ?_)
                    obtain ⟨rfl, rfl⟩ := hw
                    obtain ⟨hP, hK1, hD1⟩ := hB
                    rw [ht] at hP
                    have hD := hD1.weaken (fun k q _ h => hFc q.1 h)
                    clear hFc hk1 hD1 hK1
                    generalize H1 = H at hP hS ⊢
                    have hP : va_P (dC, dI) clA (wM cI cZ a (upd v 0 (thI (bI (!(inB w 0 2))) (bI (rgT fr dy (nI np))) 0)) (stT (tb0 (tcG g v fr dy n np)) np (2 ^ np))) H := hP
                    have hD : va_D A (wM cI cZ a (upd v 0 (thI (bI (!(inB w 0 2))) (bI (rgT fr dy (nI np))) 0)) (stT (tb0 (tcG g v fr dy n np)) np (2 ^ np))) := hD
                    refine lv_istore (lv' := [(8, .int (otM (tcG g v fr dy n np) np (sgM (tcG g v fr dy n np) np + 15).toNatClampNeg)), (7, .int (sgM (tcG g v fr dy n np) np)), (6, .int (facM np)), (5, .int (bI (rgT fr dy (nI np)))), (0, .ref (a 0)), (1, .int fr), (2, .int dy), (3, .int (nI np)), (4, .int w)]) hx hb dX5_trend_224 hl (by decide) rfl (fun ls hl => ?_)
                    refine lv_iload hx hb dX5_trend_226 (lv_at hl 8 rfl) ?_
                    refine lv_if_ne (tgt := 236) hx hb dX5_trend_228 (by decide) (fun c228 => ?_) (fun c228 => ?_)
                    · refine lv_iload hx hb dX5_trend_236 (lv_at hl 8 rfl) ?_
                      refine lv_iconst (v := 1) hx hb dX5_trend_238 (by decide) ?_
                      refine lv_icmp_ne (tgt := 247) hx hb dX5_trend_239 (by decide) (fun c239 => ?_) (fun c239 => ?_)
                      · refine lv_iload hx hb dX5_trend_247 (lv_at hl 2 rfl) ?_
                        refine lv_iload hx hb dX5_trend_249 (lv_at hl 0 rfl) ?_
                        refine lv_iload hx hb dX5_trend_251 (lv_at hl 2 rfl) ?_
                        rw [facM_n np]
                        refine vp_callSi (W.runS (As := [.int (otM (tcG g v fr dy n np) np (sgM (tcG g v fr dy n np) np + 15).toNatClampNeg), .int (nI (facN np))]) (rest := [.int (nI (facN np))]) ⟨hx, hb, hml, hown, hts⟩ (m_common2 l dC dI cI cZ cJ a (upd v 0 (thI (bI (!(inB w 0 2))) (bI (rgT fr dy (nI np))) 0)) (stT (tb0 (tcG g v fr dy n np)) np (2 ^ np)) (otM (tcG g v fr dy n np) np (sgM (tcG g v fr dy n np) np + 15).toNatClampNeg) (facN np) (facN_b np (by omega)).1 (facN_b np (by omega)).2) (cwS 2 hts (gd_S ml_X5_X5_common sm_X5_common in_X5 kX5_common) rfl rfl rfl (by decide +kernel) ⟨Nat.le_of_ble_eq_true rfl, Nat.le_of_ble_eq_true rfl⟩) ⟨fun _ U g mk q => by obtain ⟨q0, qP, qK⟩ := q; exact ⟨q0, qP, va_K.moved (u := U) (U := U.calling g mk _) (Vm.Alike.refl U.vm) qK⟩, fun U hU hW => ⟨rfl, by rw [hU]; exact hP, va_K.moved hW.alike hK⟩⟩ rfl rfl hl.1 rfl (lv_room (Nat.le_of_ble_eq_true rfl)) dX5_trend_253 ⟨Nat.le_of_ble_eq_true rfl, Nat.le_of_ble_eq_true rfl⟩) (fun r253 hr253 => ?_)
                        subst hr253
                        refine lv_idiv hx hb dX5_trend_256 (cmI_ne (facN_b np (by omega)).1 (facN_b np (by omega)).2) ?_
                        exact (W.iret (v := (nI (facN np)) / (cmI (otM (tcG g v fr dy n np) np (sgM (tcG g v fr dy n np) np + 15).toNatClampNeg) (facN np))) hx hb hr (fun t9 ht hW => ⟨⟨_, ((upd v 0 (thI (bI (!(inB w 0 2))) (bI (rgT fr dy (nI np))) 0)), (stT (tb0 (tcG g v fr dy n np)) np (2 ^ np))), rfl, ⟨(by rw [nI_clamp (by omega)]; simp only [if_neg (of_decide_eq_false c76)]; simp [trM, facM_n, c228, c239]), (by rw [nI_clamp (by omega)]; simp only [if_neg (of_decide_eq_false c76)])⟩, ⟨by rw [ht]; exact hP, va_K.moved hW.alike hK, hD⟩⟩, hS.F ht⟩) hS.2.2 dX5_trend_257)
                      · refine lv_iload hx hb dX5_trend_242 (lv_at hl 0 rfl) ?_
                        refine lv_goto (tgt := 249) hx hb dX5_trend_244 (by decide) ?_
                        refine lv_iload hx hb dX5_trend_249 (lv_at hl 0 rfl) ?_
                        refine lv_iload hx hb dX5_trend_251 (lv_at hl 2 rfl) ?_
                        rw [facM_n np]
                        refine vp_callSi (W.runS (As := [.int (otM (tcG g v fr dy n np) np (sgM (tcG g v fr dy n np) np + 15).toNatClampNeg), .int (nI (facN np))]) (rest := [.int (otM (tcG g v fr dy n np) np (sgM (tcG g v fr dy n np) np + 15).toNatClampNeg)]) ⟨hx, hb, hml, hown, hts⟩ (m_common2 l dC dI cI cZ cJ a (upd v 0 (thI (bI (!(inB w 0 2))) (bI (rgT fr dy (nI np))) 0)) (stT (tb0 (tcG g v fr dy n np)) np (2 ^ np)) (otM (tcG g v fr dy n np) np (sgM (tcG g v fr dy n np) np + 15).toNatClampNeg) (facN np) (facN_b np (by omega)).1 (facN_b np (by omega)).2) (cwS 2 hts (gd_S ml_X5_X5_common sm_X5_common in_X5 kX5_common) rfl rfl rfl (by decide +kernel) ⟨Nat.le_of_ble_eq_true rfl, Nat.le_of_ble_eq_true rfl⟩) ⟨fun _ U g mk q => by obtain ⟨q0, qP, qK⟩ := q; exact ⟨q0, qP, va_K.moved (u := U) (U := U.calling g mk _) (Vm.Alike.refl U.vm) qK⟩, fun U hU hW => ⟨rfl, by rw [hU]; exact hP, va_K.moved hW.alike hK⟩⟩ rfl rfl hl.1 rfl (lv_room (Nat.le_of_ble_eq_true rfl)) dX5_trend_253 ⟨Nat.le_of_ble_eq_true rfl, Nat.le_of_ble_eq_true rfl⟩) (fun r253 hr253 => ?_)
                        subst hr253
                        refine lv_idiv hx hb dX5_trend_256 (cmI_ne (facN_b np (by omega)).1 (facN_b np (by omega)).2) ?_
                        exact (W.iret (v := (otM (tcG g v fr dy n np) np (sgM (tcG g v fr dy n np) np + 15).toNatClampNeg) / (cmI (otM (tcG g v fr dy n np) np (sgM (tcG g v fr dy n np) np + 15).toNatClampNeg) (facN np))) hx hb hr (fun t9 ht hW => ⟨⟨_, ((upd v 0 (thI (bI (!(inB w 0 2))) (bI (rgT fr dy (nI np))) 0)), (stT (tb0 (tcG g v fr dy n np)) np (2 ^ np))), rfl, ⟨(by rw [nI_clamp (by omega)]; simp only [if_neg (of_decide_eq_false c76)]; simp [trM, facM_n, c228, c239]), (by rw [nI_clamp (by omega)]; simp only [if_neg (of_decide_eq_false c76)])⟩, ⟨by rw [ht]; exact hP, va_K.moved hW.alike hK, hD⟩⟩, hS.F ht⟩) hS.2.2 dX5_trend_257)
                    · refine lv_iload hx hb dX5_trend_231 (lv_at hl 1 rfl) ?_
                      refine lv_goto (tgt := 257) hx hb dX5_trend_233 (by decide) ?_
                      exact (W.iret (v := sgM (tcG g v fr dy n np) np) hx hb hr (fun t9 ht hW => ⟨⟨_, ((upd v 0 (thI (bI (!(inB w 0 2))) (bI (rgT fr dy (nI np))) 0)), (stT (tb0 (tcG g v fr dy n np)) np (2 ^ np))), rfl, ⟨(by rw [nI_clamp (by omega)]; simp only [if_neg (of_decide_eq_false c76)]; simp [trM, facM_n, c228]), (by rw [nI_clamp (by omega)]; simp only [if_neg (of_decide_eq_false c76)])⟩, ⟨by rw [ht]; exact hP, va_K.moved hW.alike hK, hD⟩⟩, hS.F ht⟩) hS.2.2 dX5_trend_257)
                  · have n191 := Int32.not_le.mp c191
                    have hk3 : k3 < np := Nat.lt_of_not_le (fun h => c191 (nI_le h (by omega)))
                    refine lv_iload hx hb dX5_trend_194 (lv_at hl 1 rfl) ?_
                    refine lv_aload_n hx hb dX5_trend_196 rfl (lv_at hl 4 rfl) ?_
                    refine lv_iconst (v := 1) hx hb dX5_trend_197 (by decide) ?_
                    refine lv_iload hx hb dX5_trend_198 (lv_at hl 0 rfl) ?_
                    refine lv_ishl hx hb dX5_trend_200 ?_
                    refine lv_iconst (v := 1) hx hb dX5_trend_201 (by decide) ?_
                    refine lv_isub hx hb dX5_trend_202 ?_
                    refine lv_iload hx hb dX5_trend_203 (lv_at hl 0 rfl) ?_
                    refine vp_callSi (W.runV (As := [.int ((1 <<< ((nI k3) &&& 31)) - 1), .int (nI k3)]) (rest := [.int (sgM (tcG g v fr dy n np) k3)]) ⟨hx, hb, hml, hown, hts⟩ (m_gain l dC dI cI cZ cJ a (upd v 0 (thI (bI (!(inB w 0 2))) (bI (rgT fr dy (nI np))) 0)) (tcG g v fr dy n np) ((1 <<< ((nI k3) &&& 31)) - 1) k3 (by omega)) (cwV 2 hts (gd_V ml_X5_X5_gain im_X5_gain se_X5_gain in_X5 kX5_gain) rfl rfl rfl (by decide +kernel) ⟨Nat.le_of_ble_eq_true rfl, Nat.le_of_ble_eq_true rfl⟩) ⟨fun _ U g mk q => by obtain ⟨q0, qP, qK⟩ := q; exact ⟨q0, qP, va_K.moved (u := U) (U := U.calling g mk _) (Vm.Alike.refl U.vm) qK⟩, va_recv hK hP (ci := 5) (q0 := 0) rfl rfl, fun U hU hW => ⟨rfl, by rw [hU]; exact hP, va_K.moved hW.alike hK⟩⟩ rfl rfl hl.1 rfl (lv_room (Nat.le_of_ble_eq_true rfl)) dX5_trend_205 ⟨Nat.le_of_ble_eq_true rfl, Nat.le_of_ble_eq_true rfl⟩) (fun r205 hr205 => ?_)
                    subst hr205
                    refine lv_iadd hx hb dX5_trend_208 ?_
                    refine lv_istore (lv' := [(7, .int ((sgM (tcG g v fr dy n np) k3) + (isum (gnM (tcG g v fr dy n np) ((1 <<< ((nI k3) &&& 31)) - 1) k3) 6))), (8, .int (nI k3)), (6, .int (facM np)), (5, .int (bI (rgT fr dy (nI np)))), (0, .ref (a 0)), (1, .int fr), (2, .int dy), (3, .int (nI np)), (4, .int w)]) hx hb dX5_trend_209 hl (by decide) rfl (fun ls hl => ?_)
                    refine lv_iinc (v := nI (k3 + 1)) (lv' := [(8, .int (nI (k3 + 1))), (7, .int ((sgM (tcG g v fr dy n np) k3) + (isum (gnM (tcG g v fr dy n np) ((1 <<< ((nI k3) &&& 31)) - 1) k3) 6))), (6, .int (facM np)), (5, .int (bI (rgT fr dy (nI np)))), (0, .ref (a 0)), (1, .int fr), (2, .int dy), (3, .int (nI np)), (4, .int w)]) hx hb dX5_trend_211 hl (k := 1) rfl (nI_1 k3) (by decide) rfl (fun ls hl => ?_)
                    refine lv_goto (tgt := 188) hx hb dX5_trend_214 (by decide) ?_
                    have eL0 : (.int (sgM (tcG g v fr dy n np) (k3 + 1)) : Value) = .int ((sgM (tcG g v fr dy n np) k3) + (isum (gnM (tcG g v fr dy n np) ((1 <<< ((nI k3) &&& 31)) - 1) k3) 6)) := rfl
                    exact ih3 (k3 + 1) (by omega) (by omega) _ _ hP hD hS ls (by rw [eL0]; exact lv_sub hl [0, 1, 2, 3, 4, 5, 6, 7, 8] rfl)
              exact lp3 (np + 1) 0 (by omega) (by omega) _ _ hP hD hS ls (lv_sub hl [0, 1, 2, 3, 4, 5, 6, 7, 8] rfl)
            · have n90 := Int32.not_le.mp c90
              have hk1 : k < np := Nat.lt_of_not_le (fun h => c90 (nI_le h (by omega)))
              refine lv_aload_n hx hb dX5_trend_93 rfl (lv_at hl 3 rfl) ?_
              refine va_get (D := (dC, dI)) (ci := 5) (v := .ref (a 13)) (C := RX5) (T := TX5) (N := 24) hx hb hts (fun w h => List.mem_cons_of_mem _ (iw_X5 w h)) hown hK hP 0 rfl rfl 20 (by decide) (hts _ (List.mem_cons_of_mem _ fl_X5_counts)) (fun _ h9 => h9) rfl dX5_trend_94 ?_
              refine lv_iload hx hb dX5_trend_97 (lv_at hl 0 rfl) ?_
              refine lv_iconst (v := 0) hx hb dX5_trend_99 (by decide) ?_
              refine wi_ast hx hb hK hP hD hS 13 0 rfl rfl (k := k) (by omega) (by decide) dX5_trend_100 (fun H locs hP hD hS => ?_)
              have hP : va_P (dC, dI) clA (wM cI cZ a (upd v 0 (thI (bI (!(inB w 0 2))) (bI (rgT fr dy (nI np))) 0)) (upg (tcG g v fr dy n k) 12 k 0)) H := hP
              have hD : va_D A (wM cI cZ a (upd v 0 (thI (bI (!(inB w 0 2))) (bI (rgT fr dy (nI np))) 0)) (upg (tcG g v fr dy n k) 12 k 0)) := hD
              refine lv_iload hx hb dX5_trend_101 (lv_at hl 1 rfl) ?_
              refine lv_iload hx hb dX5_trend_103 (lv_at hl 0 rfl) ?_
              refine lv_iconst (v := 1) hx hb dX5_trend_105 (by decide) ?_
              refine lv_iadd hx hb dX5_trend_106 ?_
              refine lv_imul hx hb dX5_trend_107 ?_
              refine lv_istore (lv' := [(6, .int ((facM k) * ((nI k) + 1))), (7, .int (nI k)), (5, .int (bI (rgT fr dy (nI np)))), (0, .ref (a 0)), (1, .int fr), (2, .int dy), (3, .int (nI np)), (4, .int w)]) hx hb dX5_trend_108 hl (by decide) rfl (fun ls hl => ?_)
              refine lv_iload_n hx hb dX5_trend_110 rfl (lv_at hl 4 rfl) ?_
              refine lv_iload_n hx hb dX5_trend_111 rfl (lv_at hl 5 rfl) ?_
              refine lv_iload hx hb dX5_trend_112 (lv_at hl 1 rfl) ?_
              refine lv_imul hx hb dX5_trend_114 ?_
              refine lv_iadd hx hb dX5_trend_115 ?_
              refine lv_istore (lv' := [(8, .int (fr + (dy * (nI k)))), (6, .int ((facM k) * ((nI k) + 1))), (7, .int (nI k)), (5, .int (bI (rgT fr dy (nI np)))), (0, .ref (a 0)), (1, .int fr), (2, .int dy), (3, .int (nI np)), (4, .int w)]) hx hb dX5_trend_116 hl (by decide) rfl (fun ls hl => ?_)
              refine lv_iconst (v := 0) hx hb dX5_trend_118 (by decide) ?_
              refine lv_istore (lv' := [(9, .int 0), (8, .int (fr + (dy * (nI k)))), (6, .int ((facM k) * ((nI k) + 1))), (7, .int (nI k)), (5, .int (bI (rgT fr dy (nI np)))), (0, .ref (a 0)), (1, .int fr), (2, .int dy), (3, .int (nI np)), (4, .int w)]) hx hb dX5_trend_119 hl (by decide) rfl (fun ls hl => ?_)
              have lp2 : ∀ (d2 r9 : Nat), r9 ≤ n → n + 1 ≤ r9 + d2 → ∀ (H : Heap) (locs : List Loc), va_P (dC, dI) clA (wM cI cZ a (upd v 0 (thI (bI (!(inB w 0 2))) (bI (rgT fr dy (nI np))) 0)) (upg (tcG g v fr dy n k) 12 k (cnt (fun i => fitB (tcG g v fr dy n k) i (fr + dy * nI k) (fr + dy * nI k + dy - 1) (v 5) (v 6)) r9))) H → va_D A (wM cI cZ a (upd v 0 (thI (bI (!(inB w 0 2))) (bI (rgT fr dy (nI np))) 0)) (upg (tcG g v fr dy n k) 12 k (cnt (fun i => fitB (tcG g v fr dy n k) i (fr + dy * nI k) (fr + dy * nI k + dy - 1) (v 5) (v 6)) r9))) → va_S A s.heap H locs → ∀ (ls : Array Slot), lv_has ls 10 [(9, .int (nI r9)), (8, .int (fr + (dy * (nI k)))), (6, .int ((facM k) * ((nI k) + 1))), (7, .int (nI k)), (5, .int (bI (rgT fr dy (nI np)))), (0, .ref (a 0)), (1, .int fr), (2, .int dy), (3, .int (nI np)), (4, .int w)] → W p l e (headSpec wsX5_trend ({ frames := 2, cells := 0, slots := 0, locals := 51 })).room s m ([.ref (a 0), .int fr, .int dy, .int (nI np), .int w] : List Value).toArray below meth c H locs 0 0 (MQ below (va_Qi (fun (r : Int32) (u : StA) => r = (if 0 < thI (bI (!(inB w 0 2))) (bI (rgT fr dy (nI np))) 0 then 0 else trM (tcG g v fr dy n (nI np).toNatClampNeg) (nI np).toNatClampNeg w) ∧ u = (upd v 0 (thI (bI (!(inB w 0 2))) (bI (rgT fr dy (nI np))) 0), if 0 < thI (bI (!(inB w 0 2))) (bI (rgT fr dy (nI np))) 0 then g else stT (tb0 (tcG g v fr dy n (nI np).toNatClampNeg)) (nI np).toNatClampNeg (2 ^ (nI np).toNatClampNeg))) (atM dC dI cI cZ cJ a A) A) ([.ref (a 0), .int fr, .int dy, .int (nI np), .int w] : List Value).toArray s 0 0 A) (F0 m 121 ls []) := by
                intro d2
                induction d2 with
                | zero => intro r9 h1 h2; exact absurd h2 (by omega)
                | succ d2 ih2 =>
                  intro r9 hkn2 hkd2 H locs hP hD hS ls hl
                  refine lv_iload hx hb dX5_trend_121 (lv_at hl 0 rfl) ?_
                  refine lv_aload_n hx hb dX5_trend_123 rfl (lv_at hl 5 rfl) ?_
                  refine va_get (D := (dC, dI)) (ci := 5) (v := .int (v 1)) (C := RX5) (T := TX5) (N := 24) hx hb hts (fun w h => List.mem_cons_of_mem _ (iw_X5 w h)) hown hK hP 0 rfl rfl 1 (by decide) (hts _ (List.mem_cons_of_mem _ fl_X5_rows)) (fun _ h9 => h9) rfl dX5_trend_124 ?_
                  refine lv_icmp_ge (tgt := 176) hx hb dX5_trend_127 (by decide) (fun c127 => ?_) (fun c127 => ?_)
                  · have n127 := Int32.not_lt.mpr c127
                    rw [hn] at c127
                    have he2 : r9 = n := Nat.le_antisymm hkn2 ((nI_leI (by omega) (by omega)).mp c127)
                    refine lv_iinc (v := nI (k + 1)) (lv' := [(7, .int (nI (k + 1))), (9, .int (nI r9)), (8, .int (fr + (dy * (nI k)))), (6, .int ((facM k) * ((nI k) + 1))), (5, .int (bI (rgT fr dy (nI np)))), (0, .ref (a 0)), (1, .int fr), (2, .int dy), (3, .int (nI np)), (4, .int w)]) hx hb dX5_trend_176 hl (k := 3) rfl (nI_1 k) (by decide) rfl (fun ls hl => ?_)
                    refine lv_goto (tgt := 87) hx hb dX5_trend_179 (by decide) ?_
                    have eG : (tcG g v fr dy n (k + 1)) = (upg (tcG g v fr dy n k) 12 k (cnt (fun i => fitB (tcG g v fr dy n k) i (fr + dy * nI k) (fr + dy * nI k + dy - 1) (v 5) (v 6)) r9)) := (by rw [tcG, ← he2])
                    have eL0 : (.int (facM (k + 1)) : Value) = .int ((facM k) * ((nI k) + 1)) := rfl
                    exact ih1 (k + 1) (by omega) (by omega) _ _ (by rw [eG]; exact hP) (by rw [eG]; exact hD) hS ls (by rw [eL0]; exact lv_sub hl [0, 3, 4, 5, 6, 7, 8, 9] rfl)
                  · have n127 := Int32.not_le.mp c127
                    rw [hn] at c127
                    have hk2 : r9 < n := Nat.lt_of_not_le (fun h => c127 (nI_le h (by omega)))
                    refine lv_aload_n hx hb dX5_trend_130 rfl (lv_at hl 5 rfl) ?_
                    refine va_get (D := (dC, dI)) (ci := 5) (v := .ref (a 13)) (C := RX5) (T := TX5) (N := 24) hx hb hts (fun w h => List.mem_cons_of_mem _ (iw_X5 w h)) hown hK hP 0 rfl rfl 20 (by decide) (hts _ (List.mem_cons_of_mem _ fl_X5_counts)) (fun _ h9 => h9) rfl dX5_trend_131 ?_
                    refine lv_iload hx hb dX5_trend_134 (lv_at hl 3 rfl) ?_
                    refine lv_dup2_11 hx hb dX5_trend_136 rfl rfl ?_
                    refine wi_ald hx hb hK hP 13 0 rfl rfl (k := k) (by omega) (by decide) dX5_trend_137 ?_
                    rw [upg_at]
                    refine lv_aload_n hx hb dX5_trend_138 rfl (lv_at hl 5 rfl) ?_
                    refine lv_iload hx hb dX5_trend_139 (lv_at hl 0 rfl) ?_
                    refine lv_iload hx hb dX5_trend_141 (lv_at hl 1 rfl) ?_
                    refine lv_iload hx hb dX5_trend_143 (lv_at hl 1 rfl) ?_
                    refine lv_iload_n hx hb dX5_trend_145 rfl (lv_at hl 7 rfl) ?_
                    refine lv_iadd hx hb dX5_trend_146 ?_
                    refine lv_iconst (v := 1) hx hb dX5_trend_147 (by decide) ?_
                    refine lv_isub hx hb dX5_trend_148 ?_
                    refine lv_aload_n hx hb dX5_trend_149 rfl (lv_at hl 5 rfl) ?_
                    refine va_get (D := (dC, dI)) (ci := 5) (v := .int (v 5)) (C := RX5) (T := TX5) (N := 24) hx hb hts (fun w h => List.mem_cons_of_mem _ (iw_X5 w h)) hown hK hP 0 rfl rfl 16 (by decide) (hts _ (List.mem_cons_of_mem _ fl_X5_askedKind)) (fun _ h9 => h9) rfl dX5_trend_150 ?_
                    refine lv_aload_n hx hb dX5_trend_153 rfl (lv_at hl 5 rfl) ?_
                    refine va_get (D := (dC, dI)) (ci := 5) (v := .int (v 6)) (C := RX5) (T := TX5) (N := 24) hx hb hts (fun w h => List.mem_cons_of_mem _ (iw_X5 w h)) hown hK hP 0 rfl rfl 17 (by decide) (hts _ (List.mem_cons_of_mem _ fl_X5_askedArea)) (fun _ h9 => h9) rfl dX5_trend_154 ?_
                    refine vp_callSi (W.runV (As := [.int (nI r9), .int (fr + (dy * (nI k))), .int (((fr + (dy * (nI k))) + dy) - 1), .int (v 5), .int (v 6)]) (rest := [.int (cnt (fun i => fitB (tcG g v fr dy n k) i (fr + dy * nI k) (fr + dy * nI k + dy - 1) (v 5) (v 6)) r9), .int (nI k), .ref (a 13)]) ⟨hx, hb, hml, hown, hts⟩ (m_fits l dC dI cI cZ cJ a (upd v 0 (thI (bI (!(inB w 0 2))) (bI (rgT fr dy (nI np))) 0)) (upg (tcG g v fr dy n k) 12 k (cnt (fun i => fitB (tcG g v fr dy n k) i (fr + dy * nI k) (fr + dy * nI k + dy - 1) (v 5) (v 6)) r9)) r9 (fr + (dy * (nI k))) (((fr + (dy * (nI k))) + dy) - 1) (v 5) (v 6) (by omega)) (cwV 5 hts (gd_V ml_X5_X5_fits im_X5_fits se_X5_fits in_X5 kX5_fits) rfl rfl rfl (by decide +kernel) ⟨Nat.le_of_ble_eq_true rfl, Nat.le_of_ble_eq_true rfl⟩) ⟨fun _ U g mk q => by obtain ⟨q0, qP, qK⟩ := q; exact ⟨q0, qP, va_K.moved (u := U) (U := U.calling g mk _) (Vm.Alike.refl U.vm) qK⟩, va_recv hK hP (ci := 5) (q0 := 0) rfl rfl, fun U hU hW => ⟨rfl, by rw [hU]; exact hP, va_K.moved hW.alike hK⟩⟩ rfl rfl hl.1 rfl (lv_room (Nat.le_of_ble_eq_true rfl)) dX5_trend_157 ⟨Nat.le_of_ble_eq_true rfl, Nat.le_of_ble_eq_true rfl⟩) (fun r157 hr157 => ?_)
                    subst hr157
                    refine lv_if_eq (tgt := 167) hx hb dX5_trend_160 (by decide) (fun c160 => ?_) (fun c160 => ?_)
                    · have c160 := bI_0.mp c160
                      have c160 : fitB (tcG g v fr dy n k) r9 (fr + dy * nI k) (fr + dy * nI k + dy - 1) (v 5) (v 6) = false := c160
                      refine lv_iconst (v := 0) hx hb dX5_trend_167 (by decide) ?_
                      refine lv_iadd hx hb dX5_trend_168 ?_
                      refine wi_ast hx hb hK hP hD hS 13 0 rfl rfl (k := k) (by omega) (by decide) dX5_trend_169 (fun H locs hP hD hS => ?_)
                      have hP : va_P (dC, dI) clA (wM cI cZ a (upd v 0 (thI (bI (!(inB w 0 2))) (bI (rgT fr dy (nI np))) 0)) (upg (upg (tcG g v fr dy n k) 12 k (cnt (fun i => fitB (tcG g v fr dy n k) i (fr + dy * nI k) (fr + dy * nI k + dy - 1) (v 5) (v 6)) r9)) 12 k ((cnt (fun i => fitB (tcG g v fr dy n k) i (fr + dy * nI k) (fr + dy * nI k + dy - 1) (v 5) (v 6)) r9) + 0))) H := hP
                      have hD : va_D A (wM cI cZ a (upd v 0 (thI (bI (!(inB w 0 2))) (bI (rgT fr dy (nI np))) 0)) (upg (upg (tcG g v fr dy n k) 12 k (cnt (fun i => fitB (tcG g v fr dy n k) i (fr + dy * nI k) (fr + dy * nI k + dy - 1) (v 5) (v 6)) r9)) 12 k ((cnt (fun i => fitB (tcG g v fr dy n k) i (fr + dy * nI k) (fr + dy * nI k + dy - 1) (v 5) (v 6)) r9) + 0))) := hD
                      refine lv_iinc (v := nI (r9 + 1)) (lv' := [(9, .int (nI (r9 + 1))), (8, .int (fr + (dy * (nI k)))), (6, .int ((facM k) * ((nI k) + 1))), (7, .int (nI k)), (5, .int (bI (rgT fr dy (nI np)))), (0, .ref (a 0)), (1, .int fr), (2, .int dy), (3, .int (nI np)), (4, .int w)]) hx hb dX5_trend_170 hl (k := 0) rfl (nI_1 r9) (by decide) rfl (fun ls hl => ?_)
                      refine lv_goto (tgt := 121) hx hb dX5_trend_173 (by decide) ?_
                      have eG : (upg (tcG g v fr dy n k) 12 k (cnt (fun i => fitB (tcG g v fr dy n k) i (fr + dy * nI k) (fr + dy * nI k + dy - 1) (v 5) (v 6)) (r9 + 1))) = (upg (upg (tcG g v fr dy n k) 12 k (cnt (fun i => fitB (tcG g v fr dy n k) i (fr + dy * nI k) (fr + dy * nI k + dy - 1) (v 5) (v 6)) r9)) 12 k ((cnt (fun i => fitB (tcG g v fr dy n k) i (fr + dy * nI k) (fr + dy * nI k + dy - 1) (v 5) (v 6)) r9) + 0)) := (by rw [upg_upg, cnt_s, c160]; rfl)
                      exact ih2 (r9 + 1) (by omega) (by omega) _ _ (by rw [eG]; exact hP) (by rw [eG]; exact hD) hS ls (lv_sub hl [0, 1, 2, 3, 4, 5, 6, 7, 8, 9] rfl)
                    · have c160 := bI_n0.mp c160
                      have c160 : fitB (tcG g v fr dy n k) r9 (fr + dy * nI k) (fr + dy * nI k + dy - 1) (v 5) (v 6) = true := c160
                      refine lv_iconst (v := 1) hx hb dX5_trend_163 (by decide) ?_
                      refine lv_goto (tgt := 168) hx hb dX5_trend_164 (by decide) ?_
                      refine lv_iadd hx hb dX5_trend_168 ?_
                      refine wi_ast hx hb hK hP hD hS 13 0 rfl rfl (k := k) (by omega) (by decide) dX5_trend_169 (fun H locs hP hD hS => ?_)
                      have hP : va_P (dC, dI) clA (wM cI cZ a (upd v 0 (thI (bI (!(inB w 0 2))) (bI (rgT fr dy (nI np))) 0)) (upg (upg (tcG g v fr dy n k) 12 k (cnt (fun i => fitB (tcG g v fr dy n k) i (fr + dy * nI k) (fr + dy * nI k + dy - 1) (v 5) (v 6)) r9)) 12 k ((cnt (fun i => fitB (tcG g v fr dy n k) i (fr + dy * nI k) (fr + dy * nI k + dy - 1) (v 5) (v 6)) r9) + 1))) H := hP
                      have hD : va_D A (wM cI cZ a (upd v 0 (thI (bI (!(inB w 0 2))) (bI (rgT fr dy (nI np))) 0)) (upg (upg (tcG g v fr dy n k) 12 k (cnt (fun i => fitB (tcG g v fr dy n k) i (fr + dy * nI k) (fr + dy * nI k + dy - 1) (v 5) (v 6)) r9)) 12 k ((cnt (fun i => fitB (tcG g v fr dy n k) i (fr + dy * nI k) (fr + dy * nI k + dy - 1) (v 5) (v 6)) r9) + 1))) := hD
                      refine lv_iinc (v := nI (r9 + 1)) (lv' := [(9, .int (nI (r9 + 1))), (8, .int (fr + (dy * (nI k)))), (6, .int ((facM k) * ((nI k) + 1))), (7, .int (nI k)), (5, .int (bI (rgT fr dy (nI np)))), (0, .ref (a 0)), (1, .int fr), (2, .int dy), (3, .int (nI np)), (4, .int w)]) hx hb dX5_trend_170 hl (k := 0) rfl (nI_1 r9) (by decide) rfl (fun ls hl => ?_)
                      refine lv_goto (tgt := 121) hx hb dX5_trend_173 (by decide) ?_
                      have eG : (upg (tcG g v fr dy n k) 12 k (cnt (fun i => fitB (tcG g v fr dy n k) i (fr + dy * nI k) (fr + dy * nI k + dy - 1) (v 5) (v 6)) (r9 + 1))) = (upg (upg (tcG g v fr dy n k) 12 k (cnt (fun i => fitB (tcG g v fr dy n k) i (fr + dy * nI k) (fr + dy * nI k + dy - 1) (v 5) (v 6)) r9)) 12 k ((cnt (fun i => fitB (tcG g v fr dy n k) i (fr + dy * nI k) (fr + dy * nI k + dy - 1) (v 5) (v 6)) r9) + 1)) := (by rw [upg_upg, cnt_s, c160]; rfl)
                      exact ih2 (r9 + 1) (by omega) (by omega) _ _ (by rw [eG]; exact hP) (by rw [eG]; exact hD) hS ls (lv_sub hl [0, 1, 2, 3, 4, 5, 6, 7, 8, 9] rfl)
              exact lp2 (n + 1) 0 (by omega) (by omega) _ _ hP hD hS ls (lv_sub hl [0, 1, 2, 3, 4, 5, 6, 7, 8, 9] rfl)
        exact lp1 (np + 1) 0 (by omega) (by omega) _ _ hP hD hS ls (lv_sub hl [0, 1, 2, 3, 4, 5, 6, 7] rfl)
      · have c76 := bI_n0.mp c76
        refine lv_iconst (v := 0) hx hb dX5_trend_79 (by decide) ?_
        exact (W.iret (v := 0) hx hb hr (fun t9 ht hW => ⟨⟨_, ((upd v 0 (thI (bI (!(inB w 0 2))) (bI (rgT fr dy pr)) 0)), g), rfl, ⟨(by simp only [if_pos (of_decide_eq_true c76)]), (by simp only [if_pos (of_decide_eq_true c76)])⟩, ⟨by rw [ht]; exact hP, va_K.moved hW.alike hK, hD⟩⟩, hS.F ht⟩) hS.2.2 dX5_trend_80)
    refine lv_iload hx hb dX5_trend_55 (lv_at hl 5 rfl) ?_
    refine lv_iconst (v := 0) hx hb dX5_trend_57 (by decide) ?_
    refine lv_iconst (v := 2) hx hb dX5_trend_58 (by decide) ?_
    refine vp_callSi (W.runS (As := [.int w, .int 0, .int 2]) (rest := [.ref (a 0)]) ⟨hx, hb, hml, hown, hts⟩ (m_in l dC dI cI cZ cJ a v g w 0 2) (cwS 3 hts (gd_S ml_X5_X5_in sm_X5_in in_X5 kX5_in) rfl rfl rfl (by decide +kernel) ⟨Nat.le_of_ble_eq_true rfl, Nat.le_of_ble_eq_true rfl⟩) ⟨fun _ U g mk q => by obtain ⟨q0, qP, qK⟩ := q; exact ⟨q0, qP, va_K.moved (u := U) (U := U.calling g mk _) (Vm.Alike.refl U.vm) qK⟩, fun U hU hW => ⟨rfl, by rw [hU]; exact hP, va_K.moved hW.alike hK⟩⟩ rfl rfl hl.1 rfl (lv_room (Nat.le_of_ble_eq_true rfl)) dX5_trend_59 ⟨Nat.le_of_ble_eq_true rfl, Nat.le_of_ble_eq_true rfl⟩) (fun r59 hr59 => ?_)
    subst hr59
    refine lv_if_ne (tgt := 69) hx hb dX5_trend_62 (by decide) (fun c62 => ?_) (fun c62 => ?_)
    · have c62 := bI_n0.mp c62
      refine lv_iconst (v := 0) hx hb dX5_trend_69 (by decide) ?_
      exact jn70 _ (by first | (simp [bI, c62]; done) | (simp [rgT, bI, c62]; done))
    · have c62 := bI_0.mp c62
      refine lv_iconst (v := 1) hx hb dX5_trend_65 (by decide) ?_
      refine lv_goto (tgt := 70) hx hb dX5_trend_66 (by decide) ?_
      exact jn70 _ (by first | (simp [bI, c62]; done) | (simp [rgT, bI, c62]; done))
  refine lv_iload_n hx hb dX5_trend_0 rfl (lv_at hl 3 rfl) ?_
  refine lv_iconst (v := 2) hx hb dX5_trend_1 (by decide) ?_
  refine lv_bipush (v := 6) hx hb dX5_trend_2 (by decide) ?_
  refine vp_callSi (W.runS (As := [.int pr, .int 2, .int 6]) (rest := []) ⟨hx, hb, hml, hown, hts⟩ (m_in l dC dI cI cZ cJ a v g pr 2 6) (cwS 3 hts (gd_S ml_X5_X5_in sm_X5_in in_X5 kX5_in) rfl rfl rfl (by decide +kernel) ⟨Nat.le_of_ble_eq_true rfl, Nat.le_of_ble_eq_true rfl⟩) ⟨fun _ U g mk q => by obtain ⟨q0, qP, qK⟩ := q; exact ⟨q0, qP, va_K.moved (u := U) (U := U.calling g mk _) (Vm.Alike.refl U.vm) qK⟩, fun U hU hW => ⟨rfl, by rw [hU]; exact hP, va_K.moved hW.alike hK⟩⟩ rfl rfl hl.1 rfl (lv_room (Nat.le_of_ble_eq_true rfl)) dX5_trend_4 ⟨Nat.le_of_ble_eq_true rfl, Nat.le_of_ble_eq_true rfl⟩) (fun r4 hr4 => ?_)
  subst hr4
  refine lv_if_eq (tgt := 47) hx hb dX5_trend_7 (by decide) (fun c7 => ?_) (fun c7 => ?_)
  · have c7 := bI_0.mp c7
    refine lv_iconst (v := 1) hx hb dX5_trend_47 (by decide) ?_
    refine lv_goto (tgt := 52) hx hb dX5_trend_48 (by decide) ?_
    exact jn52 _ (by first | (simp [bI, c7]; done) | (simp [rgT, bI, c7]; done))
  · have c7 := bI_n0.mp c7
    refine lv_iload_n hx hb dX5_trend_10 rfl (lv_at hl 2 rfl) ?_
    refine lv_iconst (v := 1) hx hb dX5_trend_11 (by decide) ?_
    refine lv_sipush (v := 1000) hx hb dX5_trend_12 (by decide) ?_
    refine vp_callSi (W.runS (As := [.int dy, .int 1, .int 1000]) (rest := []) ⟨hx, hb, hml, hown, hts⟩ (m_in l dC dI cI cZ cJ a v g dy 1 1000) (cwS 3 hts (gd_S ml_X5_X5_in sm_X5_in in_X5 kX5_in) rfl rfl rfl (by decide +kernel) ⟨Nat.le_of_ble_eq_true rfl, Nat.le_of_ble_eq_true rfl⟩) ⟨fun _ U g mk q => by obtain ⟨q0, qP, qK⟩ := q; exact ⟨q0, qP, va_K.moved (u := U) (U := U.calling g mk _) (Vm.Alike.refl U.vm) qK⟩, fun U hU hW => ⟨rfl, by rw [hU]; exact hP, va_K.moved hW.alike hK⟩⟩ rfl rfl hl.1 rfl (lv_room (Nat.le_of_ble_eq_true rfl)) dX5_trend_15 ⟨Nat.le_of_ble_eq_true rfl, Nat.le_of_ble_eq_true rfl⟩) (fun r15 hr15 => ?_)
    subst hr15
    refine lv_if_eq (tgt := 47) hx hb dX5_trend_18 (by decide) (fun c18 => ?_) (fun c18 => ?_)
    · have c18 := bI_0.mp c18
      refine lv_iconst (v := 1) hx hb dX5_trend_47 (by decide) ?_
      refine lv_goto (tgt := 52) hx hb dX5_trend_48 (by decide) ?_
      exact jn52 _ (by first | (simp [bI, c7, c18]; done) | (simp [rgT, bI, c7, c18]; done) | exact absurd (c7.symm.trans c18) (by decide))
    · have c18 := bI_n0.mp c18
      refine lv_iload_n hx hb dX5_trend_21 rfl (lv_at hl 1 rfl) ?_
      refine lv_if_lt (tgt := 47) hx hb dX5_trend_22 (by decide) (fun c22 => ?_) (fun c22 => ?_)
      · have n22 := Int32.not_le.mpr c22
        refine lv_iconst (v := 1) hx hb dX5_trend_47 (by decide) ?_
        refine lv_goto (tgt := 52) hx hb dX5_trend_48 (by decide) ?_
        exact jn52 _ (by first | (simp [bI, c7, c18, c22, n22]; done) | (simp [rgT, bI, c7, c18, c22, n22]; done) | exact absurd (c7.symm.trans c18) (by decide) | exact absurd (c7.symm.trans c22) (by decide) | exact absurd (c18.symm.trans c22) (by decide))
      · have n22 := Int32.not_lt.mp c22
        refine lv_iload_n hx hb dX5_trend_25 rfl (lv_at hl 1 rfl) ?_
        refine lv_iconst (v := 0) hx hb dX5_trend_26 (by decide) ?_
        refine lv_sipush (v := 9999) hx hb dX5_trend_27 (by decide) ?_
        refine vp_callSi (W.runS (As := [.int fr, .int 0, .int 9999]) (rest := []) ⟨hx, hb, hml, hown, hts⟩ (m_in l dC dI cI cZ cJ a v g fr 0 9999) (cwS 3 hts (gd_S ml_X5_X5_in sm_X5_in in_X5 kX5_in) rfl rfl rfl (by decide +kernel) ⟨Nat.le_of_ble_eq_true rfl, Nat.le_of_ble_eq_true rfl⟩) ⟨fun _ U g mk q => by obtain ⟨q0, qP, qK⟩ := q; exact ⟨q0, qP, va_K.moved (u := U) (U := U.calling g mk _) (Vm.Alike.refl U.vm) qK⟩, fun U hU hW => ⟨rfl, by rw [hU]; exact hP, va_K.moved hW.alike hK⟩⟩ rfl rfl hl.1 rfl (lv_room (Nat.le_of_ble_eq_true rfl)) dX5_trend_30 ⟨Nat.le_of_ble_eq_true rfl, Nat.le_of_ble_eq_true rfl⟩) (fun r30 hr30 => ?_)
        subst hr30
        refine lv_if_eq (tgt := 47) hx hb dX5_trend_33 (by decide) (fun c33 => ?_) (fun c33 => ?_)
        · have c33 := bI_0.mp c33
          refine lv_iconst (v := 1) hx hb dX5_trend_47 (by decide) ?_
          refine lv_goto (tgt := 52) hx hb dX5_trend_48 (by decide) ?_
          exact jn52 _ (by first | (simp [bI, c7, c18, c22, n22, c33]; done) | (simp [rgT, bI, c7, c18, c22, n22, c33]; done) | exact absurd (c7.symm.trans c18) (by decide) | exact absurd (c7.symm.trans c22) (by decide) | exact absurd (c7.symm.trans c33) (by decide) | exact absurd (c18.symm.trans c22) (by decide) | exact absurd (c18.symm.trans c33) (by decide) | exact absurd (c22.symm.trans c33) (by decide))
        · have c33 := bI_n0.mp c33
          refine lv_iload_n hx hb dX5_trend_36 rfl (lv_at hl 1 rfl) ?_
          refine lv_iload_n hx hb dX5_trend_37 rfl (lv_at hl 2 rfl) ?_
          refine lv_iload_n hx hb dX5_trend_38 rfl (lv_at hl 3 rfl) ?_
          refine lv_imul hx hb dX5_trend_39 ?_
          refine lv_iadd hx hb dX5_trend_40 ?_
          refine lv_sipush (v := 10000) hx hb dX5_trend_41 (by decide) ?_
          refine lv_icmp_le (tgt := 51) hx hb dX5_trend_44 (by decide) (fun c44 => ?_) (fun c44 => ?_)
          · have n44 := Int32.not_lt.mpr c44
            refine lv_iconst (v := 0) hx hb dX5_trend_51 (by decide) ?_
            exact jn52 _ (by first | (simp [bI, c7, c18, c22, n22, c33, c44, n44]; done) | (simp [rgT, bI, c7, c18, c22, n22, c33, c44, n44]; done) | exact absurd (c7.symm.trans c18) (by decide) | exact absurd (c7.symm.trans c22) (by decide) | exact absurd (c7.symm.trans c33) (by decide) | exact absurd (c7.symm.trans c44) (by decide) | exact absurd (c18.symm.trans c22) (by decide) | exact absurd (c18.symm.trans c33) (by decide) | exact absurd (c18.symm.trans c44) (by decide) | exact absurd (c22.symm.trans c33) (by decide) | exact absurd (c22.symm.trans c44) (by decide) | exact absurd (c33.symm.trans c44) (by decide))
          · have n44 := Int32.not_le.mp c44
            refine lv_iconst (v := 1) hx hb dX5_trend_47 (by decide) ?_
            refine lv_goto (tgt := 52) hx hb dX5_trend_48 (by decide) ?_
            exact jn52 _ (by first | (simp [bI, c7, c18, c22, n22, c33, c44, n44]; done) | (simp [rgT, bI, c7, c18, c22, n22, c33, c44, n44]; done) | exact absurd (c7.symm.trans c18) (by decide) | exact absurd (c7.symm.trans c22) (by decide) | exact absurd (c7.symm.trans c33) (by decide) | exact absurd (c7.symm.trans c44) (by decide) | exact absurd (c18.symm.trans c22) (by decide) | exact absurd (c18.symm.trans c33) (by decide) | exact absurd (c18.symm.trans c44) (by decide) | exact absurd (c22.symm.trans c33) (by decide) | exact absurd (c22.symm.trans c44) (by decide) | exact absurd (c33.symm.trans c44) (by decide))
