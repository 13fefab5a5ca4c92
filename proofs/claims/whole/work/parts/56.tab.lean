
/-! the table of orders -/
def btN (st k : Nat) : Nat := st / 2 ^ k % 2
def pcN (st : Nat) : Nat := btN st 0 + btN st 1 + btN st 2 + btN st 3 + btN st 4 + btN st 5
def triN (c : Nat) : Nat := c * (c - 1) / 2
theorem o_shl : ∀ n, n < 7 → (1 : Int32) <<< (nI n &&& 31) = nI (2 ^ n) := by decide +kernel
theorem o_bit : ∀ st, st < 64 → ∀ k, k < 6 → (nI st >>> (nI k &&& 31)) &&& 1 = nI (btN st k) := by decide +kernel
theorem o_or : ∀ st, st < 64 → ∀ k, k < 6 → nI st ||| ((1 : Int32) <<< (nI k &&& 31)) = nI (st ||| 2 ^ k) := by decide +kernel
theorem o_pc : ∀ st, st < 64 → ∀ k, k < 6 → btN st k = 0 → pcN (st ||| 2 ^ k) = pcN st + 1 ∧ st ||| 2 ^ k < 64 ∧ pcN st ≤ 5 := by decide +kernel
theorem o_or_lt : ∀ np, np < 7 → ∀ st, st < 2 ^ np → st < 64 := by decide +kernel
theorem o_tri : ∀ c, c ≤ 5 → triN c + c = triN (c + 1) ∧ triN (c + 1) ≤ 15 := by decide +kernel
theorem i_add {x y : Int32} {a b : Nat} (hx1 : -(a : Int) ≤ x.toInt) (hx2 : x.toInt ≤ a) (hy1 : -(b : Int) ≤ y.toInt) (hy2 : y.toInt ≤ b) (h : a + b < 1000000) : (x + y).toInt = x.toInt + y.toInt := by
  rw [Int32.toInt_add]
  exact Int.bmod_eq_of_le (by omega) (by omega)
theorem gn_1 (g : Nat → Nat → Int32) {st : Nat} (hst : st < 64) (k : Nat) {j : Nat} (hj : j < 6) : -(btN st j : Int) ≤ (gnM g (nI st) k j).toInt ∧ (gnM g (nI st) k j).toInt ≤ btN st j := by
  rw [gnM, o_bit st hst j hj]
  have hb : btN st j = 0 ∨ btN st j = 1 := by have : btN st j < 2 := Nat.mod_lt _ (by decide); omega
  rcases hb with hb | hb
  · rw [hb, if_neg (by decide)]; decide
  · rw [hb, if_pos (show nI 1 = 1 from rfl)]
    split
    · decide
    · split <;> decide
theorem gn_m (g : Nat → Nat → Int32) {st : Nat} (hst : st < 64) (k : Nat) : -(pcN st : Int) ≤ (isum (gnM g (nI st) k) 6).toInt ∧ (isum (gnM g (nI st) k) 6).toInt ≤ pcN st := by
  have b0 := gn_1 g hst k (j := 0) (by decide)
  have b1 := gn_1 g hst k (j := 1) (by decide)
  have b2 := gn_1 g hst k (j := 2) (by decide)
  have b3 := gn_1 g hst k (j := 3) (by decide)
  have b4 := gn_1 g hst k (j := 4) (by decide)
  have b5 := gn_1 g hst k (j := 5) (by decide)
  have q : ∀ j, btN st j ≤ 1 := fun j => by have : btN st j < 2 := Nat.mod_lt _ (by decide); omega
  have q0 := q 0; have q1 := q 1; have q2 := q 2; have q3 := q 3; have q4 := q 4; have q5 := q 5
  have e1 := i_add (x := 0) (a := 0) (by decide) (by decide) b0.1 b0.2 (by omega)
  have z : (0 : Int32).toInt = 0 := by decide
  rw [z] at e1
  have e2 := i_add (a := btN st 0) (by rw [e1]; omega) (by rw [e1]; omega) b1.1 b1.2 (by omega)
  have e3 := i_add (a := btN st 0 + btN st 1) (by rw [e2, e1]; omega) (by rw [e2, e1]; omega) b2.1 b2.2 (by omega)
  have e4 := i_add (a := btN st 0 + btN st 1 + btN st 2) (by rw [e3, e2, e1]; omega) (by rw [e3, e2, e1]; omega) b3.1 b3.2 (by omega)
  have e5 := i_add (a := btN st 0 + btN st 1 + btN st 2 + btN st 3) (by rw [e4, e3, e2, e1]; omega) (by rw [e4, e3, e2, e1]; omega) b4.1 b4.2 (by omega)
  have e6 := i_add (a := btN st 0 + btN st 1 + btN st 2 + btN st 3 + btN st 4) (by rw [e5, e4, e3, e2, e1]; omega) (by rw [e5, e4, e3, e2, e1]; omega) b5.1 b5.2 (by omega)
  have e : isum (gnM g (nI st) k) 6 = 0 + gnM g (nI st) k 0 + gnM g (nI st) k 1 + gnM g (nI st) k 2 + gnM g (nI st) k 3 + gnM g (nI st) k 4 + gnM g (nI st) k 5 := rfl
  rw [e, e6, e5, e4, e3, e2, e1, pcN]
  omega
/-- an entry is there only where its sum can be -/
def tbV (g : Nat → Nat → Int32) : Prop := ∀ st, st < 64 → ∀ s, s < 31 → 0 < g 13 (31 * st + s) → 15 ≤ s + triN (pcN st) ∧ s ≤ 15 + triN (pcN st)
/-- where an entry goes -/
def tix (st k s : Nat) (mo : Int32) : Nat := (31 * nI (st ||| 2 ^ k) + nI s + mo).toNatClampNeg
theorem tix_ok {st k s : Nat} {mo : Int32} (hst : st < 64) (hk : k < 6) (hs : s < 31) (hb : btN st k = 0) (h1 : -(pcN st : Int) ≤ mo.toInt) (h2 : mo.toInt ≤ pcN st) (hv : 15 ≤ s + triN (pcN st) ∧ s ≤ 15 + triN (pcN st)) :
    ∃ s', s' < 31 ∧ 31 * nI (st ||| 2 ^ k) + nI s + mo = nI (31 * (st ||| 2 ^ k) + s') ∧ tix st k s mo = 31 * (st ||| 2 ^ k) + s' ∧ 15 ≤ s' + triN (pcN (st ||| 2 ^ k)) ∧ s' ≤ 15 + triN (pcN (st ||| 2 ^ k)) := by
  obtain ⟨p1, p2, p3⟩ := o_pc st hst k hk hb
  obtain ⟨t1, t2⟩ := o_tri (pcN st) p3
  have hs' : 0 ≤ (s : Int) + mo.toInt ∧ (s : Int) + mo.toInt < 31 := by omega
  have e : 31 * nI (st ||| 2 ^ k) + nI s + mo = nI (31 * (st ||| 2 ^ k) + ((s : Int) + mo.toInt).toNat) := by
    rw [show (31 : Int32) = nI 31 from rfl, pk_mul, nI_add]
    refine Int32.toInt_inj.mp ?_
    rw [i_add (a := 5000) (b := 5000) (by rw [nI_toInt (by omega)]; omega) (by rw [nI_toInt (by omega)]; omega) (by omega) (by omega) (by decide), nI_toInt (by omega), nI_toInt (by omega)]
    omega
  refine ⟨((s : Int) + mo.toInt).toNat, by omega, e, ?_, ?_, ?_⟩
  · rw [tix, e, nI_clamp (by omega)]
  · rw [p1, ← t1]; omega
  · rw [p1, ← t1]; omega
def stS (g : Nat → Nat → Int32) (st k : Nat) (mo : Int32) : Nat → (Nat → Nat → Int32)
  | 0 => g
  | s + 1 => if btN st k = 0 ∧ 0 < (stS g st k mo s) 13 (31 * st + s) then upg (stS g st k mo s) 13 (tix st k s mo) ((stS g st k mo s) 13 (tix st k s mo) + (stS g st k mo s) 13 (31 * st + s)) else stS g st k mo s
theorem stS_bit {g : Nat → Nat → Int32} {st k : Nat} {mo : Int32} (h : ¬ btN st k = 0) : ∀ s, stS g st k mo s = g := by
  intro s
  induction s with
  | zero => rfl
  | succ s ih => rw [stS, if_neg (fun q => h q.1), ih]
theorem stS_v {g : Nat → Nat → Int32} {st k : Nat} {mo : Int32} (hst : st < 64) (hk : k < 6) (h1 : -(pcN st : Int) ≤ mo.toInt) (h2 : mo.toInt ≤ pcN st) (hg : tbV g) : ∀ s, s ≤ 31 → tbV (stS g st k mo s) := by
  intro s
  induction s with
  | zero => intro _; exact hg
  | succ s ih =>
    intro hs
    have ihv := ih (by omega)
    rw [stS]
    split
    · rename_i hc
      obtain ⟨s', q1, q2, q3, q4, q5⟩ := tix_ok hst hk (by omega) hc.1 h1 h2 (ihv st hst s (by omega) hc.2)
      obtain ⟨p1, p2, p3⟩ := o_pc st hst k hk hc.1
      intro st2 h3 s2 h4 h5
      by_cases hq : 31 * st2 + s2 = tix st k s mo
      · rw [q3] at hq
        have e1 : st2 = st ||| 2 ^ k := by omega
        have e2 : s2 = s' := by omega
        rw [e1, e2]; exact ⟨q4, q5⟩
      · refine ihv st2 h3 s2 h4 ?_
        have e : upg (stS g st k mo s) 13 (tix st k s mo) ((stS g st k mo s) 13 (tix st k s mo) + (stS g st k mo s) 13 (31 * st + s)) 13 (31 * st2 + s2) = (stS g st k mo s) 13 (31 * st2 + s2) := by
          simp [upg, upd, hq]
        rw [e] at h5; exact h5
    · exact ihv
def stK (g : Nat → Nat → Int32) (st : Nat) : Nat → (Nat → Nat → Int32)
  | 0 => g
  | k + 1 => stS (stK g st k) st k (isum (gnM (stK g st k) (nI st) k) 6) 31
theorem stK_v {g : Nat → Nat → Int32} {st : Nat} (hst : st < 64) (hg : tbV g) : ∀ k, k ≤ 6 → tbV (stK g st k) := by
  intro k
  induction k with
  | zero => intro _; exact hg
  | succ k ih => intro hk; exact stS_v hst (by omega) (gn_m _ hst k).1 (gn_m _ hst k).2 (ih (by omega)) 31 (Nat.le_refl _)
def stT (g : Nat → Nat → Int32) (np : Nat) : Nat → (Nat → Nat → Int32)
  | 0 => g
  | st + 1 => stK (stT g np st) st np
theorem stT_v {g : Nat → Nat → Int32} {np : Nat} (hnp : np ≤ 6) (hg : tbV g) : ∀ st, st ≤ 64 → tbV (stT g np st) := by
  intro st
  induction st with
  | zero => intro _; exact hg
  | succ st ih => intro h; exact stK_v (by omega) (ih (by omega)) np hnp
def clG (g : Nat → Nat → Int32) : Nat → (Nat → Nat → Int32)
  | 0 => g
  | k + 1 => upg (clG g k) 13 k 0
theorem clG_at (g : Nat → Nat → Int32) : ∀ k j, j < k → clG g k 13 j = 0 := by
  intro k
  induction k with
  | zero => intro j h; exact absurd h (by omega)
  | succ k ih =>
    intro j h
    rw [clG]
    by_cases e : j = k
    · subst e; exact upg_at _ _ _ _
    · have : upg (clG g k) 13 k 0 13 j = clG g k 13 j := by simp [upg, upd, e]
      rw [this]; exact ih j (by omega)
theorem n1984_ex : ∃ n : Nat, n = 1984 := ⟨1984, rfl⟩
noncomputable def n1984 : Nat := Classical.choose n1984_ex
theorem n1984_eq : n1984 = 1984 := Classical.choose_spec n1984_ex
noncomputable def tb0 (g : Nat → Nat → Int32) : Nat → Nat → Int32 := upg (clG g n1984) 13 15 1
theorem tb0_v (g : Nat → Nat → Int32) : tbV (tb0 g) := by
  intro st hst s hs h
  by_cases e : 31 * st + s = 15
  · have e1 : st = 0 := by omega
    have e2 : s = 15 := by omega
    subst e1; subst e2
    decide
  · have : tb0 g 13 (31 * st + s) = 0 := by
      have h1 : tb0 g 13 (31 * st + s) = clG g n1984 13 (31 * st + s) := by simp [tb0, upg, upd, e]
      rw [h1]; exact clG_at g _ _ (by rw [n1984_eq]; omega)
    rw [this] at h
    exact absurd h (by decide)

set_option maxHeartbeats 4000000 in
set_option maxRecDepth 100000 in
theorem m_ordersFrom (l : Launch) (dC : Nat → ClassId) (dI : Nat → Nat → Nat) (cI cZ cJ : ClassId) (a : Nat → Nat) (v : Nat → Int32) (g : Nat → Nat → Int32) (sz : Nat) (sm : Int32) (np s0 : Nat) (hsm : sm + 15 = nI s0) (hs0 : s0 ≤ 30) (hnp2 : np ≤ 6) : Met l yX5_ordersFrom wsX5_ordersFrom ({ frames := 1, cells := 0, slots := 0, locals := 24 }) (va_Pc [.ref (a 0), .int sm, .int (nI np)] (fun U => U.heap.size = sz ∧ va_P (dC, dI) clA (wM cI cZ a v g) U.heap ∧ va_K (dC, dI) clA (tyA cI cZ cJ) U ∧ va_D (fun _ => True) (wM cI cZ a v g))) (va_Qi (fun (r : Int32) (u : StA) => r = isum (fun i => (stT (tb0 g) np (2 ^ np)) 13 (31 * (2 ^ np - 1) + s0 + i)) (31 - s0) ∧ u = (v, stT (tb0 g) np (2 ^ np))) (atM dC dI cI cZ cJ a (va_A (wM cI cZ a v g) sz)) (va_A (wM cI cZ a v g) sz))  0 0 (va_A (wM cI cZ a v g) sz) := by
  refine Met.ofW (cc := cX5_ordersFrom) (maxL := 8) (ret := (some .int)) (by decide) rfl ?_
  intro p e s m args below meth c s₁ B hml hv
  obtain ⟨rfl, hsz, hP, hK, hD0⟩ := hv
  have hx := B.exec
  have hb := B.bytes
  have hr := B.returns
  have hts := atoms_spec (ws := wsX5_ordersFrom) B.pre
  have hown : s.vm.findClass RX5 = some m.cls := findClass_of_methodNamed B.named
  have hlocks := B.notSynchronized
  subst hsz
  have hD := hD0.self (sz := s.heap.size)
  generalize hAe : va_A (wM cI cZ a v g) s.heap.size = A at hD ⊢
  have hA : ∀ q : Nat, s.heap.size ≤ q → A q := fun q h => by rw [← hAe]; exact Or.inr h
  have hS : va_S A s.heap s.heap [] := va_S.rf
  have hP : va_P (dC, dI) clA (wM cI cZ a v g) s.heap := hP
  have hl := lv_entry ([.ref (a 0), .int sm, .int (nI np)]) (n := 8) (Nat.le_of_ble_eq_true rfl)
  rw [lg_entry_eq]
  generalize (lg_sl ([.ref (a 0), .int sm, .int (nI np)]) ++ List.replicate (8 - (lg_sl ([.ref (a 0), .int sm, .int (nI np)])).length) Slot.unset).toArray = ls at hl ⊢
  have hl : lv_has ls 8 [(0, .ref (a 0)), (1, .int sm), (2, .int (nI np))] := hl
  have h2p : 2 ^ np ≤ 64 := Nat.le_trans (Nat.pow_le_pow_right (by decide) hnp2) (by decide)
  have h2q : 1 ≤ 2 ^ np := Nat.one_le_two_pow
  refine lv_iconst (v := 0) hx hb dX5_ordersFrom_0 (by decide) ?_
  refine lv_istore_n (lv' := [(3, .int 0), (0, .ref (a 0)), (1, .int sm), (2, .int (nI np))]) hx hb dX5_ordersFrom_1 rfl hl (by decide) rfl (fun ls hl => ?_)
  have lp1 : ∀ (d1 k1 : Nat), k1 ≤ 1984 → 1984 + 1 ≤ k1 + d1 → ∀ (H : Heap) (locs : List Loc), va_P (dC, dI) clA (wM cI cZ a v (clG g k1)) H → va_D A (wM cI cZ a v (clG g k1)) → va_S A s.heap H locs → ∀ (ls : Array Slot), lv_has ls 8 [(3, .int (nI k1)), (0, .ref (a 0)), (1, .int sm), (2, .int (nI np))] → W p l e (headSpec wsX5_ordersFrom ({ frames := 1, cells := 0, slots := 0, locals := 24 })).room s m ([.ref (a 0), .int sm, .int (nI np)] : List Value).toArray below meth c H locs 0 0 (MQ below (va_Qi (fun (r : Int32) (u : StA) => r = isum (fun i => (stT (tb0 g) np (2 ^ np)) 13 (31 * (2 ^ np - 1) + s0 + i)) (31 - s0) ∧ u = (v, stT (tb0 g) np (2 ^ np))) (atM dC dI cI cZ cJ a A) A) ([.ref (a 0), .int sm, .int (nI np)] : List Value).toArray s 0 0 A) (F0 m 2 ls []) := by
    intro d1
    induction d1 with
    | zero => intro k1 h1 h2; exact absurd h2 (by omega)
    | succ d1 ih1 =>
      intro k1 hkn1 hkd1 H locs hP hD hS ls hl
      refine lv_iload_n hx hb dX5_ordersFrom_2 rfl (lv_at hl 0 rfl) ?_
      refine lv_sipush (v := 1984) hx hb dX5_ordersFrom_3 (by decide) ?_
      refine lv_icmp_ge (tgt := 22) hx hb dX5_ordersFrom_6 (by decide) (fun c6 => ?_) (fun c6 => ?_)
      · have n6 := Int32.not_lt.mpr c6
        have he1 : k1 = 1984 := Nat.le_antisymm hkn1 ((nI_leI (a := 1984) (b := k1) (by decide) (by omega)).mp c6)
        have e84 : k1 = n1984 := by rw [n1984_eq]; exact he1
        rw [e84] at hP hD
        refine lv_aload_n hx hb dX5_ordersFrom_22 rfl (lv_at hl 1 rfl) ?_
        refine va_get (D := (dC, dI)) (ci := 5) (v := .ref (a 14)) (C := RX5) (T := TX5) (N := 24) hx hb hts (fun w h => List.mem_cons_of_mem _ (iw_X5 w h)) hown hK hP 0 rfl rfl 21 (by decide) (hts _ (List.mem_cons_of_mem _ fl_X5_table)) (fun _ h9 => h9) rfl dX5_ordersFrom_23 ?_
        refine lv_bipush (v := 15) hx hb dX5_ordersFrom_26 (by decide) ?_
        refine lv_iconst (v := 1) hx hb dX5_ordersFrom_28 (by decide) ?_
        refine wi_astE hx hb hK hP hD hS 14 0 rfl rfl (k := 15) rfl (by decide) (by decide) dX5_ordersFrom_29 (fun H locs hP hD hS => ?_)
        have hP : va_P (dC, dI) clA (wM cI cZ a v (upg (clG g n1984) 13 15 1)) H := hP
        have hD : va_D A (wM cI cZ a v (upg (clG g n1984) 13 15 1)) := hD
        have hP : va_P (dC, dI) clA (wM cI cZ a v (tb0 g)) H := hP
        have hD : va_D A (wM cI cZ a v (tb0 g)) := hD
        refine lv_iconst (v := 0) hx hb dX5_ordersFrom_30 (by decide) ?_
        refine lv_istore_n (lv' := [(3, .int 0), (0, .ref (a 0)), (1, .int sm), (2, .int (nI np))]) hx hb dX5_ordersFrom_31 rfl hl (by decide) rfl (fun ls hl => ?_)
        have lp3 : ∀ (d3 st : Nat), st ≤ (2 ^ np) → (2 ^ np) + 1 ≤ st + d3 → ∀ (H : Heap) (locs : List Loc), va_P (dC, dI) clA (wM cI cZ a v (stT (tb0 g) np st)) H → va_D A (wM cI cZ a v (stT (tb0 g) np st)) → va_S A s.heap H locs → ∀ (ls : Array Slot), lv_has ls 8 [(3, .int (nI st)), (0, .ref (a 0)), (1, .int sm), (2, .int (nI np))] → W p l e (headSpec wsX5_ordersFrom ({ frames := 1, cells := 0, slots := 0, locals := 24 })).room s m ([.ref (a 0), .int sm, .int (nI np)] : List Value).toArray below meth c H locs 0 0 (MQ below (va_Qi (fun (r : Int32) (u : StA) => r = isum (fun i => (stT (tb0 g) np (2 ^ np)) 13 (31 * (2 ^ np - 1) + s0 + i)) (31 - s0) ∧ u = (v, stT (tb0 g) np (2 ^ np))) (atM dC dI cI cZ cJ a A) A) ([.ref (a 0), .int sm, .int (nI np)] : List Value).toArray s 0 0 A) (F0 m 32 ls []) := by
          intro d3
          induction d3 with
          | zero => intro st h1 h2; exact absurd h2 (by omega)
          | succ d3 ih3 =>
            intro st hkn3 hkd3 H locs hP hD hS ls hl
            refine lv_iload_n hx hb dX5_ordersFrom_32 rfl (lv_at hl 0 rfl) ?_
            refine lv_iconst (v := 1) hx hb dX5_ordersFrom_33 (by decide) ?_
            refine lv_iload_n hx hb dX5_ordersFrom_34 rfl (lv_at hl 3 rfl) ?_
            refine lv_ishl hx hb dX5_ordersFrom_35 ?_
            refine lv_icmp_ge (tgt := 138) hx hb dX5_ordersFrom_36 (by decide) (fun c36 => ?_) (fun c36 => ?_)
            · have n36 := Int32.not_lt.mpr c36
              rw [o_shl np (by omega)] at c36
              have he3 : st = 2 ^ np := Nat.le_antisymm hkn3 ((nI_leI (by omega) (by omega)).mp c36)
              rw [he3] at hP hD
              refine lv_iconst (v := 0) hx hb dX5_ordersFrom_138 (by decide) ?_
              refine lv_istore_n (lv' := [(3, .int 0), (0, .ref (a 0)), (1, .int sm), (2, .int (nI np))]) hx hb dX5_ordersFrom_139 rfl hl (by decide) rfl (fun ls hl => ?_)
              refine lv_iload_n hx hb dX5_ordersFrom_140 rfl (lv_at hl 2 rfl) ?_
              refine lv_bipush (v := 15) hx hb dX5_ordersFrom_141 (by decide) ?_
              refine lv_iadd hx hb dX5_ordersFrom_143 ?_
              rw [hsm]
              refine lv_istore (lv' := [(4, .int (nI s0)), (3, .int 0), (0, .ref (a 0)), (1, .int sm), (2, .int (nI np))]) hx hb dX5_ordersFrom_144 hl (by decide) rfl (fun ls hl => ?_)
              have lp6 : ∀ (d6 k6 : Nat), s0 ≤ k6 → k6 ≤ 31 → 31 + 1 ≤ k6 + d6 → ∀ (H : Heap) (locs : List Loc), va_P (dC, dI) clA (wM cI cZ a v (stT (tb0 g) np (2 ^ np))) H → va_D A (wM cI cZ a v (stT (tb0 g) np (2 ^ np))) → va_S A s.heap H locs → ∀ (ls : Array Slot), lv_has ls 8 [(4, .int (nI k6)), (3, .int (isum (fun i => (stT (tb0 g) np (2 ^ np)) 13 (31 * (2 ^ np - 1) + s0 + i)) (k6 - s0))), (0, .ref (a 0)), (1, .int sm), (2, .int (nI np))] → W p l e (headSpec wsX5_ordersFrom ({ frames := 1, cells := 0, slots := 0, locals := 24 })).room s m ([.ref (a 0), .int sm, .int (nI np)] : List Value).toArray below meth c H locs 0 0 (MQ below (va_Qi (fun (r : Int32) (u : StA) => r = isum (fun i => (stT (tb0 g) np (2 ^ np)) 13 (31 * (2 ^ np - 1) + s0 + i)) (31 - s0) ∧ u = (v, stT (tb0 g) np (2 ^ np))) (atM dC dI cI cZ cJ a A) A) ([.ref (a 0), .int sm, .int (nI np)] : List Value).toArray s 0 0 A) (F0 m 146 ls []) := by
                intro d6
                induction d6 with
                | zero => intro k6 h0 h1 h2; exact absurd h2 (by omega)
                | succ d6 ih6 =>
                  intro k6 hk06 hkn6 hkd6 H locs hP hD hS ls hl
                  refine lv_iload hx hb dX5_ordersFrom_146 (lv_at hl 0 rfl) ?_
                  refine lv_bipush (v := 31) hx hb dX5_ordersFrom_148 (by decide) ?_
                  refine lv_icmp_ge (tgt := 178) hx hb dX5_ordersFrom_150 (by decide) (fun c150 => ?_) (fun c150 => ?_)
                  · have n150 := Int32.not_lt.mpr c150
                    have he6 : k6 = 31 := Nat.le_antisymm hkn6 ((nI_leI (a := 31) (b := k6) (by decide) (by omega)).mp c150)
                    refine lv_iload_n hx hb dX5_ordersFrom_178 rfl (lv_at hl 1 rfl) ?_
                    exact (W.iret (v := isum (fun i => (stT (tb0 g) np (2 ^ np)) 13 (31 * (2 ^ np - 1) + s0 + i)) (k6 - s0)) hx hb hr (fun t9 ht hW => ⟨⟨_, (v, (stT (tb0 g) np (2 ^ np))), rfl, ⟨by rw [he6], rfl⟩, ⟨by rw [ht]; exact hP, va_K.moved hW.alike hK, hD⟩⟩, hS.F ht⟩) hS.2.2 dX5_ordersFrom_179)
                  · have n150 := Int32.not_le.mp c150
                    have hk6 : k6 < 31 := Nat.lt_of_not_le (fun h => c150 (nI_le (a := 31) h (by omega)))
                    refine lv_iload_n hx hb dX5_ordersFrom_153 rfl (lv_at hl 1 rfl) ?_
                    refine lv_aload_n hx hb dX5_ordersFrom_154 rfl (lv_at hl 2 rfl) ?_
                    refine va_get (D := (dC, dI)) (ci := 5) (v := .ref (a 14)) (C := RX5) (T := TX5) (N := 24) hx hb hts (fun w h => List.mem_cons_of_mem _ (iw_X5 w h)) hown hK hP 0 rfl rfl 21 (by decide) (hts _ (List.mem_cons_of_mem _ fl_X5_table)) (fun _ h9 => h9) rfl dX5_ordersFrom_155 ?_
                    refine lv_bipush (v := 31) hx hb dX5_ordersFrom_158 (by decide) ?_
                    refine lv_iconst (v := 1) hx hb dX5_ordersFrom_160 (by decide) ?_
                    refine lv_iload_n hx hb dX5_ordersFrom_161 rfl (lv_at hl 4 rfl) ?_
                    refine lv_ishl hx hb dX5_ordersFrom_162 ?_
                    refine lv_iconst (v := 1) hx hb dX5_ordersFrom_163 (by decide) ?_
                    refine lv_isub hx hb dX5_ordersFrom_164 ?_
                    refine lv_imul hx hb dX5_ordersFrom_165 ?_
                    refine lv_iload hx hb dX5_ordersFrom_166 (lv_at hl 0 rfl) ?_
                    refine lv_iadd hx hb dX5_ordersFrom_168 ?_
                    rw [o_shl np (by omega), show (1 : Int32) = nI 1 from rfl, pk_sub h2q, show (31 : Int32) = nI 31 from rfl, pk_mul, nI_add]
                    refine wi_ald hx hb hK hP 14 0 rfl rfl (k := ((31 * (2 ^ np - 1) + k6))) (by omega) (by decide) dX5_ordersFrom_169 ?_
                    refine lv_iadd hx hb dX5_ordersFrom_170 ?_
                    refine lv_istore_n (lv' := [(3, .int ((isum (fun i => (stT (tb0 g) np (2 ^ np)) 13 (31 * (2 ^ np - 1) + s0 + i)) (k6 - s0)) + ((stT (tb0 g) np (2 ^ np)) 13 ((31 * (2 ^ np - 1) + k6))))), (4, .int (nI k6)), (0, .ref (a 0)), (1, .int sm), (2, .int (nI np))]) hx hb dX5_ordersFrom_171 rfl hl (by decide) rfl (fun ls hl => ?_)
                    refine lv_iinc (v := nI (k6 + 1)) (lv' := [(4, .int (nI (k6 + 1))), (3, .int ((isum (fun i => (stT (tb0 g) np (2 ^ np)) 13 (31 * (2 ^ np - 1) + s0 + i)) (k6 - s0)) + ((stT (tb0 g) np (2 ^ np)) 13 ((31 * (2 ^ np - 1) + k6))))), (0, .ref (a 0)), (1, .int sm), (2, .int (nI np))]) hx hb dX5_ordersFrom_172 hl (k := 1) rfl (nI_1 k6) (by decide) rfl (fun ls hl => ?_)
                    refine lv_goto (tgt := 146) hx hb dX5_ordersFrom_175 (by decide) ?_
                    have eL0 : (.int (isum (fun i => (stT (tb0 g) np (2 ^ np)) 13 (31 * (2 ^ np - 1) + s0 + i)) ((k6 + 1) - s0)) : Value) = .int ((isum (fun i => (stT (tb0 g) np (2 ^ np)) 13 (31 * (2 ^ np - 1) + s0 + i)) (k6 - s0)) + ((stT (tb0 g) np (2 ^ np)) 13 ((31 * (2 ^ np - 1) + k6)))) := (by rw [show k6 + 1 - s0 = (k6 - s0) + 1 by omega, isum_s, show 31 * (2 ^ np - 1) + s0 + (k6 - s0) = 31 * (2 ^ np - 1) + k6 by omega])
                    exact ih6 (k6 + 1) (by omega) (by omega) (by omega) _ _ hP hD hS ls (by rw [eL0]; exact lv_sub hl [0, 1, 2, 3, 4] rfl)
              exact lp6 (31 + 1) s0 (by omega) (by omega) (by omega) _ _ hP hD hS ls (by rw [Nat.sub_self]; exact lv_sub hl [0, 1, 2, 3, 4] rfl)
            · have n36 := Int32.not_le.mp c36
              rw [o_shl np (by omega)] at c36
              have hk3 : st < 2 ^ np := Nat.lt_of_not_le (fun h => c36 (nI_le h (by omega)))
              have hst : st < 64 := o_or_lt np (by omega) st hk3
              refine lv_iconst (v := 0) hx hb dX5_ordersFrom_39 (by decide) ?_
              refine lv_istore (lv' := [(4, .int 0), (3, .int (nI st)), (0, .ref (a 0)), (1, .int sm), (2, .int (nI np))]) hx hb dX5_ordersFrom_40 hl (by decide) rfl (fun ls hl => ?_)
              have lp4 : ∀ (d4 k : Nat), k ≤ np → np + 1 ≤ k + d4 → ∀ (H : Heap) (locs : List Loc), va_P (dC, dI) clA (wM cI cZ a v (stK (stT (tb0 g) np st) st k)) H → va_D A (wM cI cZ a v (stK (stT (tb0 g) np st) st k)) → va_S A s.heap H locs → ∀ (ls : Array Slot), lv_has ls 8 [(4, .int (nI k)), (3, .int (nI st)), (0, .ref (a 0)), (1, .int sm), (2, .int (nI np))] → W p l e (headSpec wsX5_ordersFrom ({ frames := 1, cells := 0, slots := 0, locals := 24 })).room s m ([.ref (a 0), .int sm, .int (nI np)] : List Value).toArray below meth c H locs 0 0 (MQ below (va_Qi (fun (r : Int32) (u : StA) => r = isum (fun i => (stT (tb0 g) np (2 ^ np)) 13 (31 * (2 ^ np - 1) + s0 + i)) (31 - s0) ∧ u = (v, stT (tb0 g) np (2 ^ np))) (atM dC dI cI cZ cJ a A) A) ([.ref (a 0), .int sm, .int (nI np)] : List Value).toArray s 0 0 A) (F0 m 42 ls []) := by
                intro d4
                induction d4 with
                | zero => intro k h1 h2; exact absurd h2 (by omega)
                | succ d4 ih4 =>
                  intro k hkn4 hkd4 H locs hP hD hS ls hl
                  refine lv_iload hx hb dX5_ordersFrom_42 (lv_at hl 0 rfl) ?_
                  refine lv_iload_n hx hb dX5_ordersFrom_44 rfl (lv_at hl 4 rfl) ?_
                  refine lv_icmp_ge (tgt := 132) hx hb dX5_ordersFrom_45 (by decide) (fun c45 => ?_) (fun c45 => ?_)
                  · have n45 := Int32.not_lt.mpr c45
                    have he4 : k = np := Nat.le_antisymm hkn4 ((nI_leI (by omega) (by omega)).mp c45)
                    refine lv_iinc (v := nI (st + 1)) (lv' := [(3, .int (nI (st + 1))), (4, .int (nI k)), (0, .ref (a 0)), (1, .int sm), (2, .int (nI np))]) hx hb dX5_ordersFrom_132 hl (k := 1) rfl (nI_1 st) (by decide) rfl (fun ls hl => ?_)
                    refine lv_goto (tgt := 32) hx hb dX5_ordersFrom_135 (by decide) ?_
                    have eG : (stT (tb0 g) np (st + 1)) = (stK (stT (tb0 g) np st) st k) := (by rw [stT, ← he4])
                    exact ih3 (st + 1) (by omega) (by omega) _ _ (by rw [eG]; exact hP) (by rw [eG]; exact hD) hS ls (lv_sub hl [0, 2, 3, 4] rfl)
                  · have n45 := Int32.not_le.mp c45
                    have hk4 : k < np := Nat.lt_of_not_le (fun h => c45 (nI_le h (by omega)))
                    refine lv_aload_n hx hb dX5_ordersFrom_48 rfl (lv_at hl 2 rfl) ?_
                    refine lv_iload_n hx hb dX5_ordersFrom_49 rfl (lv_at hl 1 rfl) ?_
                    refine lv_iload hx hb dX5_ordersFrom_50 (lv_at hl 0 rfl) ?_
                    refine vp_callSi (W.runV (As := [.int (nI st), .int (nI k)]) (rest := []) ⟨hx, hb, hml, hown, hts⟩ (m_gain l dC dI cI cZ cJ a v (stK (stT (tb0 g) np st) st k) (nI st) k (by omega)) (cwV 2 hts (gd_V ml_X5_X5_gain im_X5_gain se_X5_gain in_X5 kX5_gain) rfl rfl rfl (by decide +kernel) ⟨Nat.le_of_ble_eq_true rfl, Nat.le_of_ble_eq_true rfl⟩) ⟨fun _ U g mk q => by obtain ⟨q0, qP, qK⟩ := q; exact ⟨q0, qP, va_K.moved (u := U) (U := U.calling g mk _) (Vm.Alike.refl U.vm) qK⟩, va_recv hK hP (ci := 5) (q0 := 0) rfl rfl, fun U hU hW => ⟨rfl, by rw [hU]; exact hP, va_K.moved hW.alike hK⟩⟩ rfl rfl hl.1 rfl (lv_room (Nat.le_of_ble_eq_true rfl)) dX5_ordersFrom_52 ⟨Nat.le_of_ble_eq_true rfl, Nat.le_of_ble_eq_true rfl⟩) (fun r52 hr52 => ?_)
                    subst hr52
                    refine lv_istore (lv' := [(5, .int (isum (gnM (stK (stT (tb0 g) np st) st k) (nI st) k) 6)), (4, .int (nI k)), (3, .int (nI st)), (0, .ref (a 0)), (1, .int sm), (2, .int (nI np))]) hx hb dX5_ordersFrom_55 hl (by decide) rfl (fun ls hl => ?_)
                    refine lv_iconst (v := 0) hx hb dX5_ordersFrom_57 (by decide) ?_
                    refine lv_istore (lv' := [(6, .int 0), (5, .int (isum (gnM (stK (stT (tb0 g) np st) st k) (nI st) k) 6)), (4, .int (nI k)), (3, .int (nI st)), (0, .ref (a 0)), (1, .int sm), (2, .int (nI np))]) hx hb dX5_ordersFrom_58 hl (by decide) rfl (fun ls hl => ?_)
                    have lp5 : ∀ (d5 u : Nat), u ≤ 31 → 31 + 1 ≤ u + d5 → ∀ (H : Heap) (locs : List Loc), va_P (dC, dI) clA (wM cI cZ a v (stS (stK (stT (tb0 g) np st) st k) st k (isum (gnM (stK (stT (tb0 g) np st) st k) (nI st) k) 6) u)) H → va_D A (wM cI cZ a v (stS (stK (stT (tb0 g) np st) st k) st k (isum (gnM (stK (stT (tb0 g) np st) st k) (nI st) k) 6) u)) → va_S A s.heap H locs → ∀ (ls : Array Slot), lv_has ls 8 [(6, .int (nI u)), (5, .int (isum (gnM (stK (stT (tb0 g) np st) st k) (nI st) k) 6)), (4, .int (nI k)), (3, .int (nI st)), (0, .ref (a 0)), (1, .int sm), (2, .int (nI np))] → W p l e (headSpec wsX5_ordersFrom ({ frames := 1, cells := 0, slots := 0, locals := 24 })).room s m ([.ref (a 0), .int sm, .int (nI np)] : List Value).toArray below meth c H locs 0 0 (MQ below (va_Qi (fun (r : Int32) (u : StA) => r = isum (fun i => (stT (tb0 g) np (2 ^ np)) 13 (31 * (2 ^ np - 1) + s0 + i)) (31 - s0) ∧ u = (v, stT (tb0 g) np (2 ^ np))) (atM dC dI cI cZ cJ a A) A) ([.ref (a 0), .int sm, .int (nI np)] : List Value).toArray s 0 0 A) (F0 m 60 ls []) := by
                      intro d5
                      induction d5 with
                      | zero => intro u h1 h2; exact absurd h2 (by omega)
                      | succ d5 ih5 =>
                        intro u hkn5 hkd5 H locs hP hD hS ls hl
                        refine lv_iload hx hb dX5_ordersFrom_60 (lv_at hl 0 rfl) ?_
                        refine lv_bipush (v := 31) hx hb dX5_ordersFrom_62 (by decide) ?_
                        refine lv_icmp_ge (tgt := 126) hx hb dX5_ordersFrom_64 (by decide) (fun c64 => ?_) (fun c64 => ?_)
                        · have n64 := Int32.not_lt.mpr c64
                          have he5 : u = 31 := Nat.le_antisymm hkn5 ((nI_leI (a := 31) (b := u) (by decide) (by omega)).mp c64)
                          refine lv_iinc (v := nI (k + 1)) (lv' := [(4, .int (nI (k + 1))), (6, .int (nI u)), (5, .int (isum (gnM (stK (stT (tb0 g) np st) st k) (nI st) k) 6)), (3, .int (nI st)), (0, .ref (a 0)), (1, .int sm), (2, .int (nI np))]) hx hb dX5_ordersFrom_126 hl (k := 2) rfl (nI_1 k) (by decide) rfl (fun ls hl => ?_)
                          refine lv_goto (tgt := 42) hx hb dX5_ordersFrom_129 (by decide) ?_
                          have eG : (stK (stT (tb0 g) np st) st (k + 1)) = (stS (stK (stT (tb0 g) np st) st k) st k (isum (gnM (stK (stT (tb0 g) np st) st k) (nI st) k) 6) u) := (by rw [stK, ← he5])
                          exact ih4 (k + 1) (by omega) (by omega) _ _ (by rw [eG]; exact hP) (by rw [eG]; exact hD) hS ls (lv_sub hl [0, 3, 4, 5, 6] rfl)
                        · have n64 := Int32.not_le.mp c64
                          have hk5 : u < 31 := Nat.lt_of_not_le (fun h => c64 (nI_le (a := 31) h (by omega)))
                          refine lv_iload_n hx hb dX5_ordersFrom_67 rfl (lv_at hl 3 rfl) ?_
                          refine lv_iload hx hb dX5_ordersFrom_68 (lv_at hl 2 rfl) ?_
                          refine lv_ishr hx hb dX5_ordersFrom_70 ?_
                          refine lv_iconst (v := 1) hx hb dX5_ordersFrom_71 (by decide) ?_
                          refine lv_iand hx hb dX5_ordersFrom_72 ?_
                          refine lv_if_ne (tgt := 126) hx hb dX5_ordersFrom_73 (by decide) (fun c73 => ?_) (fun c73 => ?_)
                          · rw [o_bit st hst k (by omega)] at c73
                            have hbt : ¬ btN st k = 0 := fun h => c73 (by rw [h]; rfl)
                            refine lv_iinc (v := nI (k + 1)) (lv' := [(4, .int (nI (k + 1))), (6, .int (nI u)), (5, .int (isum (gnM (stK (stT (tb0 g) np st) st k) (nI st) k) 6)), (3, .int (nI st)), (0, .ref (a 0)), (1, .int sm), (2, .int (nI np))]) hx hb dX5_ordersFrom_126 hl (k := 2) rfl (nI_1 k) (by decide) rfl (fun ls hl => ?_)
                            refine lv_goto (tgt := 42) hx hb dX5_ordersFrom_129 (by decide) ?_
                            have eG : (stK (stT (tb0 g) np st) st (k + 1)) = (stS (stK (stT (tb0 g) np st) st k) st k (isum (gnM (stK (stT (tb0 g) np st) st k) (nI st) k) 6) u) := (by rw [stK, stS_bit hbt, stS_bit hbt])
                            exact ih4 (k + 1) (by omega) (by omega) _ _ (by rw [eG]; exact hP) (by rw [eG]; exact hD) hS ls (lv_sub hl [0, 3, 4, 5, 6] rfl)
                          · rw [o_bit st hst k (by omega)] at c73
                            have hbt : btN st k = 0 := (nI_eq (b := 0) (by have : btN st k < 2 := Nat.mod_lt _ (by decide); omega) (by decide)).mp c73
                            refine lv_aload_n hx hb dX5_ordersFrom_76 rfl (lv_at hl 4 rfl) ?_
                            refine va_get (D := (dC, dI)) (ci := 5) (v := .ref (a 14)) (C := RX5) (T := TX5) (N := 24) hx hb hts (fun w h => List.mem_cons_of_mem _ (iw_X5 w h)) hown hK hP 0 rfl rfl 21 (by decide) (hts _ (List.mem_cons_of_mem _ fl_X5_table)) (fun _ h9 => h9) rfl dX5_ordersFrom_77 ?_
                            refine lv_bipush (v := 31) hx hb dX5_ordersFrom_80 (by decide) ?_
                            refine lv_iload_n hx hb dX5_ordersFrom_82 rfl (lv_at hl 3 rfl) ?_
                            refine lv_imul hx hb dX5_ordersFrom_83 ?_
                            refine lv_iload hx hb dX5_ordersFrom_84 (lv_at hl 0 rfl) ?_
                            refine lv_iadd hx hb dX5_ordersFrom_86 ?_
                            rw [show (31 : Int32) * nI st + nI u = nI (31 * st + u) by rw [show (31 : Int32) = nI 31 from rfl, pk_mul, nI_add]]
                            refine wi_ald hx hb hK hP 14 0 rfl rfl (k := ((31 * st + u))) (by omega) (by decide) dX5_ordersFrom_87 ?_
                            refine lv_istore (lv' := [(7, .int ((stS (stK (stT (tb0 g) np st) st k) st k (isum (gnM (stK (stT (tb0 g) np st) st k) (nI st) k) 6) u) 13 ((31 * st + u)))), (6, .int (nI u)), (5, .int (isum (gnM (stK (stT (tb0 g) np st) st k) (nI st) k) 6)), (4, .int (nI k)), (3, .int (nI st)), (0, .ref (a 0)), (1, .int sm), (2, .int (nI np))]) hx hb dX5_ordersFrom_88 hl (by decide) rfl (fun ls hl => ?_)
                            refine lv_iload hx hb dX5_ordersFrom_90 (lv_at hl 0 rfl) ?_
                            refine lv_if_le (tgt := 120) hx hb dX5_ordersFrom_92 (by decide) (fun c92 => ?_) (fun c92 => ?_)
                            · have n92 := Int32.not_lt.mpr c92
                              refine lv_iinc (v := nI (u + 1)) (lv' := [(6, .int (nI (u + 1))), (7, .int ((stS (stK (stT (tb0 g) np st) st k) st k (isum (gnM (stK (stT (tb0 g) np st) st k) (nI st) k) 6) u) 13 ((31 * st + u)))), (5, .int (isum (gnM (stK (stT (tb0 g) np st) st k) (nI st) k) 6)), (4, .int (nI k)), (3, .int (nI st)), (0, .ref (a 0)), (1, .int sm), (2, .int (nI np))]) hx hb dX5_ordersFrom_120 hl (k := 1) rfl (nI_1 u) (by decide) rfl (fun ls hl => ?_)
                              refine lv_goto (tgt := 60) hx hb dX5_ordersFrom_123 (by decide) ?_
                              have eG : (stS (stK (stT (tb0 g) np st) st k) st k (isum (gnM (stK (stT (tb0 g) np st) st k) (nI st) k) 6) (u + 1)) = (stS (stK (stT (tb0 g) np st) st k) st k (isum (gnM (stK (stT (tb0 g) np st) st k) (nI st) k) 6) u) := (by rw [stS, if_neg (fun q => n92 q.2)])
                              exact ih5 (u + 1) (by omega) (by omega) _ _ (by rw [eG]; exact hP) (by rw [eG]; exact hD) hS ls (lv_sub hl [0, 2, 3, 4, 5, 6, 7] rfl)
                            · have n92 := Int32.not_le.mp c92
                              have hvv := stS_v hst (show k < 6 by omega) (gn_m (stK (stT (tb0 g) np st) st k) hst k).1 (gn_m (stK (stT (tb0 g) np st) st k) hst k).2 (stK_v hst (stT_v hnp2 (tb0_v g) st (by omega)) k (by omega)) u (by omega)
                              obtain ⟨s9, y1, y2, y3, y4, y5⟩ := tix_ok hst (show k < 6 by omega) hk5 hbt (gn_m (stK (stT (tb0 g) np st) st k) hst k).1 (gn_m (stK (stT (tb0 g) np st) st k) hst k).2 (hvv st hst u hk5 n92)
                              obtain ⟨z1, z2, z3⟩ := o_pc st hst k (by omega) hbt
                              rw [← y3] at y2
                              refine lv_aload_n hx hb dX5_ordersFrom_95 rfl (lv_at hl 5 rfl) ?_
                              refine va_get (D := (dC, dI)) (ci := 5) (v := .ref (a 14)) (C := RX5) (T := TX5) (N := 24) hx hb hts (fun w h => List.mem_cons_of_mem _ (iw_X5 w h)) hown hK hP 0 rfl rfl 21 (by decide) (hts _ (List.mem_cons_of_mem _ fl_X5_table)) (fun _ h9 => h9) rfl dX5_ordersFrom_96 ?_
                              refine lv_bipush (v := 31) hx hb dX5_ordersFrom_99 (by decide) ?_
                              refine lv_iload_n hx hb dX5_ordersFrom_101 rfl (lv_at hl 4 rfl) ?_
                              refine lv_iconst (v := 1) hx hb dX5_ordersFrom_102 (by decide) ?_
                              refine lv_iload hx hb dX5_ordersFrom_103 (lv_at hl 3 rfl) ?_
                              refine lv_ishl hx hb dX5_ordersFrom_105 ?_
                              refine lv_ior hx hb dX5_ordersFrom_106 ?_
                              refine lv_imul hx hb dX5_ordersFrom_107 ?_
                              refine lv_iload hx hb dX5_ordersFrom_108 (lv_at hl 1 rfl) ?_
                              refine lv_iadd hx hb dX5_ordersFrom_110 ?_
                              refine lv_iload hx hb dX5_ordersFrom_111 (lv_at hl 2 rfl) ?_
                              refine lv_iadd hx hb dX5_ordersFrom_113 ?_
                              rw [o_or st hst k (by omega), y2]
                              refine lv_dup2_11 hx hb dX5_ordersFrom_114 rfl rfl ?_
                              refine wi_ald hx hb hK hP 14 0 rfl rfl (k := ((tix st k u (isum (gnM (stK (stT (tb0 g) np st) st k) (nI st) k) 6)))) (by rw [y3]; omega) (by decide) dX5_ordersFrom_115 ?_
                              refine lv_iload hx hb dX5_ordersFrom_116 (lv_at hl 0 rfl) ?_
                              refine lv_iadd hx hb dX5_ordersFrom_118 ?_
                              refine wi_ast hx hb hK hP hD hS 14 0 rfl rfl (k := ((tix st k u (isum (gnM (stK (stT (tb0 g) np st) st k) (nI st) k) 6)))) (by rw [y3]; omega) (by decide) dX5_ordersFrom_119 (fun H locs hP hD hS => ?_)
                              have hP : va_P (dC, dI) clA (wM cI cZ a v (upg (stS (stK (stT (tb0 g) np st) st k) st k (isum (gnM (stK (stT (tb0 g) np st) st k) (nI st) k) 6) u) 13 ((tix st k u (isum (gnM (stK (stT (tb0 g) np st) st k) (nI st) k) 6))) (((stS (stK (stT (tb0 g) np st) st k) st k (isum (gnM (stK (stT (tb0 g) np st) st k) (nI st) k) 6) u) 13 ((tix st k u (isum (gnM (stK (stT (tb0 g) np st) st k) (nI st) k) 6)))) + ((stS (stK (stT (tb0 g) np st) st k) st k (isum (gnM (stK (stT (tb0 g) np st) st k) (nI st) k) 6) u) 13 ((31 * st + u)))))) H := hP
                              have hD : va_D A (wM cI cZ a v (upg (stS (stK (stT (tb0 g) np st) st k) st k (isum (gnM (stK (stT (tb0 g) np st) st k) (nI st) k) 6) u) 13 ((tix st k u (isum (gnM (stK (stT (tb0 g) np st) st k) (nI st) k) 6))) (((stS (stK (stT (tb0 g) np st) st k) st k (isum (gnM (stK (stT (tb0 g) np st) st k) (nI st) k) 6) u) 13 ((tix st k u (isum (gnM (stK (stT (tb0 g) np st) st k) (nI st) k) 6)))) + ((stS (stK (stT (tb0 g) np st) st k) st k (isum (gnM (stK (stT (tb0 g) np st) st k) (nI st) k) 6) u) 13 ((31 * st + u)))))) := hD
                              refine lv_iinc (v := nI (u + 1)) (lv' := [(6, .int (nI (u + 1))), (7, .int ((stS (stK (stT (tb0 g) np st) st k) st k (isum (gnM (stK (stT (tb0 g) np st) st k) (nI st) k) 6) u) 13 ((31 * st + u)))), (5, .int (isum (gnM (stK (stT (tb0 g) np st) st k) (nI st) k) 6)), (4, .int (nI k)), (3, .int (nI st)), (0, .ref (a 0)), (1, .int sm), (2, .int (nI np))]) hx hb dX5_ordersFrom_120 hl (k := 1) rfl (nI_1 u) (by decide) rfl (fun ls hl => ?_)
                              refine lv_goto (tgt := 60) hx hb dX5_ordersFrom_123 (by decide) ?_
                              have eG : (stS (stK (stT (tb0 g) np st) st k) st k (isum (gnM (stK (stT (tb0 g) np st) st k) (nI st) k) 6) (u + 1)) = (upg (stS (stK (stT (tb0 g) np st) st k) st k (isum (gnM (stK (stT (tb0 g) np st) st k) (nI st) k) 6) u) 13 ((tix st k u (isum (gnM (stK (stT (tb0 g) np st) st k) (nI st) k) 6))) (((stS (stK (stT (tb0 g) np st) st k) st k (isum (gnM (stK (stT (tb0 g) np st) st k) (nI st) k) 6) u) 13 ((tix st k u (isum (gnM (stK (stT (tb0 g) np st) st k) (nI st) k) 6)))) + ((stS (stK (stT (tb0 g) np st) st k) st k (isum (gnM (stK (stT (tb0 g) np st) st k) (nI st) k) 6) u) 13 ((31 * st + u))))) := (by rw [stS, if_pos ⟨hbt, n92⟩])
                              exact ih5 (u + 1) (by omega) (by omega) _ _ (by rw [eG]; exact hP) (by rw [eG]; exact hD) hS ls (lv_sub hl [0, 2, 3, 4, 5, 6, 7] rfl)
                    exact lp5 (31 + 1) 0 (by omega) (by omega) _ _ hP hD hS ls (lv_sub hl [0, 1, 2, 3, 4, 5, 6] rfl)
              exact lp4 (np + 1) 0 (by omega) (by omega) _ _ hP hD hS ls (lv_sub hl [0, 1, 2, 3, 4] rfl)
        exact lp3 ((2 ^ np) + 1) 0 (by omega) (by omega) _ _ hP hD hS ls (lv_sub hl [0, 1, 2, 3] rfl)
      · have n6 := Int32.not_le.mp c6
        have hk1 : k1 < 1984 := Nat.lt_of_not_le (fun h => c6 (nI_le (a := 1984) h (by omega)))
        refine lv_aload_n hx hb dX5_ordersFrom_9 rfl (lv_at hl 1 rfl) ?_
        refine va_get (D := (dC, dI)) (ci := 5) (v := .ref (a 14)) (C := RX5) (T := TX5) (N := 24) hx hb hts (fun w h => List.mem_cons_of_mem _ (iw_X5 w h)) hown hK hP 0 rfl rfl 21 (by decide) (hts _ (List.mem_cons_of_mem _ fl_X5_table)) (fun _ h9 => h9) rfl dX5_ordersFrom_10 ?_
        refine lv_iload_n hx hb dX5_ordersFrom_13 rfl (lv_at hl 0 rfl) ?_
        refine lv_iconst (v := 0) hx hb dX5_ordersFrom_14 (by decide) ?_
        refine wi_ast hx hb hK hP hD hS 14 0 rfl rfl (k := k1) (by omega) (by decide) dX5_ordersFrom_15 (fun H locs hP hD hS => ?_)
        have hP : va_P (dC, dI) clA (wM cI cZ a v (upg (clG g k1) 13 k1 0)) H := hP
        have hD : va_D A (wM cI cZ a v (upg (clG g k1) 13 k1 0)) := hD
        refine lv_iinc (v := nI (k1 + 1)) (lv' := [(3, .int (nI (k1 + 1))), (0, .ref (a 0)), (1, .int sm), (2, .int (nI np))]) hx hb dX5_ordersFrom_16 hl (k := 0) rfl (nI_1 k1) (by decide) rfl (fun ls hl => ?_)
        refine lv_goto (tgt := 2) hx hb dX5_ordersFrom_19 (by decide) ?_
        have eG : (clG g (k1 + 1)) = (upg (clG g k1) 13 k1 0) := rfl
        exact ih1 (k1 + 1) (by omega) (by omega) _ _ (by rw [eG]; exact hP) (by rw [eG]; exact hD) hS ls (lv_sub hl [0, 1, 2, 3] rfl)
  exact lp1 (1984 + 1) 0 (by omega) (by omega) _ _ hP hD hS ls (lv_sub hl [0, 1, 2, 3] rfl)
