
section OWNZ
variable {p : Program} {l : Launch} {e : Env} {R : Room} {s : State} {m : MethodId} {args : Array Value} {below : List Frame} {meth : Method} {c : Code} {H : Heap} {locs : List Loc} {cells slots : Nat} {Q : State → Prop}
variable {cc : ByteArray} {pc : Nat} {ls : Array Slot} {rest : List Value} {D : va_G} {cl : List vw_C} {ws : va_W} {tys : List (ClassId × FieldType)} {a : Nat}
theorem wz_aldE (hexec : p.tables.exec = Jvm.exec) (hb : c.code = cc) (hK : va_K D cl tys s) (hP : va_P D cl ws H) (q0 t0 : Nat) {cA : ClassId} {n : Nat} {f : Nat → Int32} (ha : ws[q0]? = some (a, .inl (cA, n, .inl f))) (ht : tys[t0]? = some (cA, .boolean)) {i : Int32} {k : Nat} (hi : i = nI k) (hk : k < n) (hn : n < 2 ^ 31) (hdg : decode cc pc = .ok (.baload, 1))
    (kk : W p l e R s m args below meth c H locs cells slots Q (F0 m (pc + 1) ls (.int (f k) :: rest))) : W p l e R s m args below meth c H locs cells slots Q (F0 m pc ls (.int i :: .ref a :: rest)) := by
  subst hi
  exact wz_ald hexec hb hK hP q0 t0 ha ht hk hn hdg kk
end OWNZ
/-- the reference's areas: hidden rows and joined ones so far, whether there are some, the flags -/
def jkM (g : Nat → Nat → Int32) (v : Nat → Int32) (n : Nat) : Nat → Int32 × Bool × (Nat → Nat → Int32)
  | 0 => (cnt (fun i => decide (¬ g 6 i = 0) && inB (g 0 i) (v 3) (v 4)) n, false, g)
  | k + 1 => ((jkM g v n k).1 + (if inB (cnt (fun i => fitB (jkM g v n k).2.2 i (v 3) (v 4) (-1) (nI k)) n) 1 (v 7 - 1) = true then (cnt (fun i => fitB (jkM g v n k).2.2 i (v 3) (v 4) (-1) (nI k)) n) else 0), (jkM g v n k).2.1 || inB (cnt (fun i => fitB (jkM g v n k).2.2 i (v 3) (v 4) (-1) (nI k)) n) 1 (v 7 - 1), upg (jkM g v n k).2.2 15 k (bI (inB (cnt (fun i => fitB (jkM g v n k).2.2 i (v 3) (v 4) (-1) (nI k)) n) 1 (v 7 - 1))))
/-- the area with the fewest rows that may be joined -/
def feM (g : Nat → Nat → Int32) (v : Nat → Int32) (n : Nat) : Nat → Int32
  | 0 => -1
  | k + 1 => if g 15 k = 0 ∧ 0 < (cnt (fun i => fitB g i (v 3) (v 4) (-1) (nI k)) n) ∧ (feM g v n k < 0 ∨ (cnt (fun i => fitB g i (v 3) (v 4) (-1) (nI k)) n) < (cnt (fun i => fitB g i (v 3) (v 4) (-1) (feM g v n k)) n)) then nI k else feM g v n k
noncomputable def feX (g : Nat → Nat → Int32) (v : Nat → Int32) (n : Nat) : Int32 := feM g v n n10
theorem feM_in (g : Nat → Nat → Int32) (v : Nat → Int32) (n : Nat) : ∀ k, feM g v n k < 0 ∨ ∃ j, j < k ∧ feM g v n k = nI j ∧ g 15 j = 0 := by
  intro k
  induction k with
  | zero => exact Or.inl (by show (-1 : Int32) < 0; decide)
  | succ k ih =>
    rw [feM]
    split
    · rename_i h; exact Or.inr ⟨k, by omega, rfl, h.1⟩
    · rcases ih with h | ⟨j, h1, h2, h3⟩
      · exact Or.inl h
      · exact Or.inr ⟨j, by omega, h2, h3⟩
theorem feX_at (g : Nat → Nat → Int32) (v : Nat → Int32) (n : Nat) (h : ¬ feX g v n < 0) : feX g v n = nI (feX g v n).toNatClampNeg ∧ (feX g v n).toNatClampNeg < 10 ∧ g 15 (feX g v n).toNatClampNeg = 0 := by
  have e : feX g v n = feM g v n 10 := by rw [feX, n10_eq]
  rw [e] at h ⊢
  rcases feM_in g v n 10 with h1 | ⟨j, h1, h2, h3⟩
  · exact absurd h1 h
  · rw [h2, nI_clamp (by omega)]; exact ⟨rfl, h1, h3⟩
/-- areas that are not joined -/
def unj (g : Nat → Nat → Int32) : Nat := cntN (fun i => decide (g 15 i = 0)) 10
theorem cntN_eq {P Q : Nat → Bool} : ∀ m, (∀ i, i < m → P i = Q i) → cntN P m = cntN Q m := by
  intro m
  induction m with
  | zero => intro _; rfl
  | succ m ih => intro h; rw [cntN, cntN, ih (fun i hi => h i (by omega)), h m (by omega)]
theorem cntN_less {P Q : Nat → Bool} {j : Nat} (hj : P j = true) (hq : Q j = false) (ho : ∀ i, i ≠ j → Q i = P i) : ∀ m, j < m → cntN Q m < cntN P m := by
  intro m
  induction m with
  | zero => intro h; exact absurd h (by omega)
  | succ m ih =>
    intro h
    rw [cntN, cntN]
    by_cases e : j = m
    · subst e
      rw [hj, hq, cntN_eq j (fun i hi => ho i (by omega))]
      simp
    · have := ih (by omega)
      rw [ho m (by omega)]
      omega
theorem unj_lt (g : Nat → Nat → Int32) {j : Nat} (hj : j < 10) (h : g 15 j = 0) : unj (upg g 15 j 1) < unj g := by
  refine cntN_less (j := j) (decide_eq_true h) ?_ ?_ 10 hj
  · simp [upg, upd]
  · intro i hi; simp [upg, upd, hi]
/-- areas joined, as long as there are too few -/
noncomputable def jwM (v : Nat → Int32) (n : Nat) : Nat → Int32 × (Nat → Nat → Int32) → Int32 × (Nat → Nat → Int32)
  | 0, u => u
  | d + 1, u => if u.1 < v 7 then (if feX u.2 v n < 0 then u else jwM v n d (u.1 + (cnt (fun i => fitB u.2 i (v 3) (v 4) (-1) (feX u.2 v n)) n), upg u.2 15 (feX u.2 v n).toNatClampNeg 1)) else u
noncomputable def joM (g : Nat → Nat → Int32) (v : Nat → Int32) (n : Nat) : Int32 × (Nat → Nat → Int32) := if (jkM g v n n10).2.1 = true then jwM v n 11 ((jkM g v n n10).1, (jkM g v n n10).2.2) else (0, (jkM g v n n10).2.2)

set_option maxHeartbeats 4000000 in
set_option maxRecDepth 100000 in
theorem m_join (l : Launch) (dC : Nat → ClassId) (dI : Nat → Nat → Nat) (cI cZ cJ : ClassId) (a : Nat → Nat) (v : Nat → Int32) (g : Nat → Nat → Int32) (sz : Nat) (n : Nat) (hn : v 1 = nI n) (hn2 : n ≤ 200) : Met l yX5_join wsX5_join ({ frames := 3, cells := 0, slots := 0, locals := 71 }) (va_Pc [.ref (a 0)] (fun U => U.heap.size = sz ∧ va_P (dC, dI) clA (wM cI cZ a v g) U.heap ∧ va_K (dC, dI) clA (tyA cI cZ cJ) U ∧ va_D (fun _ => True) (wM cI cZ a v g))) (va_Qi (fun (r : Int32) (u : StA) => r = (joM g v n).1 ∧ u = (v, (joM g v n).2)) (atM dC dI cI cZ cJ a (va_A (wM cI cZ a v g) sz)) (va_A (wM cI cZ a v g) sz))  0 0 (va_A (wM cI cZ a v g) sz) := by
  refine Met.ofW (cc := cX5_join) (maxL := 6) (ret := (some .int)) (by decide) rfl ?_
  intro p e s m args below meth c s₁ B hml hv
  obtain ⟨rfl, hsz, hP, hK, hD0⟩ := hv
  have hx := B.exec
  have hb := B.bytes
  have hr := B.returns
  have hts := atoms_spec (ws := wsX5_join) B.pre
  have hown : s.vm.findClass RX5 = some m.cls := findClass_of_methodNamed B.named
  have hlocks := B.notSynchronized
  subst hsz
  have hD := hD0.self (sz := s.heap.size)
  generalize hAe : va_A (wM cI cZ a v g) s.heap.size = A at hD ⊢
  have hA : ∀ q : Nat, s.heap.size ≤ q → A q := fun q h => by rw [← hAe]; exact Or.inr h
  have hS : va_S A s.heap s.heap [] := va_S.rf
  have hP : va_P (dC, dI) clA (wM cI cZ a v g) s.heap := hP
  have hl := lv_entry ([.ref (a 0)]) (n := 6) (Nat.le_of_ble_eq_true rfl)
  rw [lg_entry_eq]
  generalize (lg_sl ([.ref (a 0)]) ++ List.replicate (6 - (lg_sl ([.ref (a 0)])).length) Slot.unset).toArray = ls at hl ⊢
  have hl : lv_has ls 6 [(0, .ref (a 0))] := hl
  refine lv_iconst (v := 0) hx hb dX5_join_0 (by decide) ?_
  refine lv_istore_n (lv' := [(1, .int 0), (0, .ref (a 0))]) hx hb dX5_join_1 rfl hl (by decide) rfl (fun ls hl => ?_)
  refine lv_iconst (v := 0) hx hb dX5_join_2 (by decide) ?_
  refine lv_istore_n (lv' := [(2, .int 0), (1, .int 0), (0, .ref (a 0))]) hx hb dX5_join_3 rfl hl (by decide) rfl (fun ls hl => ?_)
  refine lv_iconst (v := 0) hx hb dX5_join_4 (by decide) ?_
  refine lv_istore_n (lv' := [(3, .int 0), (2, .int 0), (1, .int 0), (0, .ref (a 0))]) hx hb dX5_join_5 rfl hl (by decide) rfl (fun ls hl => ?_)
  have lp : ∀ (d k : Nat), k ≤ n → n + 1 ≤ k + d → ∀ (H : Heap) (locs : List Loc), va_P (dC, dI) clA (wM cI cZ a v g) H → va_D A (wM cI cZ a v g) → va_S A s.heap H locs → ∀ (ls : Array Slot), lv_has ls 6 [(3, .int (nI k)), (1, .int (cnt (fun i => decide (¬ g 6 i = 0) && inB (g 0 i) (v 3) (v 4)) k)), (2, .int 0), (0, .ref (a 0))] → W p l e (headSpec wsX5_join ({ frames := 3, cells := 0, slots := 0, locals := 71 })).room s m ([.ref (a 0)] : List Value).toArray below meth c H locs 0 0 (MQ below (va_Qi (fun (r : Int32) (u : StA) => r = (joM g v n).1 ∧ u = (v, (joM g v n).2)) (atM dC dI cI cZ cJ a A) A) ([.ref (a 0)] : List Value).toArray s 0 0 A) (F0 m 6 ls []) := by
    intro d
    induction d with
    | zero => intro k h1 h2; exact absurd h2 (by omega)
    | succ d ih =>
      intro k hkn hkd H locs hP hD hS ls hl
      refine lv_iload_n hx hb dX5_join_6 rfl (lv_at hl 0 rfl) ?_
      refine lv_aload_n hx hb dX5_join_7 rfl (lv_at hl 3 rfl) ?_
      refine va_get (D := (dC, dI)) (ci := 5) (v := .int (v 1)) (C := RX5) (T := TX5) (N := 24) hx hb hts (fun w h => List.mem_cons_of_mem _ (iw_X5 w h)) hown hK hP 0 rfl rfl 1 (by decide) (hts _ (List.mem_cons_of_mem _ fl_X5_rows)) (fun _ h9 => h9) rfl dX5_join_8 ?_
      refine lv_icmp_ge (tgt := 57) hx hb dX5_join_11 (by decide) (fun c11 => ?_) (fun c11 => ?_)
      · have n11 := Int32.not_lt.mpr c11
        rw [hn] at c11
        have hkn2 : k = n := Nat.le_antisymm hkn ((nI_leI (by omega) (by omega)).mp c11)
        have hl : lv_has ls 6 [(3, .int (nI k)), (1, .int (cnt (fun i => decide (¬ g 6 i = 0) && inB (g 0 i) (v 3) (v 4)) n)), (2, .int 0), (0, .ref (a 0))] := by rw [← hkn2]; exact hl
        refine lv_iconst (v := 0) hx hb dX5_join_57 (by decide) ?_
        refine lv_istore_n (lv' := [(3, .int 0), (1, .int (cnt (fun i => decide (¬ g 6 i = 0) && inB (g 0 i) (v 3) (v 4)) n)), (2, .int 0), (0, .ref (a 0))]) hx hb dX5_join_58 rfl hl (by decide) rfl (fun ls hl => ?_)
        have lp : ∀ (d k : Nat), k ≤ 10 → 10 + 1 ≤ k + d → ∀ (H : Heap) (locs : List Loc), va_P (dC, dI) clA (wM cI cZ a v (jkM g v n k).2.2) H → va_D A (wM cI cZ a v (jkM g v n k).2.2) → va_S A s.heap H locs → ∀ (ls : Array Slot), lv_has ls 6 [(3, .int (nI k)), (1, .int (jkM g v n k).1), (2, .int (bI (jkM g v n k).2.1)), (0, .ref (a 0))] → W p l e (headSpec wsX5_join ({ frames := 3, cells := 0, slots := 0, locals := 71 })).room s m ([.ref (a 0)] : List Value).toArray below meth c H locs 0 0 (MQ below (va_Qi (fun (r : Int32) (u : StA) => r = (joM g v n).1 ∧ u = (v, (joM g v n).2)) (atM dC dI cI cZ cJ a A) A) ([.ref (a 0)] : List Value).toArray s 0 0 A) (F0 m 59 ls []) := by
          intro d
          induction d with
          | zero => intro k h1 h2; exact absurd h2 (by omega)
          | succ d ih =>
            intro k hkn hkd H locs hP hD hS ls hl
            refine lv_iload_n hx hb dX5_join_59 rfl (lv_at hl 0 rfl) ?_
            refine lv_bipush (v := 10) hx hb dX5_join_60 (by decide) ?_
            refine lv_icmp_ge (tgt := 134) hx hb dX5_join_62 (by decide) (fun c62 => ?_) (fun c62 => ?_)
            · have n62 := Int32.not_lt.mpr c62
              have hkn3 : k = 10 := Nat.le_antisymm hkn ((nI_leI (a := 10) (b := k) (by decide) (by omega)).mp c62)
              have hk10 : k = n10 := by rw [n10_eq]; exact hkn3
              rw [hk10] at hP hD
              have hl : lv_has ls 6 [(3, .int (nI k)), (1, .int (jkM g v n n10).1), (2, .int (bI (jkM g v n n10).2.1)), (0, .ref (a 0))] := by rw [← hk10]; exact hl
              refine lv_iload_n hx hb dX5_join_134 rfl (lv_at hl 2 rfl) ?_
              refine lv_if_ne (tgt := 140) hx hb dX5_join_135 (by decide) (fun c135 => ?_) (fun c135 => ?_)
              · have c135 := bI_n0.mp c135
                refine lv_iconst (v := 1) hx hb dX5_join_140 (by decide) ?_
                refine lv_istore_n (lv' := [(3, .int 1), (1, .int (jkM g v n n10).1), (2, .int (bI (jkM g v n n10).2.1)), (0, .ref (a 0))]) hx hb dX5_join_141 rfl hl (by decide) rfl (fun ls hl => ?_)
                have lpw : ∀ (dw : Nat) (sm : Int32) (G : Nat → Nat → Int32), unj G < dw → jwM v n dw (sm, G) = jwM v n 11 ((jkM g v n n10).1, (jkM g v n n10).2.2) → ∀ (H : Heap) (locs : List Loc), va_P (dC, dI) clA (wM cI cZ a v G) H → va_D A (wM cI cZ a v G) → va_S A s.heap H locs → ∀ (ls : Array Slot), lv_has ls 6 [(1, .int sm), (3, .int 1), (0, .ref (a 0))] → W p l e (headSpec wsX5_join ({ frames := 3, cells := 0, slots := 0, locals := 71 })).room s m ([.ref (a 0)] : List Value).toArray below meth c H locs 0 0 (MQ below (va_Qi (fun (r : Int32) (u : StA) => r = (joM g v n).1 ∧ u = (v, (joM g v n).2)) (atM dC dI cI cZ cJ a A) A) ([.ref (a 0)] : List Value).toArray s 0 0 A) (F0 m 142 ls []) := by
                  intro dw
                  induction dw with
                  | zero => intro sm G hu; exact absurd hu (by omega)
                  | succ dw ihw =>
                    intro sm G hu hG H locs hP hD hS ls hl
                    refine lv_iload_n hx hb dX5_join_142 rfl (lv_at hl 0 rfl) ?_
                    refine lv_aload_n hx hb dX5_join_143 rfl (lv_at hl 2 rfl) ?_
                    refine va_get (D := (dC, dI)) (ci := 5) (v := .int (v 7)) (C := RX5) (T := TX5) (N := 24) hx hb hts (fun w h => List.mem_cons_of_mem _ (iw_X5 w h)) hown hK hP 0 rfl rfl 19 (by decide) (hts _ (List.mem_cons_of_mem _ fl_X5_least)) (fun _ h9 => h9) rfl dX5_join_144 ?_
                    refine lv_icmp_ge (tgt := 255) hx hb dX5_join_147 (by decide) (fun c147 => ?_) (fun c147 => ?_)
                    · have n147 := Int32.not_lt.mpr c147
                      refine lv_iload_n hx hb dX5_join_255 rfl (lv_at hl 0 rfl) ?_
                      exact (W.iret (v := sm) hx hb hr (fun t9 ht hW => ⟨⟨_, (v, G), rfl, ⟨(by rw [joM, if_pos c135, ← hG, jwM, if_neg n147]), (by rw [joM, if_pos c135, ← hG, jwM, if_neg n147])⟩, ⟨by rw [ht]; exact hP, va_K.moved hW.alike hK, hD⟩⟩, hS.F ht⟩) hS.2.2 dX5_join_256)
                    · have n147 := Int32.not_le.mp c147
                      refine lv_iload_n hx hb dX5_join_150 rfl (lv_at hl 1 rfl) ?_
                      refine lv_if_eq (tgt := 255) hx hb dX5_join_151 (by decide) (fun c151 => ?_) (fun c151 => ?_)
                      · exact absurd c151 (by decide)
                      · refine lv_iconst (v := (-1)) hx hb dX5_join_154 (by decide) ?_
                        refine lv_istore (lv' := [(4, .int (-1)), (1, .int sm), (3, .int 1), (0, .ref (a 0))]) hx hb dX5_join_155 hl (by decide) rfl (fun ls hl => ?_)
                        refine lv_iconst (v := 0) hx hb dX5_join_157 (by decide) ?_
                        refine lv_istore (lv' := [(5, .int 0), (4, .int (-1)), (1, .int sm), (3, .int 1), (0, .ref (a 0))]) hx hb dX5_join_158 hl (by decide) rfl (fun ls hl => ?_)
                        have lp : ∀ (d k : Nat), k ≤ 10 → 10 + 1 ≤ k + d → ∀ (H : Heap) (locs : List Loc), va_P (dC, dI) clA (wM cI cZ a v G) H → va_D A (wM cI cZ a v G) → va_S A s.heap H locs → ∀ (ls : Array Slot), lv_has ls 6 [(5, .int (nI k)), (4, .int (feM G v n k)), (1, .int sm), (3, .int 1), (0, .ref (a 0))] → W p l e (headSpec wsX5_join ({ frames := 3, cells := 0, slots := 0, locals := 71 })).room s m ([.ref (a 0)] : List Value).toArray below meth c H locs 0 0 (MQ below (va_Qi (fun (r : Int32) (u : StA) => r = (joM g v n).1 ∧ u = (v, (joM g v n).2)) (atM dC dI cI cZ cJ a A) A) ([.ref (a 0)] : List Value).toArray s 0 0 A) (F0 m 160 ls []) := by
                          intro d
                          induction d with
                          | zero => intro k h1 h2; exact absurd h2 (by omega)
                          | succ d ih =>
                            intro k hkn hkd H locs hP hD hS ls hl
                            refine lv_iload hx hb dX5_join_160 (lv_at hl 0 rfl) ?_
                            refine lv_bipush (v := 10) hx hb dX5_join_162 (by decide) ?_
                            refine lv_icmp_ge (tgt := 219) hx hb dX5_join_164 (by decide) (fun c164 => ?_) (fun c164 => ?_)
                            · have n164 := Int32.not_lt.mpr c164
                              have hke : k = 10 := Nat.le_antisymm hkn ((nI_leI (a := 10) (b := k) (by decide) (by omega)).mp c164)
                              have hlt9 := n147
                              have hl : lv_has ls 6 [(5, .int (nI k)), (4, .int (feX G v n)), (1, .int sm), (3, .int 1), (0, .ref (a 0))] := by rw [feX, n10_eq, ← hke]; exact hl
                              refine lv_iload hx hb dX5_join_219 (lv_at hl 1 rfl) ?_
                              refine lv_if_lt (tgt := 228) hx hb dX5_join_221 (by decide) (fun c221 => ?_) (fun c221 => ?_)
                              · have n221 := Int32.not_le.mpr c221
                                have hfe9 := c221
                                refine lv_iconst (v := 0) hx hb dX5_join_228 (by decide) ?_
                                refine lv_istore_n (lv' := [(3, .int 0), (5, .int (nI k)), (4, .int (feX G v n)), (1, .int sm), (0, .ref (a 0))]) hx hb dX5_join_229 rfl hl (by decide) rfl (fun ls hl => ?_)
                                refine lv_iload_n hx hb dX5_join_230 rfl (lv_at hl 0 rfl) ?_
                                refine lv_if_eq (tgt := 252) hx hb dX5_join_231 (by decide) (fun c231 => ?_) (fun c231 => ?_)
                                · refine lv_goto (tgt := 142) hx hb dX5_join_252 (by decide) ?_
                                  refine lv_iload_n hx hb dX5_join_142 rfl (lv_at hl 3 rfl) ?_
                                  refine lv_aload_n hx hb dX5_join_143 rfl (lv_at hl 4 rfl) ?_
                                  refine va_get (D := (dC, dI)) (ci := 5) (v := .int (v 7)) (C := RX5) (T := TX5) (N := 24) hx hb hts (fun w h => List.mem_cons_of_mem _ (iw_X5 w h)) hown hK hP 0 rfl rfl 19 (by decide) (hts _ (List.mem_cons_of_mem _ fl_X5_least)) (fun _ h9 => h9) rfl dX5_join_144 ?_
                                  refine lv_icmp_ge (tgt := 255) hx hb dX5_join_147 (by decide) (fun c147 => ?_) (fun c147 => ?_)
                                  · have n147 := Int32.not_lt.mpr c147
                                    refine lv_iload_n hx hb dX5_join_255 rfl (lv_at hl 3 rfl) ?_
                                    exact (W.iret (v := sm) hx hb hr (fun t9 ht hW => ⟨⟨_, (v, G), rfl, ⟨(by rw [joM, if_pos c135, ← hG, jwM, if_pos hlt9, if_pos hfe9]), (by rw [joM, if_pos c135, ← hG, jwM, if_pos hlt9, if_pos hfe9])⟩, ⟨by rw [ht]; exact hP, va_K.moved hW.alike hK, hD⟩⟩, hS.F ht⟩) hS.2.2 dX5_join_256)
                                  · have n147 := Int32.not_le.mp c147
                                    refine lv_iload_n hx hb dX5_join_150 rfl (lv_at hl 0 rfl) ?_
                                    refine lv_if_eq (tgt := 255) hx hb dX5_join_151 (by decide) (fun c151 => ?_) (fun c151 => ?_)
                                    · refine lv_iload_n hx hb dX5_join_255 rfl (lv_at hl 3 rfl) ?_
                                      exact (W.iret (v := sm) hx hb hr (fun t9 ht hW => ⟨⟨_, (v, G), rfl, ⟨(by rw [joM, if_pos c135, ← hG, jwM, if_pos hlt9, if_pos hfe9]), (by rw [joM, if_pos c135, ← hG, jwM, if_pos hlt9, if_pos hfe9])⟩, ⟨by rw [ht]; exact hP, va_K.moved hW.alike hK, hD⟩⟩, hS.F ht⟩) hS.2.2 dX5_join_256)
                                    · exact absurd c151 (by decide)
                                · exact absurd c231 (by decide)
                              · have n221 := Int32.not_lt.mp c221
                                have hfe9 := c221
                                refine lv_iconst (v := 1) hx hb dX5_join_224 (by decide) ?_
                                refine lv_goto (tgt := 229) hx hb dX5_join_225 (by decide) ?_
                                refine lv_istore_n (lv' := [(3, .int 1), (5, .int (nI k)), (4, .int (feX G v n)), (1, .int sm), (0, .ref (a 0))]) hx hb dX5_join_229 rfl hl (by decide) rfl (fun ls hl => ?_)
                                refine lv_iload_n hx hb dX5_join_230 rfl (lv_at hl 0 rfl) ?_
                                refine lv_if_eq (tgt := 252) hx hb dX5_join_231 (by decide) (fun c231 => ?_) (fun c231 => ?_)
                                · exact absurd c231 (by decide)
                                · refine lv_aload_n hx hb dX5_join_234 rfl (lv_at hl 4 rfl) ?_
                                  refine va_get (D := (dC, dI)) (ci := 5) (v := .ref (a 16)) (C := RX5) (T := TX5) (N := 24) hx hb hts (fun w h => List.mem_cons_of_mem _ (iw_X5 w h)) hown hK hP 0 rfl rfl 23 (by decide) (hts _ (List.mem_cons_of_mem _ fl_X5_isJoined)) (fun _ h9 => h9) rfl dX5_join_235 ?_
                                  refine lv_iload hx hb dX5_join_238 (lv_at hl 2 rfl) ?_
                                  refine lv_iconst (v := 1) hx hb dX5_join_240 (by decide) ?_
                                  refine wz_astE hx hb hK hP hD hS 16 1 rfl rfl (k := ((feX G v n).toNatClampNeg)) (feX_at G v n hfe9).1 rfl (feX_at G v n hfe9).2.1 (by decide) dX5_join_241 (fun H locs hP hD hS => ?_)
                                  have hP : va_P (dC, dI) clA (wM cI cZ a v (upg G 15 ((feX G v n).toNatClampNeg) 1)) H := hP
                                  have hD : va_D A (wM cI cZ a v (upg G 15 ((feX G v n).toNatClampNeg) 1)) := hD
                                  refine lv_iload_n hx hb dX5_join_242 rfl (lv_at hl 3 rfl) ?_
                                  refine lv_aload_n hx hb dX5_join_243 rfl (lv_at hl 4 rfl) ?_
                                  refine lv_iload hx hb dX5_join_244 (lv_at hl 2 rfl) ?_
                                  refine lv_iconst (v := (-1)) hx hb dX5_join_246 (by decide) ?_
                                  refine vp_callSi (W.runV (As := [.int (feX G v n), .int (-1)]) (rest := [.int sm]) ⟨hx, hb, hml, hown, hts⟩ (m_rowsOf l dC dI cI cZ cJ a v (upg G 15 ((feX G v n).toNatClampNeg) 1) n hn hn2 (feX G v n) (-1)) (cwV 2 hts (gd_V ml_X5_X5_rowsOf im_X5_rowsOf se_X5_rowsOf in_X5 kX5_rowsOf) rfl rfl rfl (by decide +kernel) ⟨Nat.le_of_ble_eq_true rfl, Nat.le_of_ble_eq_true rfl⟩) ⟨fun _ U g mk q => by obtain ⟨q0, qP, qK⟩ := q; exact ⟨q0, qP, va_K.moved (u := U) (U := U.calling g mk _) (Vm.Alike.refl U.vm) qK⟩, va_recv hK hP (ci := 5) (q0 := 0) rfl rfl, fun U hU hW => ⟨rfl, by rw [hU]; exact hP, va_K.moved hW.alike hK⟩⟩ rfl rfl hl.1 rfl (lv_room (Nat.le_of_ble_eq_true rfl)) dX5_join_247 ⟨Nat.le_of_ble_eq_true rfl, Nat.le_of_ble_eq_true rfl⟩) (fun r247 hr247 => ?_)
                                  subst hr247
                                  refine lv_iadd hx hb dX5_join_250 ?_
                                  refine lv_istore_n (lv' := [(1, .int (sm + (cnt (fun i => fitB (upg G 15 ((feX G v n).toNatClampNeg) 1) i (v 3) (v 4) (-1) (feX G v n)) n))), (3, .int 1), (5, .int (nI k)), (4, .int (feX G v n)), (0, .ref (a 0))]) hx hb dX5_join_251 rfl hl (by decide) rfl (fun ls hl => ?_)
                                  refine lv_goto (tgt := 142) hx hb dX5_join_252 (by decide) ?_
                                  exact ihw _ (upg G 15 ((feX G v n).toNatClampNeg) 1) (by have := unj_lt G (feX_at G v n hfe9).2.1 (feX_at G v n hfe9).2.2; omega) (by rw [← hG, jwM, if_pos hlt9, if_neg hfe9]; rfl) _ _ hP hD hS ls (lv_sub hl [0, 1, 4] rfl)
                            · have n164 := Int32.not_le.mp c164
                              have hk : k < 10 := Nat.lt_of_not_le (fun h => c164 (nI_le (a := 10) h (by omega)))
                              refine lv_aload_n hx hb dX5_join_167 rfl (lv_at hl 4 rfl) ?_
                              refine va_get (D := (dC, dI)) (ci := 5) (v := .ref (a 16)) (C := RX5) (T := TX5) (N := 24) hx hb hts (fun w h => List.mem_cons_of_mem _ (iw_X5 w h)) hown hK hP 0 rfl rfl 23 (by decide) (hts _ (List.mem_cons_of_mem _ fl_X5_isJoined)) (fun _ h9 => h9) rfl dX5_join_168 ?_
                              refine lv_iload hx hb dX5_join_171 (lv_at hl 0 rfl) ?_
                              refine wz_ald hx hb hK hP 16 1 rfl rfl (k := k) (by omega) (by decide) dX5_join_173 ?_
                              refine lv_if_ne (tgt := 213) hx hb dX5_join_174 (by decide) (fun c174 => ?_) (fun c174 => ?_)
                              · refine lv_iinc (v := nI (k + 1)) (lv' := [(5, .int (nI (k + 1))), (4, .int (feM G v n k)), (1, .int sm), (3, .int 1), (0, .ref (a 0))]) hx hb dX5_join_213 hl (k := 0) rfl (nI_1 k) (by decide) rfl (fun ls hl => ?_)
                                refine lv_goto (tgt := 160) hx hb dX5_join_216 (by decide) ?_
                                have eL0 : (.int (feM G v n (k + 1)) : Value) = .int (feM G v n k) := (by simp [feM, c164, n164, c174])
                                exact ih (k + 1) (by omega) (by omega) _ _ hP hD hS ls (by rw [eL0]; exact lv_sub hl [0, 1, 2, 3, 4] rfl)
                              · refine lv_aload_n hx hb dX5_join_177 rfl (lv_at hl 4 rfl) ?_
                                refine lv_iload hx hb dX5_join_178 (lv_at hl 0 rfl) ?_
                                refine lv_iconst (v := (-1)) hx hb dX5_join_180 (by decide) ?_
                                refine vp_callSi (W.runV (As := [.int (nI k), .int (-1)]) (rest := []) ⟨hx, hb, hml, hown, hts⟩ (m_rowsOf l dC dI cI cZ cJ a v G n hn hn2 (nI k) (-1)) (cwV 2 hts (gd_V ml_X5_X5_rowsOf im_X5_rowsOf se_X5_rowsOf in_X5 kX5_rowsOf) rfl rfl rfl (by decide +kernel) ⟨Nat.le_of_ble_eq_true rfl, Nat.le_of_ble_eq_true rfl⟩) ⟨fun _ U g mk q => by obtain ⟨q0, qP, qK⟩ := q; exact ⟨q0, qP, va_K.moved (u := U) (U := U.calling g mk _) (Vm.Alike.refl U.vm) qK⟩, va_recv hK hP (ci := 5) (q0 := 0) rfl rfl, fun U hU hW => ⟨rfl, by rw [hU]; exact hP, va_K.moved hW.alike hK⟩⟩ rfl rfl hl.1 rfl (lv_room (Nat.le_of_ble_eq_true rfl)) dX5_join_181 ⟨Nat.le_of_ble_eq_true rfl, Nat.le_of_ble_eq_true rfl⟩) (fun r181 hr181 => ?_)
                                subst hr181
                                refine lv_if_le (tgt := 213) hx hb dX5_join_184 (by decide) (fun c184 => ?_) (fun c184 => ?_)
                                · have n184 := Int32.not_lt.mpr c184
                                  refine lv_iinc (v := nI (k + 1)) (lv' := [(5, .int (nI (k + 1))), (4, .int (feM G v n k)), (1, .int sm), (3, .int 1), (0, .ref (a 0))]) hx hb dX5_join_213 hl (k := 0) rfl (nI_1 k) (by decide) rfl (fun ls hl => ?_)
                                  refine lv_goto (tgt := 160) hx hb dX5_join_216 (by decide) ?_
                                  have eL0 : (.int (feM G v n (k + 1)) : Value) = .int (feM G v n k) := (by simp [feM, c164, n164, c174, c184, n184])
                                  exact ih (k + 1) (by omega) (by omega) _ _ hP hD hS ls (by rw [eL0]; exact lv_sub hl [0, 1, 2, 3, 4] rfl)
                                · have n184 := Int32.not_le.mp c184
                                  refine lv_iload hx hb dX5_join_187 (lv_at hl 1 rfl) ?_
                                  refine lv_if_lt (tgt := 209) hx hb dX5_join_189 (by decide) (fun c189 => ?_) (fun c189 => ?_)
                                  · have n189 := Int32.not_le.mpr c189
                                    refine lv_iload hx hb dX5_join_209 (lv_at hl 0 rfl) ?_
                                    refine lv_istore (lv' := [(4, .int (nI k)), (5, .int (nI k)), (1, .int sm), (3, .int 1), (0, .ref (a 0))]) hx hb dX5_join_211 hl (by decide) rfl (fun ls hl => ?_)
                                    refine lv_iinc (v := nI (k + 1)) (lv' := [(5, .int (nI (k + 1))), (4, .int (nI k)), (1, .int sm), (3, .int 1), (0, .ref (a 0))]) hx hb dX5_join_213 hl (k := 1) rfl (nI_1 k) (by decide) rfl (fun ls hl => ?_)
                                    refine lv_goto (tgt := 160) hx hb dX5_join_216 (by decide) ?_
                                    have eL0 : (.int (feM G v n (k + 1)) : Value) = .int (nI k) := (by simp [feM, c164, n164, c174, c184, n184, c189, n189])
                                    exact ih (k + 1) (by omega) (by omega) _ _ hP hD hS ls (by rw [eL0]; exact lv_sub hl [0, 1, 2, 3, 4] rfl)
                                  · have n189 := Int32.not_lt.mp c189
                                    refine lv_aload_n hx hb dX5_join_192 rfl (lv_at hl 4 rfl) ?_
                                    refine lv_iload hx hb dX5_join_193 (lv_at hl 0 rfl) ?_
                                    refine lv_iconst (v := (-1)) hx hb dX5_join_195 (by decide) ?_
                                    refine vp_callSi (W.runV (As := [.int (nI k), .int (-1)]) (rest := []) ⟨hx, hb, hml, hown, hts⟩ (m_rowsOf l dC dI cI cZ cJ a v G n hn hn2 (nI k) (-1)) (cwV 2 hts (gd_V ml_X5_X5_rowsOf im_X5_rowsOf se_X5_rowsOf in_X5 kX5_rowsOf) rfl rfl rfl (by decide +kernel) ⟨Nat.le_of_ble_eq_true rfl, Nat.le_of_ble_eq_true rfl⟩) ⟨fun _ U g mk q => by obtain ⟨q0, qP, qK⟩ := q; exact ⟨q0, qP, va_K.moved (u := U) (U := U.calling g mk _) (Vm.Alike.refl U.vm) qK⟩, va_recv hK hP (ci := 5) (q0 := 0) rfl rfl, fun U hU hW => ⟨rfl, by rw [hU]; exact hP, va_K.moved hW.alike hK⟩⟩ rfl rfl hl.1 rfl (lv_room (Nat.le_of_ble_eq_true rfl)) dX5_join_196 ⟨Nat.le_of_ble_eq_true rfl, Nat.le_of_ble_eq_true rfl⟩) (fun r196 hr196 => ?_)
                                    subst hr196
                                    refine lv_aload_n hx hb dX5_join_199 rfl (lv_at hl 4 rfl) ?_
                                    refine lv_iload hx hb dX5_join_200 (lv_at hl 1 rfl) ?_
                                    refine lv_iconst (v := (-1)) hx hb dX5_join_202 (by decide) ?_
                                    refine vp_callSi (W.runV (As := [.int (feM G v n k), .int (-1)]) (rest := [.int (cnt (fun i => fitB G i (v 3) (v 4) (-1) (nI k)) n)]) ⟨hx, hb, hml, hown, hts⟩ (m_rowsOf l dC dI cI cZ cJ a v G n hn hn2 (feM G v n k) (-1)) (cwV 2 hts (gd_V ml_X5_X5_rowsOf im_X5_rowsOf se_X5_rowsOf in_X5 kX5_rowsOf) rfl rfl rfl (by decide +kernel) ⟨Nat.le_of_ble_eq_true rfl, Nat.le_of_ble_eq_true rfl⟩) ⟨fun _ U g mk q => by obtain ⟨q0, qP, qK⟩ := q; exact ⟨q0, qP, va_K.moved (u := U) (U := U.calling g mk _) (Vm.Alike.refl U.vm) qK⟩, va_recv hK hP (ci := 5) (q0 := 0) rfl rfl, fun U hU hW => ⟨rfl, by rw [hU]; exact hP, va_K.moved hW.alike hK⟩⟩ rfl rfl hl.1 rfl (lv_room (Nat.le_of_ble_eq_true rfl)) dX5_join_203 ⟨Nat.le_of_ble_eq_true rfl, Nat.le_of_ble_eq_true rfl⟩) (fun r203 hr203 => ?_)
                                    subst hr203
                                    refine lv_icmp_ge (tgt := 213) hx hb dX5_join_206 (by decide) (fun c206 => ?_) (fun c206 => ?_)
                                    · have n206 := Int32.not_lt.mpr c206
                                      refine lv_iinc (v := nI (k + 1)) (lv' := [(5, .int (nI (k + 1))), (4, .int (feM G v n k)), (1, .int sm), (3, .int 1), (0, .ref (a 0))]) hx hb dX5_join_213 hl (k := 0) rfl (nI_1 k) (by decide) rfl (fun ls hl => ?_)
                                      refine lv_goto (tgt := 160) hx hb dX5_join_216 (by decide) ?_
                                      have eL0 : (.int (feM G v n (k + 1)) : Value) = .int (feM G v n k) := (by simp [feM, c164, n164, c174, c184, n184, c189, n189, c206, n206])
                                      exact ih (k + 1) (by omega) (by omega) _ _ hP hD hS ls (by rw [eL0]; exact lv_sub hl [0, 1, 2, 3, 4] rfl)
                                    · have n206 := Int32.not_le.mp c206
                                      refine lv_iload hx hb dX5_join_209 (lv_at hl 0 rfl) ?_
                                      refine lv_istore (lv' := [(4, .int (nI k)), (5, .int (nI k)), (1, .int sm), (3, .int 1), (0, .ref (a 0))]) hx hb dX5_join_211 hl (by decide) rfl (fun ls hl => ?_)
                                      refine lv_iinc (v := nI (k + 1)) (lv' := [(5, .int (nI (k + 1))), (4, .int (nI k)), (1, .int sm), (3, .int 1), (0, .ref (a 0))]) hx hb dX5_join_213 hl (k := 1) rfl (nI_1 k) (by decide) rfl (fun ls hl => ?_)
                                      refine lv_goto (tgt := 160) hx hb dX5_join_216 (by decide) ?_
                                      have eL0 : (.int (feM G v n (k + 1)) : Value) = .int (nI k) := (by simp [feM, c164, n164, c174, c184, n184, c189, n189, c206, n206])
                                      exact ih (k + 1) (by omega) (by omega) _ _ hP hD hS ls (by rw [eL0]; exact lv_sub hl [0, 1, 2, 3, 4] rfl)
                        exact lp (10 + 1) 0 (by omega) (by omega) _ _ hP hD hS ls (lv_sub hl [0, 1, 2, 3, 4] rfl)
                exact lpw 11 _ _ (Nat.lt_of_le_of_lt (cntN_le _ 10) (by decide)) rfl _ _ hP hD hS ls (lv_sub hl [1, 0, 3] rfl)
              · have c135 := bI_0.mp c135
                refine lv_iconst (v := 0) hx hb dX5_join_138 (by decide) ?_
                exact (W.iret (v := 0) hx hb hr (fun t9 ht hW => ⟨⟨_, (v, (jkM g v n n10).2.2), rfl, ⟨(by rw [joM, if_neg (by simp [c135])]), (by rw [joM, if_neg (by simp [c135])])⟩, ⟨by rw [ht]; exact hP, va_K.moved hW.alike hK, hD⟩⟩, hS.F ht⟩) hS.2.2 dX5_join_139)
            · have n62 := Int32.not_le.mp c62
              have hk : k < 10 := Nat.lt_of_not_le (fun h => c62 (nI_le (a := 10) h (by omega)))
              refine lv_aload_n hx hb dX5_join_65 rfl (lv_at hl 3 rfl) ?_
              refine lv_iload_n hx hb dX5_join_66 rfl (lv_at hl 0 rfl) ?_
              refine lv_iconst (v := (-1)) hx hb dX5_join_67 (by decide) ?_
              refine vp_callSi (W.runV (As := [.int (nI k), .int (-1)]) (rest := []) ⟨hx, hb, hml, hown, hts⟩ (m_rowsOf l dC dI cI cZ cJ a v (jkM g v n k).2.2 n hn hn2 (nI k) (-1)) (cwV 2 hts (gd_V ml_X5_X5_rowsOf im_X5_rowsOf se_X5_rowsOf in_X5 kX5_rowsOf) rfl rfl rfl (by decide +kernel) ⟨Nat.le_of_ble_eq_true rfl, Nat.le_of_ble_eq_true rfl⟩) ⟨fun _ U g mk q => by obtain ⟨q0, qP, qK⟩ := q; exact ⟨q0, qP, va_K.moved (u := U) (U := U.calling g mk _) (Vm.Alike.refl U.vm) qK⟩, va_recv hK hP (ci := 5) (q0 := 0) rfl rfl, fun U hU hW => ⟨rfl, by rw [hU]; exact hP, va_K.moved hW.alike hK⟩⟩ rfl rfl hl.1 rfl (lv_room (Nat.le_of_ble_eq_true rfl)) dX5_join_68 ⟨Nat.le_of_ble_eq_true rfl, Nat.le_of_ble_eq_true rfl⟩) (fun r68 hr68 => ?_)
              subst hr68
              refine lv_istore (lv' := [(4, .int (cnt (fun i => fitB (jkM g v n k).2.2 i (v 3) (v 4) (-1) (nI k)) n)), (3, .int (nI k)), (1, .int (jkM g v n k).1), (2, .int (bI (jkM g v n k).2.1)), (0, .ref (a 0))]) hx hb dX5_join_71 hl (by decide) rfl (fun ls hl => ?_)
              refine lv_aload_n hx hb dX5_join_73 rfl (lv_at hl 4 rfl) ?_
              refine va_get (D := (dC, dI)) (ci := 5) (v := .ref (a 16)) (C := RX5) (T := TX5) (N := 24) hx hb hts (fun w h => List.mem_cons_of_mem _ (iw_X5 w h)) hown hK hP 0 rfl rfl 23 (by decide) (hts _ (List.mem_cons_of_mem _ fl_X5_isJoined)) (fun _ h9 => h9) rfl dX5_join_74 ?_
              refine lv_iload_n hx hb dX5_join_77 rfl (lv_at hl 1 rfl) ?_
              refine lv_iload hx hb dX5_join_78 (lv_at hl 0 rfl) ?_
              refine lv_iconst (v := 1) hx hb dX5_join_80 (by decide) ?_
              refine lv_aload_n hx hb dX5_join_81 rfl (lv_at hl 4 rfl) ?_
              refine va_get (D := (dC, dI)) (ci := 5) (v := .int (v 7)) (C := RX5) (T := TX5) (N := 24) hx hb hts (fun w h => List.mem_cons_of_mem _ (iw_X5 w h)) hown hK hP 0 rfl rfl 19 (by decide) (hts _ (List.mem_cons_of_mem _ fl_X5_least)) (fun _ h9 => h9) rfl dX5_join_82 ?_
              refine lv_iconst (v := 1) hx hb dX5_join_85 (by decide) ?_
              refine lv_isub hx hb dX5_join_86 ?_
              refine vp_callSi (W.runS (As := [.int (cnt (fun i => fitB (jkM g v n k).2.2 i (v 3) (v 4) (-1) (nI k)) n), .int 1, .int ((v 7) - 1)]) (rest := [.int (nI k), .ref (a 16)]) ⟨hx, hb, hml, hown, hts⟩ (m_in l dC dI cI cZ cJ a v (jkM g v n k).2.2 (cnt (fun i => fitB (jkM g v n k).2.2 i (v 3) (v 4) (-1) (nI k)) n) 1 ((v 7) - 1)) (cwS 3 hts (gd_S ml_X5_X5_in sm_X5_in in_X5 kX5_in) rfl rfl rfl (by decide +kernel) ⟨Nat.le_of_ble_eq_true rfl, Nat.le_of_ble_eq_true rfl⟩) ⟨fun _ U g mk q => by obtain ⟨q0, qP, qK⟩ := q; exact ⟨q0, qP, va_K.moved (u := U) (U := U.calling g mk _) (Vm.Alike.refl U.vm) qK⟩, fun U hU hW => ⟨rfl, by rw [hU]; exact hP, va_K.moved hW.alike hK⟩⟩ rfl rfl hl.1 rfl (lv_room (Nat.le_of_ble_eq_true rfl)) dX5_join_87 ⟨Nat.le_of_ble_eq_true rfl, Nat.le_of_ble_eq_true rfl⟩) (fun r87 hr87 => ?_)
              subst hr87
              refine wz_ast hx hb hK hP hD hS 16 1 rfl rfl (k := k) (bI_vn _) (by omega) (by decide) dX5_join_90 (fun H locs hP hD hS => ?_)
              have hP : va_P (dC, dI) clA (wM cI cZ a v (upg (jkM g v n k).2.2 15 k (bI (inB (cnt (fun i => fitB (jkM g v n k).2.2 i (v 3) (v 4) (-1) (nI k)) n) 1 ((v 7) - 1))))) H := hP
              have hD : va_D A (wM cI cZ a v (upg (jkM g v n k).2.2 15 k (bI (inB (cnt (fun i => fitB (jkM g v n k).2.2 i (v 3) (v 4) (-1) (nI k)) n) 1 ((v 7) - 1))))) := hD
              refine lv_iload_n hx hb dX5_join_91 rfl (lv_at hl 2 rfl) ?_
              refine lv_aload_n hx hb dX5_join_92 rfl (lv_at hl 4 rfl) ?_
              refine va_get (D := (dC, dI)) (ci := 5) (v := .ref (a 16)) (C := RX5) (T := TX5) (N := 24) hx hb hts (fun w h => List.mem_cons_of_mem _ (iw_X5 w h)) hown hK hP 0 rfl rfl 23 (by decide) (hts _ (List.mem_cons_of_mem _ fl_X5_isJoined)) (fun _ h9 => h9) rfl dX5_join_93 ?_
              refine lv_iload_n hx hb dX5_join_96 rfl (lv_at hl 1 rfl) ?_
              refine wz_ald hx hb hK hP 16 1 rfl rfl (k := k) (by omega) (by decide) dX5_join_97 ?_
              rw [upg_at]
              refine lv_if_eq (tgt := 106) hx hb dX5_join_98 (by decide) (fun c98 => ?_) (fun c98 => ?_)
              · have c98 := bI_0.mp c98
                refine lv_iconst (v := 0) hx hb dX5_join_106 (by decide) ?_
                refine lv_iadd hx hb dX5_join_107 ?_
                refine lv_istore_n (lv' := [(1, .int (((jkM g v n k).1) + 0)), (4, .int (cnt (fun i => fitB (jkM g v n k).2.2 i (v 3) (v 4) (-1) (nI k)) n)), (3, .int (nI k)), (2, .int (bI (jkM g v n k).2.1)), (0, .ref (a 0))]) hx hb dX5_join_108 rfl hl (by decide) rfl (fun ls hl => ?_)
                have jn127 : ∀ xj : Int32, xj = bI ((jkM g v n k).2.1 || inB (cnt (fun i => fitB (jkM g v n k).2.2 i (v 3) (v 4) (-1) (nI k)) n) 1 ((v 7) - 1)) → W p l e (headSpec wsX5_join ({ frames := 3, cells := 0, slots := 0, locals := 71 })).room s m ([.ref (a 0)] : List Value).toArray below meth c H locs 0 0 (MQ below (va_Qi (fun (r : Int32) (u : StA) => r = (joM g v n).1 ∧ u = (v, (joM g v n).2)) (atM dC dI cI cZ cJ a A) A) ([.ref (a 0)] : List Value).toArray s 0 0 A) (F0 m 127 ls [(.int xj)]) := by
                  intro xj ej
                  subst ej
                  refine lv_istore_n (lv' := [(2, .int (bI ((jkM g v n k).2.1 || inB (cnt (fun i => fitB (jkM g v n k).2.2 i (v 3) (v 4) (-1) (nI k)) n) 1 ((v 7) - 1)))), (1, .int (((jkM g v n k).1) + 0)), (4, .int (cnt (fun i => fitB (jkM g v n k).2.2 i (v 3) (v 4) (-1) (nI k)) n)), (3, .int (nI k)), (0, .ref (a 0))]) hx hb dX5_join_127 rfl hl (by decide) rfl (fun ls hl => ?_)
                  refine lv_iinc (v := nI (k + 1)) (lv' := [(3, .int (nI (k + 1))), (2, .int (bI ((jkM g v n k).2.1 || inB (cnt (fun i => fitB (jkM g v n k).2.2 i (v 3) (v 4) (-1) (nI k)) n) 1 ((v 7) - 1)))), (1, .int (((jkM g v n k).1) + 0)), (4, .int (cnt (fun i => fitB (jkM g v n k).2.2 i (v 3) (v 4) (-1) (nI k)) n)), (0, .ref (a 0))]) hx hb dX5_join_128 hl (k := 3) rfl (nI_1 k) (by decide) rfl (fun ls hl => ?_)
                  refine lv_goto (tgt := 59) hx hb dX5_join_131 (by decide) ?_
                  have eG : (jkM g v n (k + 1)).2.2 = (upg (jkM g v n k).2.2 15 k (bI (inB (cnt (fun i => fitB (jkM g v n k).2.2 i (v 3) (v 4) (-1) (nI k)) n) 1 ((v 7) - 1)))) := rfl
                  have eL0 : (.int (jkM g v n (k + 1)).1 : Value) = .int (((jkM g v n k).1) + 0) := (by simp [jkM, c62, n62, c98])
                  have eL1 : (.int (bI (jkM g v n (k + 1)).2.1) : Value) = .int (bI ((jkM g v n k).2.1 || inB (cnt (fun i => fitB (jkM g v n k).2.2 i (v 3) (v 4) (-1) (nI k)) n) 1 ((v 7) - 1))) := rfl
                  exact ih (k + 1) (by omega) (by omega) _ _ (by rw [eG]; exact hP) (by rw [eG]; exact hD) hS ls (by rw [eL0, eL1]; exact lv_sub hl [0, 2, 1, 4] rfl)
                refine lv_iload_n hx hb dX5_join_109 rfl (lv_at hl 3 rfl) ?_
                refine lv_if_ne (tgt := 122) hx hb dX5_join_110 (by decide) (fun c110 => ?_) (fun c110 => ?_)
                · have c110 := bI_n0.mp c110
                  refine lv_iconst (v := 1) hx hb dX5_join_122 (by decide) ?_
                  refine lv_goto (tgt := 127) hx hb dX5_join_123 (by decide) ?_
                  exact jn127 _ (by first | (simp [bI, c62, n62, c98, c110]; done) | exact absurd (c62.symm.trans c98) (by decide) | exact absurd (c62.symm.trans c110) (by decide) | exact absurd (c98.symm.trans c110) (by decide))
                · have c110 := bI_0.mp c110
                  refine lv_aload_n hx hb dX5_join_113 rfl (lv_at hl 4 rfl) ?_
                  refine va_get (D := (dC, dI)) (ci := 5) (v := .ref (a 16)) (C := RX5) (T := TX5) (N := 24) hx hb hts (fun w h => List.mem_cons_of_mem _ (iw_X5 w h)) hown hK hP 0 rfl rfl 23 (by decide) (hts _ (List.mem_cons_of_mem _ fl_X5_isJoined)) (fun _ h9 => h9) rfl dX5_join_114 ?_
                  refine lv_iload_n hx hb dX5_join_117 rfl (lv_at hl 2 rfl) ?_
                  refine wz_ald hx hb hK hP 16 1 rfl rfl (k := k) (by omega) (by decide) dX5_join_118 ?_
                  rw [upg_at]
                  refine lv_if_eq (tgt := 126) hx hb dX5_join_119 (by decide) (fun c119 => ?_) (fun c119 => ?_)
                  · refine lv_iconst (v := 0) hx hb dX5_join_126 (by decide) ?_
                    exact jn127 _ (by first | (simp [bI, c62, n62, c98, c110]; done) | exact absurd (c62.symm.trans c98) (by decide) | exact absurd (c62.symm.trans c110) (by decide) | exact absurd (c98.symm.trans c110) (by decide))
                  · exact absurd (c98.symm.trans (bI_n0.mp c119)) (by decide)
              · have c98 := bI_n0.mp c98
                refine lv_iload hx hb dX5_join_101 (lv_at hl 0 rfl) ?_
                refine lv_goto (tgt := 107) hx hb dX5_join_103 (by decide) ?_
                refine lv_iadd hx hb dX5_join_107 ?_
                refine lv_istore_n (lv' := [(1, .int (((jkM g v n k).1) + (cnt (fun i => fitB (jkM g v n k).2.2 i (v 3) (v 4) (-1) (nI k)) n))), (4, .int (cnt (fun i => fitB (jkM g v n k).2.2 i (v 3) (v 4) (-1) (nI k)) n)), (3, .int (nI k)), (2, .int (bI (jkM g v n k).2.1)), (0, .ref (a 0))]) hx hb dX5_join_108 rfl hl (by decide) rfl (fun ls hl => ?_)
                have jn127 : ∀ xj : Int32, xj = bI ((jkM g v n k).2.1 || inB (cnt (fun i => fitB (jkM g v n k).2.2 i (v 3) (v 4) (-1) (nI k)) n) 1 ((v 7) - 1)) → W p l e (headSpec wsX5_join ({ frames := 3, cells := 0, slots := 0, locals := 71 })).room s m ([.ref (a 0)] : List Value).toArray below meth c H locs 0 0 (MQ below (va_Qi (fun (r : Int32) (u : StA) => r = (joM g v n).1 ∧ u = (v, (joM g v n).2)) (atM dC dI cI cZ cJ a A) A) ([.ref (a 0)] : List Value).toArray s 0 0 A) (F0 m 127 ls [(.int xj)]) := by
                  intro xj ej
                  subst ej
                  refine lv_istore_n (lv' := [(2, .int (bI ((jkM g v n k).2.1 || inB (cnt (fun i => fitB (jkM g v n k).2.2 i (v 3) (v 4) (-1) (nI k)) n) 1 ((v 7) - 1)))), (1, .int (((jkM g v n k).1) + (cnt (fun i => fitB (jkM g v n k).2.2 i (v 3) (v 4) (-1) (nI k)) n))), (4, .int (cnt (fun i => fitB (jkM g v n k).2.2 i (v 3) (v 4) (-1) (nI k)) n)), (3, .int (nI k)), (0, .ref (a 0))]) hx hb dX5_join_127 rfl hl (by decide) rfl (fun ls hl => ?_)
                  refine lv_iinc (v := nI (k + 1)) (lv' := [(3, .int (nI (k + 1))), (2, .int (bI ((jkM g v n k).2.1 || inB (cnt (fun i => fitB (jkM g v n k).2.2 i (v 3) (v 4) (-1) (nI k)) n) 1 ((v 7) - 1)))), (1, .int (((jkM g v n k).1) + (cnt (fun i => fitB (jkM g v n k).2.2 i (v 3) (v 4) (-1) (nI k)) n))), (4, .int (cnt (fun i => fitB (jkM g v n k).2.2 i (v 3) (v 4) (-1) (nI k)) n)), (0, .ref (a 0))]) hx hb dX5_join_128 hl (k := 3) rfl (nI_1 k) (by decide) rfl (fun ls hl => ?_)
                  refine lv_goto (tgt := 59) hx hb dX5_join_131 (by decide) ?_
                  have eG : (jkM g v n (k + 1)).2.2 = (upg (jkM g v n k).2.2 15 k (bI (inB (cnt (fun i => fitB (jkM g v n k).2.2 i (v 3) (v 4) (-1) (nI k)) n) 1 ((v 7) - 1)))) := rfl
                  have eL0 : (.int (jkM g v n (k + 1)).1 : Value) = .int (((jkM g v n k).1) + (cnt (fun i => fitB (jkM g v n k).2.2 i (v 3) (v 4) (-1) (nI k)) n)) := (by simp [jkM, c62, n62, c98])
                  have eL1 : (.int (bI (jkM g v n (k + 1)).2.1) : Value) = .int (bI ((jkM g v n k).2.1 || inB (cnt (fun i => fitB (jkM g v n k).2.2 i (v 3) (v 4) (-1) (nI k)) n) 1 ((v 7) - 1))) := rfl
                  exact ih (k + 1) (by omega) (by omega) _ _ (by rw [eG]; exact hP) (by rw [eG]; exact hD) hS ls (by rw [eL0, eL1]; exact lv_sub hl [0, 2, 1, 4] rfl)
                refine lv_iload_n hx hb dX5_join_109 rfl (lv_at hl 3 rfl) ?_
                refine lv_if_ne (tgt := 122) hx hb dX5_join_110 (by decide) (fun c110 => ?_) (fun c110 => ?_)
                · have c110 := bI_n0.mp c110
                  refine lv_iconst (v := 1) hx hb dX5_join_122 (by decide) ?_
                  refine lv_goto (tgt := 127) hx hb dX5_join_123 (by decide) ?_
                  exact jn127 _ (by first | (simp [bI, c62, n62, c98, c110]; done) | exact absurd (c62.symm.trans c98) (by decide) | exact absurd (c62.symm.trans c110) (by decide) | exact absurd (c98.symm.trans c110) (by decide))
                · have c110 := bI_0.mp c110
                  refine lv_aload_n hx hb dX5_join_113 rfl (lv_at hl 4 rfl) ?_
                  refine va_get (D := (dC, dI)) (ci := 5) (v := .ref (a 16)) (C := RX5) (T := TX5) (N := 24) hx hb hts (fun w h => List.mem_cons_of_mem _ (iw_X5 w h)) hown hK hP 0 rfl rfl 23 (by decide) (hts _ (List.mem_cons_of_mem _ fl_X5_isJoined)) (fun _ h9 => h9) rfl dX5_join_114 ?_
                  refine lv_iload_n hx hb dX5_join_117 rfl (lv_at hl 2 rfl) ?_
                  refine wz_ald hx hb hK hP 16 1 rfl rfl (k := k) (by omega) (by decide) dX5_join_118 ?_
                  rw [upg_at]
                  refine lv_if_eq (tgt := 126) hx hb dX5_join_119 (by decide) (fun c119 => ?_) (fun c119 => ?_)
                  · exact absurd (c98.symm.trans (bI_0.mp c119)) (by decide)
                  · refine lv_iconst (v := 1) hx hb dX5_join_122 (by decide) ?_
                    refine lv_goto (tgt := 127) hx hb dX5_join_123 (by decide) ?_
                    exact jn127 _ (by first | (simp [bI, c62, n62, c98, c110]; done) | exact absurd (c62.symm.trans c98) (by decide) | exact absurd (c62.symm.trans c110) (by decide) | exact absurd (c98.symm.trans c110) (by decide))
        exact lp (10 + 1) 0 (by omega) (by omega) _ _ hP hD hS ls (lv_sub hl [0, 1, 2, 3] rfl)
      · have n11 := Int32.not_le.mp c11
        rw [hn] at c11
        have hk : k < n := Nat.lt_of_not_le (fun h => c11 (nI_le h (by omega)))
        refine lv_iload_n hx hb dX5_join_14 rfl (lv_at hl 1 rfl) ?_
        refine lv_aload_n hx hb dX5_join_15 rfl (lv_at hl 3 rfl) ?_
        refine va_get (D := (dC, dI)) (ci := 5) (v := .ref (a 7)) (C := RX5) (T := TX5) (N := 24) hx hb hts (fun w h => List.mem_cons_of_mem _ (iw_X5 w h)) hown hK hP 0 rfl rfl 8 (by decide) (hts _ (List.mem_cons_of_mem _ fl_X5_hidden)) (fun _ h9 => h9) rfl dX5_join_16 ?_
        refine lv_iload_n hx hb dX5_join_19 rfl (lv_at hl 0 rfl) ?_
        refine wz_ald hx hb hK hP 7 1 rfl rfl (k := k) (by omega) (by decide) dX5_join_20 ?_
        refine lv_if_eq (tgt := 48) hx hb dX5_join_21 (by decide) (fun c21 => ?_) (fun c21 => ?_)
        · refine lv_iconst (v := 0) hx hb dX5_join_48 (by decide) ?_
          refine lv_iadd hx hb dX5_join_49 ?_
          refine lv_istore_n (lv' := [(1, .int ((cnt (fun i => decide (¬ g 6 i = 0) && inB (g 0 i) (v 3) (v 4)) k) + 0)), (3, .int (nI k)), (2, .int 0), (0, .ref (a 0))]) hx hb dX5_join_50 rfl hl (by decide) rfl (fun ls hl => ?_)
          refine lv_iinc (v := nI (k + 1)) (lv' := [(3, .int (nI (k + 1))), (1, .int ((cnt (fun i => decide (¬ g 6 i = 0) && inB (g 0 i) (v 3) (v 4)) k) + 0)), (2, .int 0), (0, .ref (a 0))]) hx hb dX5_join_51 hl (k := 1) rfl (nI_1 k) (by decide) rfl (fun ls hl => ?_)
          refine lv_goto (tgt := 6) hx hb dX5_join_54 (by decide) ?_
          have eL0 : (.int (cnt (fun i => decide (¬ g 6 i = 0) && inB (g 0 i) (v 3) (v 4)) (k + 1)) : Value) = .int ((cnt (fun i => decide (¬ g 6 i = 0) && inB (g 0 i) (v 3) (v 4)) k) + 0) := (by simp [cnt_s, bI, c11, n11, c21])
          exact ih (k + 1) (by omega) (by omega) _ _ hP hD hS ls (by rw [eL0]; exact lv_sub hl [0, 1, 2, 3] rfl)
        · refine lv_aload_n hx hb dX5_join_24 rfl (lv_at hl 3 rfl) ?_
          refine va_get (D := (dC, dI)) (ci := 5) (v := .ref (a 1)) (C := RX5) (T := TX5) (N := 24) hx hb hts (fun w h => List.mem_cons_of_mem _ (iw_X5 w h)) hown hK hP 0 rfl rfl 2 (by decide) (hts _ (List.mem_cons_of_mem _ fl_X5_day)) (fun _ h9 => h9) rfl dX5_join_25 ?_
          refine lv_iload_n hx hb dX5_join_28 rfl (lv_at hl 0 rfl) ?_
          refine wi_ald hx hb hK hP 1 0 rfl rfl (k := k) (by omega) (by decide) dX5_join_29 ?_
          refine lv_aload_n hx hb dX5_join_30 rfl (lv_at hl 3 rfl) ?_
          refine va_get (D := (dC, dI)) (ci := 5) (v := .int (v 3)) (C := RX5) (T := TX5) (N := 24) hx hb hts (fun w h => List.mem_cons_of_mem _ (iw_X5 w h)) hown hK hP 0 rfl rfl 14 (by decide) (hts _ (List.mem_cons_of_mem _ fl_X5_from)) (fun _ h9 => h9) rfl dX5_join_31 ?_
          refine lv_aload_n hx hb dX5_join_34 rfl (lv_at hl 3 rfl) ?_
          refine va_get (D := (dC, dI)) (ci := 5) (v := .int (v 4)) (C := RX5) (T := TX5) (N := 24) hx hb hts (fun w h => List.mem_cons_of_mem _ (iw_X5 w h)) hown hK hP 0 rfl rfl 15 (by decide) (hts _ (List.mem_cons_of_mem _ fl_X5_to)) (fun _ h9 => h9) rfl dX5_join_35 ?_
          refine vp_callSi (W.runS (As := [.int (g 0 k), .int (v 3), .int (v 4)]) (rest := [.int (cnt (fun i => decide (¬ g 6 i = 0) && inB (g 0 i) (v 3) (v 4)) k)]) ⟨hx, hb, hml, hown, hts⟩ (m_in l dC dI cI cZ cJ a v g (g 0 k) (v 3) (v 4)) (cwS 3 hts (gd_S ml_X5_X5_in sm_X5_in in_X5 kX5_in) rfl rfl rfl (by decide +kernel) ⟨Nat.le_of_ble_eq_true rfl, Nat.le_of_ble_eq_true rfl⟩) ⟨fun _ U g mk q => by obtain ⟨q0, qP, qK⟩ := q; exact ⟨q0, qP, va_K.moved (u := U) (U := U.calling g mk _) (Vm.Alike.refl U.vm) qK⟩, fun U hU hW => ⟨rfl, by rw [hU]; exact hP, va_K.moved hW.alike hK⟩⟩ rfl rfl hl.1 rfl (lv_room (Nat.le_of_ble_eq_true rfl)) dX5_join_38 ⟨Nat.le_of_ble_eq_true rfl, Nat.le_of_ble_eq_true rfl⟩) (fun r38 hr38 => ?_)
          subst hr38
          refine lv_if_eq (tgt := 48) hx hb dX5_join_41 (by decide) (fun c41 => ?_) (fun c41 => ?_)
          · have c41 := bI_0.mp c41
            refine lv_iconst (v := 0) hx hb dX5_join_48 (by decide) ?_
            refine lv_iadd hx hb dX5_join_49 ?_
            refine lv_istore_n (lv' := [(1, .int ((cnt (fun i => decide (¬ g 6 i = 0) && inB (g 0 i) (v 3) (v 4)) k) + 0)), (3, .int (nI k)), (2, .int 0), (0, .ref (a 0))]) hx hb dX5_join_50 rfl hl (by decide) rfl (fun ls hl => ?_)
            refine lv_iinc (v := nI (k + 1)) (lv' := [(3, .int (nI (k + 1))), (1, .int ((cnt (fun i => decide (¬ g 6 i = 0) && inB (g 0 i) (v 3) (v 4)) k) + 0)), (2, .int 0), (0, .ref (a 0))]) hx hb dX5_join_51 hl (k := 1) rfl (nI_1 k) (by decide) rfl (fun ls hl => ?_)
            refine lv_goto (tgt := 6) hx hb dX5_join_54 (by decide) ?_
            have eL0 : (.int (cnt (fun i => decide (¬ g 6 i = 0) && inB (g 0 i) (v 3) (v 4)) (k + 1)) : Value) = .int ((cnt (fun i => decide (¬ g 6 i = 0) && inB (g 0 i) (v 3) (v 4)) k) + 0) := (by simp [cnt_s, bI, c11, n11, c21, c41])
            exact ih (k + 1) (by omega) (by omega) _ _ hP hD hS ls (by rw [eL0]; exact lv_sub hl [0, 1, 2, 3] rfl)
          · have c41 := bI_n0.mp c41
            refine lv_iconst (v := 1) hx hb dX5_join_44 (by decide) ?_
            refine lv_goto (tgt := 49) hx hb dX5_join_45 (by decide) ?_
            refine lv_iadd hx hb dX5_join_49 ?_
            refine lv_istore_n (lv' := [(1, .int ((cnt (fun i => decide (¬ g 6 i = 0) && inB (g 0 i) (v 3) (v 4)) k) + 1)), (3, .int (nI k)), (2, .int 0), (0, .ref (a 0))]) hx hb dX5_join_50 rfl hl (by decide) rfl (fun ls hl => ?_)
            refine lv_iinc (v := nI (k + 1)) (lv' := [(3, .int (nI (k + 1))), (1, .int ((cnt (fun i => decide (¬ g 6 i = 0) && inB (g 0 i) (v 3) (v 4)) k) + 1)), (2, .int 0), (0, .ref (a 0))]) hx hb dX5_join_51 hl (k := 1) rfl (nI_1 k) (by decide) rfl (fun ls hl => ?_)
            refine lv_goto (tgt := 6) hx hb dX5_join_54 (by decide) ?_
            have eL0 : (.int (cnt (fun i => decide (¬ g 6 i = 0) && inB (g 0 i) (v 3) (v 4)) (k + 1)) : Value) = .int ((cnt (fun i => decide (¬ g 6 i = 0) && inB (g 0 i) (v 3) (v 4)) k) + 1) := (by simp [cnt_s, bI, c11, n11, c21, c41])
            exact ih (k + 1) (by omega) (by omega) _ _ hP hD hS ls (by rw [eL0]; exact lv_sub hl [0, 1, 2, 3] rfl)
  exact lp (n + 1) 0 (by omega) (by omega) _ _ hP hD hS ls (lv_sub hl [0, 2, 1, 3] rfl)
set_option maxHeartbeats 4000000 in
set_option maxRecDepth 100000 in
theorem m_shown (l : Launch) (dC : Nat → ClassId) (dI : Nat → Nat → Nat) (cI cZ cJ : ClassId) (a : Nat → Nat) (v : Nat → Int32) (g : Nat → Nat → Int32) (sz : Nat) (n : Nat) (hn : v 1 = nI n) (hn2 : n ≤ 200) (ar : Int32) : Met l yX5_shown wsX5_shown ({ frames := 4, cells := 0, slots := 0, locals := 96 }) (va_Pc [.ref (a 0), .int ar] (fun U => U.heap.size = sz ∧ va_P (dC, dI) clA (wM cI cZ a v g) U.heap ∧ va_K (dC, dI) clA (tyA cI cZ cJ) U ∧ va_D (fun _ => True) (wM cI cZ a v g))) (va_Qi (fun (r : Int32) (u : StA) => r = (if 0 < thI (bI (!(inB ar 0 9))) 0 0 then 0 else (if (joM g (upd v 0 (thI (bI (!(inB ar 0 9))) 0 0)) n).2 15 ar.toNatClampNeg = 0 then cnt (fun i => fitB (joM g (upd v 0 (thI (bI (!(inB ar 0 9))) 0 0)) n).2 i (v 3) (v 4) (-1) ar) n else -1)) ∧ u = (upd v 0 (thI (bI (!(inB ar 0 9))) 0 0), if 0 < thI (bI (!(inB ar 0 9))) 0 0 then g else (joM g (upd v 0 (thI (bI (!(inB ar 0 9))) 0 0)) n).2)) (atM dC dI cI cZ cJ a (va_A (wM cI cZ a v g) sz)) (va_A (wM cI cZ a v g) sz))  0 0 (va_A (wM cI cZ a v g) sz) := by
  refine Met.ofW (cc := cX5_shown) (maxL := 2) (ret := (some .int)) (by decide) rfl ?_
  intro p e s m args below meth c s₁ B hml hv
  obtain ⟨rfl, hsz, hP, hK, hD0⟩ := hv
  have hx := B.exec
  have hb := B.bytes
  have hr := B.returns
  have hts := atoms_spec (ws := wsX5_shown) B.pre
  have hown : s.vm.findClass RX5 = some m.cls := findClass_of_methodNamed B.named
  have hlocks := B.notSynchronized
  subst hsz
  have hD := hD0.self (sz := s.heap.size)
  generalize hAe : va_A (wM cI cZ a v g) s.heap.size = A at hD ⊢
  have hA : ∀ q : Nat, s.heap.size ≤ q → A q := fun q h => by rw [← hAe]; exact Or.inr h
  have hS : va_S A s.heap s.heap [] := va_S.rf
  have hP : va_P (dC, dI) clA (wM cI cZ a v g) s.heap := hP
  have hl := lv_entry ([.ref (a 0), .int ar]) (n := 2) (Nat.le_of_ble_eq_true rfl)
  rw [lg_entry_eq]
  generalize (lg_sl ([.ref (a 0), .int ar]) ++ List.replicate (2 - (lg_sl ([.ref (a 0), .int ar])).length) Slot.unset).toArray = ls at hl ⊢
  have hl : lv_has ls 2 [(0, .ref (a 0)), (1, .int ar)] := hl
  refine lv_aload_n hx hb dX5_shown_0 rfl (lv_at hl 0 rfl) ?_
  have jn16 : ∀ xj : Int32, xj = bI (!(inB ar 0 9)) → W p l e (headSpec wsX5_shown ({ frames := 4, cells := 0, slots := 0, locals := 96 })).room s m ([.ref (a 0), .int ar] : List Value).toArray below meth c s.heap [] 0 0 (MQ below (va_Qi (fun (r : Int32) (u : StA) => r = (if 0 < thI (bI (!(inB ar 0 9))) 0 0 then 0 else (if (joM g (upd v 0 (thI (bI (!(inB ar 0 9))) 0 0)) n).2 15 ar.toNatClampNeg = 0 then cnt (fun i => fitB (joM g (upd v 0 (thI (bI (!(inB ar 0 9))) 0 0)) n).2 i (v 3) (v 4) (-1) ar) n else -1)) ∧ u = (upd v 0 (thI (bI (!(inB ar 0 9))) 0 0), if 0 < thI (bI (!(inB ar 0 9))) 0 0 then g else (joM g (upd v 0 (thI (bI (!(inB ar 0 9))) 0 0)) n).2)) (atM dC dI cI cZ cJ a A) A) ([.ref (a 0), .int ar] : List Value).toArray s 0 0 A) (F0 m 16 ls [(.int xj), .ref (a 0)]) := by
    intro xj ej
    subst ej
    refine lv_iconst (v := 0) hx hb dX5_shown_16 (by decide) ?_
    refine lv_iconst (v := 0) hx hb dX5_shown_17 (by decide) ?_
    have hFc := va_free (wc := (wM cI cZ a v g)) hD hS hA [0, 1, 2, 3, 4, 5, 6, 7, 8, 9, 10, 11, 12, 13, 14, 15, 16] rfl
    refine va_calli (va_runV (As := [.int (bI (!(inB ar 0 9))), .int 0, .int 0]) (rest := []) ⟨hx, hb, hml, hown, hts⟩ (m_throwing l dC dI cI cZ cJ a v g s.heap.size (bI (!(inB ar 0 9))) 0 0) (cwV 3 hts (gd_V ml_X5_X5_throwing im_X5_throwing se_X5_throwing in_X5 kX5_throwing) rfl rfl rfl (by decide +kernel) ⟨Nat.le_of_ble_eq_true rfl, Nat.le_of_ble_eq_true rfl⟩) ⟨fun _ U g mk q => by obtain ⟨q0, q1, qP, qK, qD⟩ := q; exact ⟨q0, q1, qP, va_K.moved (u := U) (U := U.calling g mk _) (Vm.Alike.refl U.vm) qK, qD⟩, va_recv hK hP (ci := 5) (q0 := 0) rfl rfl, fun U hU hW => ⟨rfl, by rw [hU], by rw [hU]; exact hP, va_K.moved hW.alike hK, hD.weaken (fun _ _ _ _ => trivial)⟩⟩ rfl rfl hl.1 rfl (lv_room (Nat.le_of_ble_eq_true rfl)) dX5_shown_18 ⟨Nat.le_of_ble_eq_true rfl, Nat.le_of_ble_eq_true rfl⟩) hS (fun q _ h => hFc q h) hFc (fun r18 u9 t9 H1 locs ht hvm hw hB hz1 hk1 hS => ?_)
    obtain ⟨rfl, rfl⟩ := hw
    obtain ⟨hP, hK1, hD1⟩ := hB
    rw [ht] at hP
    have hD := hD1.weaken (fun k q _ h => hFc q.1 h)
    clear hFc hk1 hD1 hK1
    generalize H1 = H at hP hS ⊢
    have hP : va_P (dC, dI) clA (wM cI cZ a (upd v 0 (thI (bI (!(inB ar 0 9))) 0 0)) g) H := hP
    have hD : va_D A (wM cI cZ a (upd v 0 (thI (bI (!(inB ar 0 9))) 0 0)) g) := hD
    refine lv_if_eq (tgt := 26) hx hb dX5_shown_21 (by decide) (fun c21 => ?_) (fun c21 => ?_)
    · have c21 := bI_0.mp c21
      have hkw : ar = nI ar.toNatClampNeg ∧ ar.toNatClampNeg < 10 := by
        have h := (th1 c21)
        rw [Bool.not_eq_false'] at h
        obtain ⟨k, h1, rfl⟩ := inB_natL (n := 9) (by decide) h
        rw [nI_clamp (by omega)]; exact ⟨rfl, h1⟩
      obtain ⟨hkw, hkw2⟩ := hkw
      refine lv_aload_n hx hb dX5_shown_26 rfl (lv_at hl 0 rfl) ?_
      have hFc := va_free (wc := (wM cI cZ a (upd v 0 (thI (bI (!(inB ar 0 9))) 0 0)) g)) hD hS hA [0, 1, 2, 3, 4, 5, 6, 7, 8, 9, 10, 11, 12, 13, 14, 15, 16] rfl
      refine va_calli (va_runV (As := []) (rest := []) ⟨hx, hb, hml, hown, hts⟩ (m_join l dC dI cI cZ cJ a (upd v 0 (thI (bI (!(inB ar 0 9))) 0 0)) g H.size n hn hn2) (cwV 0 hts (gd_V ml_X5_X5_join im_X5_join se_X5_join in_X5 kX5_join) rfl rfl rfl (by decide +kernel) ⟨Nat.le_of_ble_eq_true rfl, Nat.le_of_ble_eq_true rfl⟩) ⟨fun _ U g mk q => by obtain ⟨q0, q1, qP, qK, qD⟩ := q; exact ⟨q0, q1, qP, va_K.moved (u := U) (U := U.calling g mk _) (Vm.Alike.refl U.vm) qK, qD⟩, va_recv hK hP (ci := 5) (q0 := 0) rfl rfl, fun U hU hW => ⟨rfl, by rw [hU], by rw [hU]; exact hP, va_K.moved hW.alike hK, hD.weaken (fun _ _ _ _ => trivial)⟩⟩ rfl rfl hl.1 rfl (lv_room (Nat.le_of_ble_eq_true rfl)) dX5_shown_27 ⟨Nat.le_of_ble_eq_true rfl, Nat.le_of_ble_eq_true rfl⟩) hS (fun q _ h => hFc q h) hFc (fun r27 u9 t9 H1 locs ht hvm hw hB hz1 hk1 hS => ?_)
      obtain ⟨rfl, rfl⟩ := hw
      obtain ⟨hP, hK1, hD1⟩ := hB
      rw [ht] at hP
      have hD := hD1.weaken (fun k q _ h => hFc q.1 h)
      clear hFc hk1 hD1 hK1
      generalize H1 = H at hP hS ⊢
      have hP : va_P (dC, dI) clA (wM cI cZ a (upd v 0 (thI (bI (!(inB ar 0 9))) 0 0)) (joM g (upd v 0 (thI (bI (!(inB ar 0 9))) 0 0)) n).2) H := hP
      have hD : va_D A (wM cI cZ a (upd v 0 (thI (bI (!(inB ar 0 9))) 0 0)) (joM g (upd v 0 (thI (bI (!(inB ar 0 9))) 0 0)) n).2) := hD
      refine lv_pop hx hb dX5_shown_30 rfl ?_
      refine lv_aload_n hx hb dX5_shown_31 rfl (lv_at hl 0 rfl) ?_
      refine va_get (D := (dC, dI)) (ci := 5) (v := .ref (a 16)) (C := RX5) (T := TX5) (N := 24) hx hb hts (fun w h => List.mem_cons_of_mem _ (iw_X5 w h)) hown hK hP 0 rfl rfl 23 (by decide) (hts _ (List.mem_cons_of_mem _ fl_X5_isJoined)) (fun _ h9 => h9) rfl dX5_shown_32 ?_
      refine lv_iload_n hx hb dX5_shown_35 rfl (lv_at hl 1 rfl) ?_
      refine wz_aldE hx hb hK hP 16 1 rfl rfl (k := ar.toNatClampNeg) hkw (by omega) (by decide) dX5_shown_36 ?_
      refine lv_if_eq (tgt := 44) hx hb dX5_shown_37 (by decide) (fun c37 => ?_) (fun c37 => ?_)
      · refine lv_aload_n hx hb dX5_shown_44 rfl (lv_at hl 0 rfl) ?_
        refine lv_iload_n hx hb dX5_shown_45 rfl (lv_at hl 1 rfl) ?_
        refine lv_iconst (v := (-1)) hx hb dX5_shown_46 (by decide) ?_
        refine vp_callSi (W.runV (As := [.int ar, .int (-1)]) (rest := []) ⟨hx, hb, hml, hown, hts⟩ (m_rowsOf l dC dI cI cZ cJ a (upd v 0 (thI (bI (!(inB ar 0 9))) 0 0)) (joM g (upd v 0 (thI (bI (!(inB ar 0 9))) 0 0)) n).2 n hn hn2 ar (-1)) (cwV 2 hts (gd_V ml_X5_X5_rowsOf im_X5_rowsOf se_X5_rowsOf in_X5 kX5_rowsOf) rfl rfl rfl (by decide +kernel) ⟨Nat.le_of_ble_eq_true rfl, Nat.le_of_ble_eq_true rfl⟩) ⟨fun _ U g mk q => by obtain ⟨q0, qP, qK⟩ := q; exact ⟨q0, qP, va_K.moved (u := U) (U := U.calling g mk _) (Vm.Alike.refl U.vm) qK⟩, va_recv hK hP (ci := 5) (q0 := 0) rfl rfl, fun U hU hW => ⟨rfl, by rw [hU]; exact hP, va_K.moved hW.alike hK⟩⟩ rfl rfl hl.1 rfl (lv_room (Nat.le_of_ble_eq_true rfl)) dX5_shown_47 ⟨Nat.le_of_ble_eq_true rfl, Nat.le_of_ble_eq_true rfl⟩) (fun r47 hr47 => ?_)
        replace hr47 : r47 = cnt (fun i => fitB (joM g (upd v 0 (thI (bI (!(inB ar 0 9))) 0 0)) n).2 i (v 3) (v 4) (-1) ar) n := hr47
        subst hr47
        exact (W.iret (v := cnt (fun i => fitB (joM g (upd v 0 (thI (bI (!(inB ar 0 9))) 0 0)) n).2 i (v 3) (v 4) (-1) ar) n) hx hb hr (fun t9 ht hW => ⟨⟨_, ((upd v 0 (thI (bI (!(inB ar 0 9))) 0 0)), (joM g (upd v 0 (thI (bI (!(inB ar 0 9))) 0 0)) n).2), rfl, ⟨(by first | rfl | (simp only [if_neg (of_decide_eq_false c21)]; done) | (simp only [if_neg (of_decide_eq_false c21)]; simp [c21, c37])), (by first | rfl | (simp only [if_neg (of_decide_eq_false c21)]; done) | (simp only [if_neg (of_decide_eq_false c21)]; simp [c21, c37]))⟩, ⟨by rw [ht]; exact hP, va_K.moved hW.alike hK, hD⟩⟩, hS.F ht⟩) hS.2.2 dX5_shown_50)
      · refine lv_iconst (v := (-1)) hx hb dX5_shown_40 (by decide) ?_
        refine lv_goto (tgt := 50) hx hb dX5_shown_41 (by decide) ?_
        exact (W.iret (v := -1) hx hb hr (fun t9 ht hW => ⟨⟨_, ((upd v 0 (thI (bI (!(inB ar 0 9))) 0 0)), (joM g (upd v 0 (thI (bI (!(inB ar 0 9))) 0 0)) n).2), rfl, ⟨(by first | rfl | (simp only [if_neg (of_decide_eq_false c21)]; done) | (simp only [if_neg (of_decide_eq_false c21)]; simp [c21, c37])), (by first | rfl | (simp only [if_neg (of_decide_eq_false c21)]; done) | (simp only [if_neg (of_decide_eq_false c21)]; simp [c21, c37]))⟩, ⟨by rw [ht]; exact hP, va_K.moved hW.alike hK, hD⟩⟩, hS.F ht⟩) hS.2.2 dX5_shown_50)
    · have c21 := bI_n0.mp c21
      refine lv_iconst (v := 0) hx hb dX5_shown_24 (by decide) ?_
      exact (W.iret (v := 0) hx hb hr (fun t9 ht hW => ⟨⟨_, ((upd v 0 (thI (bI (!(inB ar 0 9))) 0 0)), g), rfl, ⟨(by first | rfl | (simp only [if_pos (of_decide_eq_true c21)]; done) | (simp only [if_pos (of_decide_eq_true c21)]; simp [c21])), (by first | rfl | (simp only [if_pos (of_decide_eq_true c21)]; done) | (simp only [if_pos (of_decide_eq_true c21)]; simp [c21]))⟩, ⟨by rw [ht]; exact hP, va_K.moved hW.alike hK, hD⟩⟩, hS.F ht⟩) hS.2.2 dX5_shown_25)
  refine lv_iload_n hx hb dX5_shown_1 rfl (lv_at hl 1 rfl) ?_
  refine lv_iconst (v := 0) hx hb dX5_shown_2 (by decide) ?_
  refine lv_bipush (v := 9) hx hb dX5_shown_3 (by decide) ?_
  refine vp_callSi (W.runS (As := [.int ar, .int 0, .int 9]) (rest := [.ref (a 0)]) ⟨hx, hb, hml, hown, hts⟩ (m_in l dC dI cI cZ cJ a v g ar 0 9) (cwS 3 hts (gd_S ml_X5_X5_in sm_X5_in in_X5 kX5_in) rfl rfl rfl (by decide +kernel) ⟨Nat.le_of_ble_eq_true rfl, Nat.le_of_ble_eq_true rfl⟩) ⟨fun _ U g mk q => by obtain ⟨q0, qP, qK⟩ := q; exact ⟨q0, qP, va_K.moved (u := U) (U := U.calling g mk _) (Vm.Alike.refl U.vm) qK⟩, fun U hU hW => ⟨rfl, by rw [hU]; exact hP, va_K.moved hW.alike hK⟩⟩ rfl rfl hl.1 rfl (lv_room (Nat.le_of_ble_eq_true rfl)) dX5_shown_5 ⟨Nat.le_of_ble_eq_true rfl, Nat.le_of_ble_eq_true rfl⟩) (fun r5 hr5 => ?_)
  subst hr5
  refine lv_if_ne (tgt := 15) hx hb dX5_shown_8 (by decide) (fun c8 => ?_) (fun c8 => ?_)
  · have c8 := bI_n0.mp c8
    refine lv_iconst (v := 0) hx hb dX5_shown_15 (by decide) ?_
    exact jn16 _ (by first | (simp [bI, c8]; done))
  · have c8 := bI_0.mp c8
    refine lv_iconst (v := 1) hx hb dX5_shown_11 (by decide) ?_
    refine lv_goto (tgt := 16) hx hb dX5_shown_12 (by decide) ?_
    exact jn16 _ (by first | (simp [bI, c8]; done))
set_option maxHeartbeats 4000000 in
set_option maxRecDepth 100000 in
theorem m_joined (l : Launch) (dC : Nat → ClassId) (dI : Nat → Nat → Nat) (cI cZ cJ : ClassId) (a : Nat → Nat) (v : Nat → Int32) (g : Nat → Nat → Int32) (sz : Nat) (n : Nat) (hn : v 1 = nI n) (hn2 : n ≤ 200) : Met l yX5_joined wsX5_joined ({ frames := 4, cells := 0, slots := 0, locals := 96 }) (va_Pc [.ref (a 0)] (fun U => U.heap.size = sz ∧ va_P (dC, dI) clA (wM cI cZ a v g) U.heap ∧ va_K (dC, dI) clA (tyA cI cZ cJ) U ∧ va_D (fun _ => True) (wM cI cZ a v g))) (va_Qi (fun (r : Int32) (u : StA) => r = (joM g (upd v 0 0) n).1 ∧ u = (upd v 0 0, (joM g (upd v 0 0) n).2)) (atM dC dI cI cZ cJ a (va_A (wM cI cZ a v g) sz)) (va_A (wM cI cZ a v g) sz))  0 0 (va_A (wM cI cZ a v g) sz) := by
  refine Met.ofW (cc := cX5_joined) (maxL := 1) (ret := (some .int)) (by decide) rfl ?_
  intro p e s m args below meth c s₁ B hml hv
  obtain ⟨rfl, hsz, hP, hK, hD0⟩ := hv
  have hx := B.exec
  have hb := B.bytes
  have hr := B.returns
  have hts := atoms_spec (ws := wsX5_joined) B.pre
  have hown : s.vm.findClass RX5 = some m.cls := findClass_of_methodNamed B.named
  have hlocks := B.notSynchronized
  subst hsz
  have hD := hD0.self (sz := s.heap.size)
  generalize hAe : va_A (wM cI cZ a v g) s.heap.size = A at hD ⊢
  have hA : ∀ q : Nat, s.heap.size ≤ q → A q := fun q h => by rw [← hAe]; exact Or.inr h
  have hS : va_S A s.heap s.heap [] := va_S.rf
  have hP : va_P (dC, dI) clA (wM cI cZ a v g) s.heap := hP
  have hl := lv_entry ([.ref (a 0)]) (n := 1) (Nat.le_of_ble_eq_true rfl)
  rw [lg_entry_eq]
  generalize (lg_sl ([.ref (a 0)]) ++ List.replicate (1 - (lg_sl ([.ref (a 0)])).length) Slot.unset).toArray = ls at hl ⊢
  have hl : lv_has ls 1 [(0, .ref (a 0))] := hl
  refine lv_aload_n hx hb dX5_joined_0 rfl (lv_at hl 0 rfl) ?_
  refine lv_iconst (v := 0) hx hb dX5_joined_1 (by decide) ?_
  refine va_put (D := (dC, dI)) (ci := 5) (v := .int 0) (ty := .int) (C := RX5) (T := TX5) (N := 24) hx hb hts (fun w h => List.mem_cons_of_mem _ (iw_X5 w h)) tyX5 tyX5_ok nmX5 hown hK hP hD hS 0 rfl rfl 0 (by decide) (hts _ (List.mem_cons_of_mem _ fl_X5_thrown)) (fun _ h9 => h9) rfl (by decide +kernel) rfl rfl (Nat.le_of_ble_eq_true rfl) dX5_joined_2 (fun H locs hP hD hS => ?_)
  have hP : va_P (dC, dI) clA (wM cI cZ a (upd v 0 0) g) H := hP
  have hD : va_D A (wM cI cZ a (upd v 0 0) g) := hD
  refine lv_aload_n hx hb dX5_joined_5 rfl (lv_at hl 0 rfl) ?_
  have hFc := va_free (wc := (wM cI cZ a (upd v 0 0) g)) hD hS hA [0, 1, 2, 3, 4, 5, 6, 7, 8, 9, 10, 11, 12, 13, 14, 15, 16] rfl
  refine va_calli (va_runV (As := []) (rest := []) ⟨hx, hb, hml, hown, hts⟩ (m_join l dC dI cI cZ cJ a (upd v 0 0) g H.size n hn hn2) (cwV 0 hts (gd_V ml_X5_X5_join im_X5_join se_X5_join in_X5 kX5_join) rfl rfl rfl (by decide +kernel) ⟨Nat.le_of_ble_eq_true rfl, Nat.le_of_ble_eq_true rfl⟩) ⟨fun _ U g mk q => by obtain ⟨q0, q1, qP, qK, qD⟩ := q; exact ⟨q0, q1, qP, va_K.moved (u := U) (U := U.calling g mk _) (Vm.Alike.refl U.vm) qK, qD⟩, va_recv hK hP (ci := 5) (q0 := 0) rfl rfl, fun U hU hW => ⟨rfl, by rw [hU], by rw [hU]; exact hP, va_K.moved hW.alike hK, hD.weaken (fun _ _ _ _ => trivial)⟩⟩ rfl rfl hl.1 rfl (lv_room (Nat.le_of_ble_eq_true rfl)) dX5_joined_6 ⟨Nat.le_of_ble_eq_true rfl, Nat.le_of_ble_eq_true rfl⟩) hS (fun q _ h => hFc q h) hFc (fun r6 u9 t9 H1 locs ht hvm hw hB hz1 hk1 hS => ?_)
  obtain ⟨rfl, rfl⟩ := hw
  obtain ⟨hP, hK1, hD1⟩ := hB
  rw [ht] at hP
  have hD := hD1.weaken (fun k q _ h => hFc q.1 h)
  clear hFc hk1 hD1 hK1
  generalize H1 = H at hP hS ⊢
  have hP : va_P (dC, dI) clA (wM cI cZ a (upd v 0 0) (joM g (upd v 0 0) n).2) H := hP
  have hD : va_D A (wM cI cZ a (upd v 0 0) (joM g (upd v 0 0) n).2) := hD
  exact (W.iret (v := (joM g (upd v 0 0) n).1) hx hb hr (fun t9 ht hW => ⟨⟨_, ((upd v 0 0), (joM g (upd v 0 0) n).2), rfl, ⟨rfl, rfl⟩, ⟨by rw [ht]; exact hP, va_K.moved hW.alike hK, hD⟩⟩, hS.F ht⟩) hS.2.2 dX5_joined_9)
