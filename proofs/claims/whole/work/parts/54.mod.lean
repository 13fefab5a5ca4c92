
def insM (x : Int32) : Nat → (Nat → Nat → Int32) → (Nat → Nat → Int32)
  | 0, g => upg g 14 0 x
  | q + 1, g => if x < g 14 q then insM x q (upg g 14 (q + 1) (g 14 q)) else upg g 14 (q + 1) x
def spT (g : Nat → Nat → Int32) (v : Nat → Int32) : Nat → Nat × (Nat → Nat → Int32)
  | 0 => (0, g)
  | k + 1 => if fitB (spT g v k).2 k (v 3) (v 4) (v 5) (v 6) = true ∧ hasB (spT g v k).2 k = true then ((spT g v k).1 + 1, insM ((spT g v k).2 7 k + (spT g v k).2 8 k) (spT g v k).1 (spT g v k).2) else spT g v k
theorem spT_le (g : Nat → Nat → Int32) (v : Nat → Int32) : ∀ k, (spT g v k).1 ≤ k := by
  intro k
  induction k with
  | zero => exact Nat.le_refl _
  | succ k ih => rw [spT]; split
                 · exact Nat.succ_le_succ ih
                 · exact Nat.le_succ_of_le ih
theorem plM_ok {pp : Int32} {c : Nat} (hp : inB pp 1 100 = true) (h1 : 0 < c) (h2 : c ≤ 200) : (pp * nI c + 99) / 100 - 1 = nI ((pp * nI c + 99) / 100 - 1).toNatClampNeg ∧ ((pp * nI c + 99) / 100 - 1).toNatClampNeg < 200 := by
  simp only [inB, Bool.and_eq_true, decide_eq_true_eq] at hp
  have h0 : ¬ pp < 0 := Int32.not_lt.mpr (Int32.le_trans (by decide) hp.1)
  obtain ⟨j, hj, rfl⟩ := nI_of h0
  have e1 : 1 ≤ j := (nI_leI (a := 1) (by decide) hj).mp hp.1
  have e2 : j ≤ 100 := (nI_leI (b := 100) hj (by decide)).mp hp.2
  have hm : j * c ≤ 100 * c := Nat.mul_le_mul_right c e2
  have hm1 : 1 * c ≤ j * c := Nat.mul_le_mul_right c e1
  have e : (nI j * nI c + 99) / 100 - 1 = nI ((j * c + 99) / 100 - 1) := by
    rw [pk_mul, show (99 : Int32) = nI 99 from rfl, nI_add, show (100 : Int32) = nI 100 from rfl, pk_div (by omega) (by decide) (by decide), show (1 : Int32) = nI 1 from rfl, pk_sub (by omega)]
  rw [e, nI_clamp (by omega)]
  exact ⟨rfl, by omega⟩

set_option maxHeartbeats 4000000 in
set_option maxRecDepth 100000 in
theorem m_placed (l : Launch) (dC : Nat → ClassId) (dI : Nat → Nat → Nat) (cI cZ cJ : ClassId) (a : Nat → Nat) (v : Nat → Int32) (g : Nat → Nat → Int32) (sz : Nat) (n : Nat) (hn : v 1 = nI n) (hn2 : n ≤ 200) (pp : Int32) : Met l yX5_placed wsX5_placed ({ frames := 3, cells := 0, slots := 0, locals := 68 }) (va_Pc [.ref (a 0), .int pp] (fun U => U.heap.size = sz ∧ va_P (dC, dI) clA (wM cI cZ a v g) U.heap ∧ va_K (dC, dI) clA (tyA cI cZ cJ) U ∧ va_D (fun _ => True) (wM cI cZ a v g))) (va_Qi (fun (r : Int32) (u : StA) => r = (if 0 < thI (bI (!(inB pp 1 100))) 0 0 then 0 else (if cnt (fun i => fitB g i (v 3) (v 4) (v 5) (v 6) && hasB g i) n = 0 then -1 else (spT g v n).2 14 ((pp * cnt (fun i => fitB g i (v 3) (v 4) (v 5) (v 6) && hasB g i) n + 99) / 100 - 1).toNatClampNeg)) ∧ u = (upd v 0 (thI (bI (!(inB pp 1 100))) 0 0), if 0 < thI (bI (!(inB pp 1 100))) 0 0 then g else (if cnt (fun i => fitB g i (v 3) (v 4) (v 5) (v 6) && hasB g i) n = 0 then g else (spT g v n).2))) (atM dC dI cI cZ cJ a (va_A (wM cI cZ a v g) sz)) (va_A (wM cI cZ a v g) sz))  0 0 (va_A (wM cI cZ a v g) sz) := by
  refine Met.ofW (cc := cX5_placed) (maxL := 6) (ret := (some .int)) (by decide) rfl ?_
  intro p e s m args below meth c s₁ B hml hv
  obtain ⟨rfl, hsz, hP, hK, hD0⟩ := hv
  have hx := B.exec
  have hb := B.bytes
  have hr := B.returns
  have hts := atoms_spec (ws := wsX5_placed) B.pre
  have hown : s.vm.findClass RX5 = some m.cls := findClass_of_methodNamed B.named
  have hlocks := B.notSynchronized
  subst hsz
  have hD := hD0.self (sz := s.heap.size)
  generalize hAe : va_A (wM cI cZ a v g) s.heap.size = A at hD ⊢
  have hA : ∀ q : Nat, s.heap.size ≤ q → A q := fun q h => by rw [← hAe]; exact Or.inr h
  have hS : va_S A s.heap s.heap [] := va_S.rf
  have hP : va_P (dC, dI) clA (wM cI cZ a v g) s.heap := hP
  have hl := lv_entry ([.ref (a 0), .int pp]) (n := 6) (Nat.le_of_ble_eq_true rfl)
  rw [lg_entry_eq]
  generalize (lg_sl ([.ref (a 0), .int pp]) ++ List.replicate (6 - (lg_sl ([.ref (a 0), .int pp])).length) Slot.unset).toArray = ls at hl ⊢
  have hl : lv_has ls 6 [(0, .ref (a 0)), (1, .int pp)] := hl
  refine lv_aload_n hx hb dX5_placed_0 rfl (lv_at hl 0 rfl) ?_
  have jn16 : ∀ xj : Int32, xj = bI (!(inB pp 1 100)) → W p l e (headSpec wsX5_placed ({ frames := 3, cells := 0, slots := 0, locals := 68 })).room s m ([.ref (a 0), .int pp] : List Value).toArray below meth c s.heap [] 0 0 (MQ below (va_Qi (fun (r : Int32) (u : StA) => r = (if 0 < thI (bI (!(inB pp 1 100))) 0 0 then 0 else (if cnt (fun i => fitB g i (v 3) (v 4) (v 5) (v 6) && hasB g i) n = 0 then -1 else (spT g v n).2 14 ((pp * cnt (fun i => fitB g i (v 3) (v 4) (v 5) (v 6) && hasB g i) n + 99) / 100 - 1).toNatClampNeg)) ∧ u = (upd v 0 (thI (bI (!(inB pp 1 100))) 0 0), if 0 < thI (bI (!(inB pp 1 100))) 0 0 then g else (if cnt (fun i => fitB g i (v 3) (v 4) (v 5) (v 6) && hasB g i) n = 0 then g else (spT g v n).2))) (atM dC dI cI cZ cJ a A) A) ([.ref (a 0), .int pp] : List Value).toArray s 0 0 A) (F0 m 16 ls [(.int xj), .ref (a 0)]) := by
    intro xj ej
    subst ej
    refine lv_iconst (v := 0) hx hb dX5_placed_16 (by decide) ?_
    refine lv_iconst (v := 0) hx hb dX5_placed_17 (by decide) ?_
    have hFc := va_free (wc := (wM cI cZ a v g)) hD hS hA [0, 1, 2, 3, 4, 5, 6, 7, 8, 9, 10, 11, 12, 13, 14, 15, 16] rfl
    refine va_calli (va_runV (As := [.int (bI (!(inB pp 1 100))), .int 0, .int 0]) (rest := []) ⟨hx, hb, hml, hown, hts⟩ (m_throwing l dC dI cI cZ cJ a v g s.heap.size (bI (!(inB pp 1 100))) 0 0) (cwV 3 hts (gd_V ml_X5_X5_throwing im_X5_throwing se_X5_throwing in_X5 kX5_throwing) rfl rfl rfl (by decide +kernel) ⟨Nat.le_of_ble_eq_true rfl, Nat.le_of_ble_eq_true rfl⟩) ⟨fun _ U g mk q => by obtain ⟨q0, q1, qP, qK, qD⟩ := q; exact ⟨q0, q1, qP, va_K.moved (u := U) (U := U.calling g mk _) (Vm.Alike.refl U.vm) qK, qD⟩, va_recv hK hP (ci := 5) (q0 := 0) rfl rfl, fun U hU hW => ⟨rfl, by rw [hU], by rw [hU]; exact hP, va_K.moved hW.alike hK, hD.weaken (fun _ _ _ _ => trivial)⟩⟩ rfl rfl hl.1 rfl (lv_room (Nat.le_of_ble_eq_true rfl)) dX5_placed_18 ⟨Nat.le_of_ble_eq_true rfl, Nat.le_of_ble_eq_true rfl⟩) hS (fun q _ h => hFc q h) hFc (fun r18 u9 t9 H1 locs ht hvm hw hB hz1 hk1 hS => ?_)
    obtain ⟨rfl, rfl⟩ := hw
    obtain ⟨hP, hK1, hD1⟩ := hB
    rw [ht] at hP
    have hD := hD1.weaken (fun k q _ h => hFc q.1 h)
    clear hFc hk1 hD1 hK1
    generalize H1 = H at hP hS ⊢
    have hP : va_P (dC, dI) clA (wM cI cZ a (upd v 0 (thI (bI (!(inB pp 1 100))) 0 0)) g) H := hP
    have hD : va_D A (wM cI cZ a (upd v 0 (thI (bI (!(inB pp 1 100))) 0 0)) g) := hD
    refine lv_if_eq (tgt := 26) hx hb dX5_placed_21 (by decide) (fun c21 => ?_) (fun c21 => ?_)
    · have c21 := bI_0.mp c21
      refine lv_iconst (v := 0) hx hb dX5_placed_26 (by decide) ?_
      refine lv_istore_n (lv' := [(2, .int 0), (0, .ref (a 0)), (1, .int pp)]) hx hb dX5_placed_27 rfl hl (by decide) rfl (fun ls hl => ?_)
      refine lv_iconst (v := 0) hx hb dX5_placed_28 (by decide) ?_
      refine lv_istore_n (lv' := [(3, .int 0), (2, .int 0), (0, .ref (a 0)), (1, .int pp)]) hx hb dX5_placed_29 rfl hl (by decide) rfl (fun ls hl => ?_)
      have lp : ∀ (d k : Nat), k ≤ n → n + 1 ≤ k + d → ∀ (H : Heap) (locs : List Loc), va_P (dC, dI) clA (wM cI cZ a (upd v 0 (thI (bI (!(inB pp 1 100))) 0 0)) g) H → va_D A (wM cI cZ a (upd v 0 (thI (bI (!(inB pp 1 100))) 0 0)) g) → va_S A s.heap H locs → ∀ (ls : Array Slot), lv_has ls 6 [(3, .int (nI k)), (2, .int (cnt (fun i => fitB g i (v 3) (v 4) (v 5) (v 6) && hasB g i) k)), (0, .ref (a 0)), (1, .int pp)] → W p l e (headSpec wsX5_placed ({ frames := 3, cells := 0, slots := 0, locals := 68 })).room s m ([.ref (a 0), .int pp] : List Value).toArray below meth c H locs 0 0 (MQ below (va_Qi (fun (r : Int32) (u : StA) => r = (if 0 < thI (bI (!(inB pp 1 100))) 0 0 then 0 else (if cnt (fun i => fitB g i (v 3) (v 4) (v 5) (v 6) && hasB g i) n = 0 then -1 else (spT g v n).2 14 ((pp * cnt (fun i => fitB g i (v 3) (v 4) (v 5) (v 6) && hasB g i) n + 99) / 100 - 1).toNatClampNeg)) ∧ u = (upd v 0 (thI (bI (!(inB pp 1 100))) 0 0), if 0 < thI (bI (!(inB pp 1 100))) 0 0 then g else (if cnt (fun i => fitB g i (v 3) (v 4) (v 5) (v 6) && hasB g i) n = 0 then g else (spT g v n).2))) (atM dC dI cI cZ cJ a A) A) ([.ref (a 0), .int pp] : List Value).toArray s 0 0 A) (F0 m 30 ls []) := by
        intro d
        induction d with
        | zero => intro k h1 h2; exact absurd h2 (by omega)
        | succ d ih =>
          intro k hkn hkd H locs hP hD hS ls hl
          refine lv_iload_n hx hb dX5_placed_30 rfl (lv_at hl 0 rfl) ?_
          refine lv_aload_n hx hb dX5_placed_31 rfl (lv_at hl 2 rfl) ?_
          refine va_get (D := (dC, dI)) (ci := 5) (v := .int (v 1)) (C := RX5) (T := TX5) (N := 24) hx hb hts (fun w h => List.mem_cons_of_mem _ (iw_X5 w h)) hown hK hP 0 rfl rfl 1 (by decide) (hts _ (List.mem_cons_of_mem _ fl_X5_rows)) (fun _ h9 => h9) rfl dX5_placed_32 ?_
          refine lv_icmp_ge (tgt := 68) hx hb dX5_placed_35 (by decide) (fun c35 => ?_) (fun c35 => ?_)
          · have n35 := Int32.not_lt.mpr c35
            rw [hn] at c35
            have hkn2 : k = n := Nat.le_antisymm hkn ((nI_leI (by omega) (by omega)).mp c35)
            have hl : lv_has ls 6 [(3, .int (nI k)), (2, .int (cnt (fun i => fitB g i (v 3) (v 4) (v 5) (v 6) && hasB g i) n)), (0, .ref (a 0)), (1, .int pp)] := by rw [← hkn2]; exact hl
            refine lv_iload_n hx hb dX5_placed_68 rfl (lv_at hl 1 rfl) ?_
            refine lv_if_ne (tgt := 74) hx hb dX5_placed_69 (by decide) (fun c69 => ?_) (fun c69 => ?_)
            · refine lv_iconst (v := 0) hx hb dX5_placed_74 (by decide) ?_
              refine lv_istore_n (lv' := [(3, .int 0), (2, .int (cnt (fun i => fitB g i (v 3) (v 4) (v 5) (v 6) && hasB g i) n)), (0, .ref (a 0)), (1, .int pp)]) hx hb dX5_placed_75 rfl hl (by decide) rfl (fun ls hl => ?_)
              refine lv_iconst (v := 0) hx hb dX5_placed_76 (by decide) ?_
              refine lv_istore (lv' := [(4, .int 0), (3, .int 0), (2, .int (cnt (fun i => fitB g i (v 3) (v 4) (v 5) (v 6) && hasB g i) n)), (0, .ref (a 0)), (1, .int pp)]) hx hb dX5_placed_77 hl (by decide) rfl (fun ls hl => ?_)
              have lp : ∀ (d k : Nat), k ≤ n → n + 1 ≤ k + d → ∀ (H : Heap) (locs : List Loc), va_P (dC, dI) clA (wM cI cZ a (upd v 0 (thI (bI (!(inB pp 1 100))) 0 0)) (spT g v k).2) H → va_D A (wM cI cZ a (upd v 0 (thI (bI (!(inB pp 1 100))) 0 0)) (spT g v k).2) → va_S A s.heap H locs → ∀ (ls : Array Slot), lv_has ls 6 [(4, .int (nI k)), (3, .int (nI (spT g v k).1)), (2, .int (cnt (fun i => fitB g i (v 3) (v 4) (v 5) (v 6) && hasB g i) n)), (0, .ref (a 0)), (1, .int pp)] → W p l e (headSpec wsX5_placed ({ frames := 3, cells := 0, slots := 0, locals := 68 })).room s m ([.ref (a 0), .int pp] : List Value).toArray below meth c H locs 0 0 (MQ below (va_Qi (fun (r : Int32) (u : StA) => r = (if 0 < thI (bI (!(inB pp 1 100))) 0 0 then 0 else (if cnt (fun i => fitB g i (v 3) (v 4) (v 5) (v 6) && hasB g i) n = 0 then -1 else (spT g v n).2 14 ((pp * cnt (fun i => fitB g i (v 3) (v 4) (v 5) (v 6) && hasB g i) n + 99) / 100 - 1).toNatClampNeg)) ∧ u = (upd v 0 (thI (bI (!(inB pp 1 100))) 0 0), if 0 < thI (bI (!(inB pp 1 100))) 0 0 then g else (if cnt (fun i => fitB g i (v 3) (v 4) (v 5) (v 6) && hasB g i) n = 0 then g else (spT g v n).2))) (atM dC dI cI cZ cJ a A) A) ([.ref (a 0), .int pp] : List Value).toArray s 0 0 A) (F0 m 79 ls []) := by
                intro d
                induction d with
                | zero => intro k h1 h2; exact absurd h2 (by omega)
                | succ d ih =>
                  intro k hkn hkd H locs hP hD hS ls hl
                  refine lv_iload hx hb dX5_placed_79 (lv_at hl 0 rfl) ?_
                  refine lv_aload_n hx hb dX5_placed_81 rfl (lv_at hl 3 rfl) ?_
                  refine va_get (D := (dC, dI)) (ci := 5) (v := .int (v 1)) (C := RX5) (T := TX5) (N := 24) hx hb hts (fun w h => List.mem_cons_of_mem _ (iw_X5 w h)) hown hK hP 0 rfl rfl 1 (by decide) (hts _ (List.mem_cons_of_mem _ fl_X5_rows)) (fun _ h9 => h9) rfl dX5_placed_82 ?_
                  refine lv_icmp_ge (tgt := 176) hx hb dX5_placed_85 (by decide) (fun c85 => ?_) (fun c85 => ?_)
                  · have n85 := Int32.not_lt.mpr c85
                    rw [hn] at c85
                    have hkn3 : k = n := Nat.le_antisymm hkn ((nI_leI (by omega) (by omega)).mp c85)
                    have hpl := plM_ok (c := cntN (fun i => fitB g i (v 3) (v 4) (v 5) (v 6) && hasB g i) n) (by have h := th1 c21; rw [Bool.not_eq_false'] at h; exact h) (Nat.pos_of_ne_zero (fun h => c69 (by rw [cnt_nI, h]; rfl))) (Nat.le_trans (cntN_le _ n) hn2)
                    rw [← cnt_nI] at hpl
                    refine lv_aload_n hx hb dX5_placed_176 rfl (lv_at hl 3 rfl) ?_
                    refine va_get (D := (dC, dI)) (ci := 5) (v := .ref (a 15)) (C := RX5) (T := TX5) (N := 24) hx hb hts (fun w h => List.mem_cons_of_mem _ (iw_X5 w h)) hown hK hP 0 rfl rfl 22 (by decide) (hts _ (List.mem_cons_of_mem _ fl_X5_sums)) (fun _ h9 => h9) rfl dX5_placed_177 ?_
                    refine lv_iload_n hx hb dX5_placed_180 rfl (lv_at hl 4 rfl) ?_
                    refine lv_iload_n hx hb dX5_placed_181 rfl (lv_at hl 2 rfl) ?_
                    refine lv_imul hx hb dX5_placed_182 ?_
                    refine lv_bipush (v := 99) hx hb dX5_placed_183 (by decide) ?_
                    refine lv_iadd hx hb dX5_placed_185 ?_
                    refine lv_bipush (v := 100) hx hb dX5_placed_186 (by decide) ?_
                    refine lv_idiv hx hb dX5_placed_188 (by decide) ?_
                    refine lv_iconst (v := 1) hx hb dX5_placed_189 (by decide) ?_
                    refine lv_isub hx hb dX5_placed_190 ?_
                    refine wi_aldE hx hb hK hP 15 0 rfl rfl (k := (((pp * cnt (fun i => fitB g i (v 3) (v 4) (v 5) (v 6) && hasB g i) n + 99) / 100 - 1).toNatClampNeg)) hpl.1 hpl.2 (by decide) dX5_placed_191 ?_
                    exact (W.iret (v := (spT g v k).2 14 (((pp * cnt (fun i => fitB g i (v 3) (v 4) (v 5) (v 6) && hasB g i) n + 99) / 100 - 1).toNatClampNeg)) hx hb hr (fun t9 ht hW => ⟨⟨_, ((upd v 0 (thI (bI (!(inB pp 1 100))) 0 0)), (spT g v k).2), rfl, ⟨(by simp only [if_neg (of_decide_eq_false c21), if_neg c69, hkn3]), (by simp only [if_neg (of_decide_eq_false c21), if_neg c69, hkn3])⟩, ⟨by rw [ht]; exact hP, va_K.moved hW.alike hK, hD⟩⟩, hS.F ht⟩) hS.2.2 dX5_placed_192)
                  · have n85 := Int32.not_le.mp c85
                    rw [hn] at c85
                    have hk : k < n := Nat.lt_of_not_le (fun h => c85 (nI_le h (by omega)))
                    refine lv_aload_n hx hb dX5_placed_88 rfl (lv_at hl 3 rfl) ?_
                    refine lv_iload hx hb dX5_placed_89 (lv_at hl 0 rfl) ?_
                    refine vp_callSi (W.runV (As := [.int (nI k)]) (rest := []) ⟨hx, hb, hml, hown, hts⟩ (m_isAsked l dC dI cI cZ cJ a (upd v 0 (thI (bI (!(inB pp 1 100))) 0 0)) (spT g v k).2 k (by omega)) (cwV 1 hts (gd_V ml_X5_X5_isAsked im_X5_isAsked se_X5_isAsked in_X5 kX5_isAsked) rfl rfl rfl (by decide +kernel) ⟨Nat.le_of_ble_eq_true rfl, Nat.le_of_ble_eq_true rfl⟩) ⟨fun _ U g mk q => by obtain ⟨q0, qP, qK⟩ := q; exact ⟨q0, qP, va_K.moved (u := U) (U := U.calling g mk _) (Vm.Alike.refl U.vm) qK⟩, va_recv hK hP (ci := 5) (q0 := 0) rfl rfl, fun U hU hW => ⟨rfl, by rw [hU]; exact hP, va_K.moved hW.alike hK⟩⟩ rfl rfl hl.1 rfl (lv_room (Nat.le_of_ble_eq_true rfl)) dX5_placed_91 ⟨Nat.le_of_ble_eq_true rfl, Nat.le_of_ble_eq_true rfl⟩) (fun r91 hr91 => ?_)
                    replace hr91 : r91 = bI (fitB (spT g v k).2 k (v 3) (v 4) (v 5) (v 6)) := hr91
                    subst hr91
                    refine lv_if_eq (tgt := 170) hx hb dX5_placed_94 (by decide) (fun c94 => ?_) (fun c94 => ?_)
                    · have c94 := bI_0.mp c94
                      refine lv_iinc (v := nI (k + 1)) (lv' := [(4, .int (nI (k + 1))), (3, .int (nI (spT g v k).1)), (2, .int (cnt (fun i => fitB g i (v 3) (v 4) (v 5) (v 6) && hasB g i) n)), (0, .ref (a 0)), (1, .int pp)]) hx hb dX5_placed_170 hl (k := 0) rfl (nI_1 k) (by decide) rfl (fun ls hl => ?_)
                      refine lv_goto (tgt := 79) hx hb dX5_placed_173 (by decide) ?_
                      have eG : (spT g v (k + 1)).2 = (spT g v k).2 := (by simp [spT, c85, n85, c94])
                      have eL0 : (.int (nI (spT g v (k + 1)).1) : Value) = .int (nI (spT g v k).1) := (by simp [spT, c85, n85, c94])
                      exact ih (k + 1) (by omega) (by omega) _ _ (by rw [eG]; exact hP) (by rw [eG]; exact hD) hS ls (by rw [eL0]; exact lv_sub hl [0, 1, 2, 3, 4] rfl)
                    · have c94 := bI_n0.mp c94
                      refine lv_aload_n hx hb dX5_placed_97 rfl (lv_at hl 3 rfl) ?_
                      refine lv_iload hx hb dX5_placed_98 (lv_at hl 0 rfl) ?_
                      refine vp_callSi (W.runV (As := [.int (nI k)]) (rest := []) ⟨hx, hb, hml, hown, hts⟩ (m_hasBoth l dC dI cI cZ cJ a (upd v 0 (thI (bI (!(inB pp 1 100))) 0 0)) (spT g v k).2 k (by omega)) (cwV 1 hts (gd_V ml_X5_X5_hasBoth im_X5_hasBoth se_X5_hasBoth in_X5 kX5_hasBoth) rfl rfl rfl (by decide +kernel) ⟨Nat.le_of_ble_eq_true rfl, Nat.le_of_ble_eq_true rfl⟩) ⟨fun _ U g mk q => by obtain ⟨q0, qP, qK⟩ := q; exact ⟨q0, qP, va_K.moved (u := U) (U := U.calling g mk _) (Vm.Alike.refl U.vm) qK⟩, va_recv hK hP (ci := 5) (q0 := 0) rfl rfl, fun U hU hW => ⟨rfl, by rw [hU]; exact hP, va_K.moved hW.alike hK⟩⟩ rfl rfl hl.1 rfl (lv_room (Nat.le_of_ble_eq_true rfl)) dX5_placed_100 ⟨Nat.le_of_ble_eq_true rfl, Nat.le_of_ble_eq_true rfl⟩) (fun r100 hr100 => ?_)
                      subst hr100
                      refine lv_if_eq (tgt := 170) hx hb dX5_placed_103 (by decide) (fun c103 => ?_) (fun c103 => ?_)
                      · have c103 := bI_0.mp c103
                        refine lv_iinc (v := nI (k + 1)) (lv' := [(4, .int (nI (k + 1))), (3, .int (nI (spT g v k).1)), (2, .int (cnt (fun i => fitB g i (v 3) (v 4) (v 5) (v 6) && hasB g i) n)), (0, .ref (a 0)), (1, .int pp)]) hx hb dX5_placed_170 hl (k := 0) rfl (nI_1 k) (by decide) rfl (fun ls hl => ?_)
                        refine lv_goto (tgt := 79) hx hb dX5_placed_173 (by decide) ?_
                        have eG : (spT g v (k + 1)).2 = (spT g v k).2 := (by simp [spT, c85, n85, c94, c103])
                        have eL0 : (.int (nI (spT g v (k + 1)).1) : Value) = .int (nI (spT g v k).1) := (by simp [spT, c85, n85, c94, c103])
                        exact ih (k + 1) (by omega) (by omega) _ _ (by rw [eG]; exact hP) (by rw [eG]; exact hD) hS ls (by rw [eL0]; exact lv_sub hl [0, 1, 2, 3, 4] rfl)
                      · have c103 := bI_n0.mp c103
                        refine lv_iload_n hx hb dX5_placed_106 rfl (lv_at hl 1 rfl) ?_
                        refine lv_istore (lv' := [(5, .int (nI (spT g v k).1)), (4, .int (nI k)), (3, .int (nI (spT g v k).1)), (2, .int (cnt (fun i => fitB g i (v 3) (v 4) (v 5) (v 6) && hasB g i) n)), (0, .ref (a 0)), (1, .int pp)]) hx hb dX5_placed_107 hl (by decide) rfl (fun ls hl => ?_)
                        have kk : ∀ (H : Heap) (locs : List Loc), va_P (dC, dI) clA (wM cI cZ a (upd v 0 (thI (bI (!(inB pp 1 100))) 0 0)) (insM ((spT g v k).2 7 k + (spT g v k).2 8 k) (spT g v k).1 (spT g v k).2)) H → va_D A (wM cI cZ a (upd v 0 (thI (bI (!(inB pp 1 100))) 0 0)) (insM ((spT g v k).2 7 k + (spT g v k).2 8 k) (spT g v k).1 (spT g v k).2)) → va_S A s.heap H locs → ∀ (ls : Array Slot), lv_has ls 6 [(4, .int (nI k)), (3, .int (nI (spT g v k).1)), (2, .int (cnt (fun i => fitB g i (v 3) (v 4) (v 5) (v 6) && hasB g i) n)), (0, .ref (a 0)), (1, .int pp)] → W p l e (headSpec wsX5_placed ({ frames := 3, cells := 0, slots := 0, locals := 68 })).room s m ([.ref (a 0), .int pp] : List Value).toArray below meth c H locs 0 0 (MQ below (va_Qi (fun (r : Int32) (u : StA) => r = (if 0 < thI (bI (!(inB pp 1 100))) 0 0 then 0 else (if cnt (fun i => fitB g i (v 3) (v 4) (v 5) (v 6) && hasB g i) n = 0 then -1 else (spT g v n).2 14 ((pp * cnt (fun i => fitB g i (v 3) (v 4) (v 5) (v 6) && hasB g i) n + 99) / 100 - 1).toNatClampNeg)) ∧ u = (upd v 0 (thI (bI (!(inB pp 1 100))) 0 0), if 0 < thI (bI (!(inB pp 1 100))) 0 0 then g else (if cnt (fun i => fitB g i (v 3) (v 4) (v 5) (v 6) && hasB g i) n = 0 then g else (spT g v n).2))) (atM dC dI cI cZ cJ a A) A) ([.ref (a 0), .int pp] : List Value).toArray s 0 0 A) (F0 m 167 ls []) := by
                          intro H locs hP hD hS ls hl
                          refine lv_iinc (v := nI ((spT g v k).1 + 1)) (lv' := [(3, .int (nI ((spT g v k).1 + 1))), (4, .int (nI k)), (2, .int (cnt (fun i => fitB g i (v 3) (v 4) (v 5) (v 6) && hasB g i) n)), (0, .ref (a 0)), (1, .int pp)]) hx hb dX5_placed_167 hl (k := 1) rfl (nI_1 ((spT g v k).1)) (by decide) rfl (fun ls hl => ?_)
                          refine lv_iinc (v := nI (k + 1)) (lv' := [(4, .int (nI (k + 1))), (3, .int (nI ((spT g v k).1 + 1))), (2, .int (cnt (fun i => fitB g i (v 3) (v 4) (v 5) (v 6) && hasB g i) n)), (0, .ref (a 0)), (1, .int pp)]) hx hb dX5_placed_170 hl (k := 1) rfl (nI_1 k) (by decide) rfl (fun ls hl => ?_)
                          refine lv_goto (tgt := 79) hx hb dX5_placed_173 (by decide) ?_
                          have eG : (spT g v (k + 1)).2 = (insM ((spT g v k).2 7 k + (spT g v k).2 8 k) (spT g v k).1 (spT g v k).2) := (by simp [spT, c85, n85, c94, c103])
                          have eL0 : (.int (nI (spT g v (k + 1)).1) : Value) = .int (nI ((spT g v k).1 + 1)) := (by simp [spT, c85, n85, c94, c103])
                          exact ih (k + 1) (by omega) (by omega) _ _ (by rw [eG]; exact hP) (by rw [eG]; exact hD) hS ls (by rw [eL0]; exact lv_sub hl [0, 1, 2, 3, 4] rfl)
                        have lp2 : ∀ (q : Nat) (G : Nat → Nat → Int32), q < 200 → insM ((spT g v k).2 7 k + (spT g v k).2 8 k) q G = (insM ((spT g v k).2 7 k + (spT g v k).2 8 k) (spT g v k).1 (spT g v k).2) → G 7 k + G 8 k = ((spT g v k).2 7 k + (spT g v k).2 8 k) → ∀ (H : Heap) (locs : List Loc), va_P (dC, dI) clA (wM cI cZ a (upd v 0 (thI (bI (!(inB pp 1 100))) 0 0)) G) H → va_D A (wM cI cZ a (upd v 0 (thI (bI (!(inB pp 1 100))) 0 0)) G) → va_S A s.heap H locs → ∀ (ls : Array Slot), lv_has ls 6 [(5, .int (nI q)), (4, .int (nI k)), (3, .int (nI (spT g v k).1)), (2, .int (cnt (fun i => fitB g i (v 3) (v 4) (v 5) (v 6) && hasB g i) n)), (0, .ref (a 0)), (1, .int pp)] → W p l e (headSpec wsX5_placed ({ frames := 3, cells := 0, slots := 0, locals := 68 })).room s m ([.ref (a 0), .int pp] : List Value).toArray below meth c H locs 0 0 (MQ below (va_Qi (fun (r : Int32) (u : StA) => r = (if 0 < thI (bI (!(inB pp 1 100))) 0 0 then 0 else (if cnt (fun i => fitB g i (v 3) (v 4) (v 5) (v 6) && hasB g i) n = 0 then -1 else (spT g v n).2 14 ((pp * cnt (fun i => fitB g i (v 3) (v 4) (v 5) (v 6) && hasB g i) n + 99) / 100 - 1).toNatClampNeg)) ∧ u = (upd v 0 (thI (bI (!(inB pp 1 100))) 0 0), if 0 < thI (bI (!(inB pp 1 100))) 0 0 then g else (if cnt (fun i => fitB g i (v 3) (v 4) (v 5) (v 6) && hasB g i) n = 0 then g else (spT g v n).2))) (atM dC dI cI cZ cJ a A) A) ([.ref (a 0), .int pp] : List Value).toArray s 0 0 A) (F0 m 109 ls []) := by
                          intro q
                          induction q with
                          | zero =>
                            intro G hq hG hx9 H locs hP hD hS ls hl
                            refine lv_iload hx hb dX5_placed_109 (lv_at hl 0 rfl) ?_
                            refine lv_if_le (tgt := 154) hx hb dX5_placed_111 (by decide) (fun c111 => ?_) (fun c111 => ?_)
                            · refine lv_aload_n hx hb dX5_placed_154 rfl (lv_at hl 4 rfl) ?_
                              refine va_get (D := (dC, dI)) (ci := 5) (v := .ref (a 15)) (C := RX5) (T := TX5) (N := 24) hx hb hts (fun w h => List.mem_cons_of_mem _ (iw_X5 w h)) hown hK hP 0 rfl rfl 22 (by decide) (hts _ (List.mem_cons_of_mem _ fl_X5_sums)) (fun _ h9 => h9) rfl dX5_placed_155 ?_
                              refine lv_iload hx hb dX5_placed_158 (lv_at hl 0 rfl) ?_
                              refine lv_aload_n hx hb dX5_placed_160 rfl (lv_at hl 4 rfl) ?_
                              refine lv_iload hx hb dX5_placed_161 (lv_at hl 1 rfl) ?_
                              refine vp_callSi (W.runV (As := [.int (nI k)]) (rest := [.int (nI 0), .ref (a 15)]) ⟨hx, hb, hml, hown, hts⟩ (m_sumOf l dC dI cI cZ cJ a (upd v 0 (thI (bI (!(inB pp 1 100))) 0 0)) G k (by omega)) (cwV 1 hts (gd_V ml_X5_X5_sumOf im_X5_sumOf se_X5_sumOf in_X5 kX5_sumOf) rfl rfl rfl (by decide +kernel) ⟨Nat.le_of_ble_eq_true rfl, Nat.le_of_ble_eq_true rfl⟩) ⟨fun _ U g mk q => by obtain ⟨q0, qP, qK⟩ := q; exact ⟨q0, qP, va_K.moved (u := U) (U := U.calling g mk _) (Vm.Alike.refl U.vm) qK⟩, va_recv hK hP (ci := 5) (q0 := 0) rfl rfl, fun U hU hW => ⟨rfl, by rw [hU]; exact hP, va_K.moved hW.alike hK⟩⟩ rfl rfl hl.1 rfl (lv_room (Nat.le_of_ble_eq_true rfl)) dX5_placed_163 ⟨Nat.le_of_ble_eq_true rfl, Nat.le_of_ble_eq_true rfl⟩) (fun r163 hr163 => ?_)
                              subst hr163
                              refine wi_ast hx hb hK hP hD hS 15 0 rfl rfl (k := 0) (by omega) (by decide) dX5_placed_166 (fun H locs hP hD hS => ?_)
                              have hP : va_P (dC, dI) clA (wM cI cZ a (upd v 0 (thI (bI (!(inB pp 1 100))) 0 0)) (upg G 14 0 (G 7 k + G 8 k))) H := hP
                              have hD : va_D A (wM cI cZ a (upd v 0 (thI (bI (!(inB pp 1 100))) 0 0)) (upg G 14 0 (G 7 k + G 8 k))) := hD
                              have eT : (insM ((spT g v k).2 7 k + (spT g v k).2 8 k) (spT g v k).1 (spT g v k).2) = (upg G 14 0 (G 7 k + G 8 k)) := (by rw [← hG, insM, hx9])
                              exact kk _ _ (by rw [eT]; exact hP) (by rw [eT]; exact hD) hS ls (lv_sub hl [1, 2, 3, 4, 5] rfl)
                            · exact absurd (show nI 0 ≤ 0 by decide) c111
                          | succ q ih2 =>
                            intro G hq hG hx9 H locs hP hD hS ls hl
                            refine lv_iload hx hb dX5_placed_109 (lv_at hl 0 rfl) ?_
                            refine lv_if_le (tgt := 154) hx hb dX5_placed_111 (by decide) (fun c111 => ?_) (fun c111 => ?_)
                            · exact absurd c111 (nI_nle (by omega) (by omega))
                            · refine lv_aload_n hx hb dX5_placed_114 rfl (lv_at hl 4 rfl) ?_
                              refine va_get (D := (dC, dI)) (ci := 5) (v := .ref (a 15)) (C := RX5) (T := TX5) (N := 24) hx hb hts (fun w h => List.mem_cons_of_mem _ (iw_X5 w h)) hown hK hP 0 rfl rfl 22 (by decide) (hts _ (List.mem_cons_of_mem _ fl_X5_sums)) (fun _ h9 => h9) rfl dX5_placed_115 ?_
                              refine lv_iload hx hb dX5_placed_118 (lv_at hl 0 rfl) ?_
                              refine lv_iconst (v := 1) hx hb dX5_placed_120 (by decide) ?_
                              refine lv_isub hx hb dX5_placed_121 ?_
                              refine wi_aldE hx hb hK hP 15 0 rfl rfl (k := q) (nI_pred q) (by omega) (by decide) dX5_placed_122 ?_
                              refine lv_aload_n hx hb dX5_placed_123 rfl (lv_at hl 4 rfl) ?_
                              refine lv_iload hx hb dX5_placed_124 (lv_at hl 1 rfl) ?_
                              refine vp_callSi (W.runV (As := [.int (nI k)]) (rest := [.int (G 14 q)]) ⟨hx, hb, hml, hown, hts⟩ (m_sumOf l dC dI cI cZ cJ a (upd v 0 (thI (bI (!(inB pp 1 100))) 0 0)) G k (by omega)) (cwV 1 hts (gd_V ml_X5_X5_sumOf im_X5_sumOf se_X5_sumOf in_X5 kX5_sumOf) rfl rfl rfl (by decide +kernel) ⟨Nat.le_of_ble_eq_true rfl, Nat.le_of_ble_eq_true rfl⟩) ⟨fun _ U g mk q => by obtain ⟨q0, qP, qK⟩ := q; exact ⟨q0, qP, va_K.moved (u := U) (U := U.calling g mk _) (Vm.Alike.refl U.vm) qK⟩, va_recv hK hP (ci := 5) (q0 := 0) rfl rfl, fun U hU hW => ⟨rfl, by rw [hU]; exact hP, va_K.moved hW.alike hK⟩⟩ rfl rfl hl.1 rfl (lv_room (Nat.le_of_ble_eq_true rfl)) dX5_placed_126 ⟨Nat.le_of_ble_eq_true rfl, Nat.le_of_ble_eq_true rfl⟩) (fun r126 hr126 => ?_)
                              subst hr126
                              refine lv_icmp_le (tgt := 154) hx hb dX5_placed_129 (by decide) (fun c129 => ?_) (fun c129 => ?_)
                              · have n129 := Int32.not_lt.mpr c129
                                refine lv_aload_n hx hb dX5_placed_154 rfl (lv_at hl 4 rfl) ?_
                                refine va_get (D := (dC, dI)) (ci := 5) (v := .ref (a 15)) (C := RX5) (T := TX5) (N := 24) hx hb hts (fun w h => List.mem_cons_of_mem _ (iw_X5 w h)) hown hK hP 0 rfl rfl 22 (by decide) (hts _ (List.mem_cons_of_mem _ fl_X5_sums)) (fun _ h9 => h9) rfl dX5_placed_155 ?_
                                refine lv_iload hx hb dX5_placed_158 (lv_at hl 0 rfl) ?_
                                refine lv_aload_n hx hb dX5_placed_160 rfl (lv_at hl 4 rfl) ?_
                                refine lv_iload hx hb dX5_placed_161 (lv_at hl 1 rfl) ?_
                                refine vp_callSi (W.runV (As := [.int (nI k)]) (rest := [.int (nI (q + 1)), .ref (a 15)]) ⟨hx, hb, hml, hown, hts⟩ (m_sumOf l dC dI cI cZ cJ a (upd v 0 (thI (bI (!(inB pp 1 100))) 0 0)) G k (by omega)) (cwV 1 hts (gd_V ml_X5_X5_sumOf im_X5_sumOf se_X5_sumOf in_X5 kX5_sumOf) rfl rfl rfl (by decide +kernel) ⟨Nat.le_of_ble_eq_true rfl, Nat.le_of_ble_eq_true rfl⟩) ⟨fun _ U g mk q => by obtain ⟨q0, qP, qK⟩ := q; exact ⟨q0, qP, va_K.moved (u := U) (U := U.calling g mk _) (Vm.Alike.refl U.vm) qK⟩, va_recv hK hP (ci := 5) (q0 := 0) rfl rfl, fun U hU hW => ⟨rfl, by rw [hU]; exact hP, va_K.moved hW.alike hK⟩⟩ rfl rfl hl.1 rfl (lv_room (Nat.le_of_ble_eq_true rfl)) dX5_placed_163 ⟨Nat.le_of_ble_eq_true rfl, Nat.le_of_ble_eq_true rfl⟩) (fun r163 hr163 => ?_)
                                subst hr163
                                refine wi_ast hx hb hK hP hD hS 15 0 rfl rfl (k := ((q + 1))) (by omega) (by decide) dX5_placed_166 (fun H locs hP hD hS => ?_)
                                have hP : va_P (dC, dI) clA (wM cI cZ a (upd v 0 (thI (bI (!(inB pp 1 100))) 0 0)) (upg G 14 ((q + 1)) (G 7 k + G 8 k))) H := hP
                                have hD : va_D A (wM cI cZ a (upd v 0 (thI (bI (!(inB pp 1 100))) 0 0)) (upg G 14 ((q + 1)) (G 7 k + G 8 k))) := hD
                                have eT : (insM ((spT g v k).2 7 k + (spT g v k).2 8 k) (spT g v k).1 (spT g v k).2) = (upg G 14 ((q + 1)) (G 7 k + G 8 k)) := (by rw [hx9] at n129; rw [← hG, insM, if_neg n129, hx9])
                                exact kk _ _ (by rw [eT]; exact hP) (by rw [eT]; exact hD) hS ls (lv_sub hl [1, 2, 3, 4, 5] rfl)
                              · have n129 := Int32.not_le.mp c129
                                refine lv_aload_n hx hb dX5_placed_132 rfl (lv_at hl 4 rfl) ?_
                                refine va_get (D := (dC, dI)) (ci := 5) (v := .ref (a 15)) (C := RX5) (T := TX5) (N := 24) hx hb hts (fun w h => List.mem_cons_of_mem _ (iw_X5 w h)) hown hK hP 0 rfl rfl 22 (by decide) (hts _ (List.mem_cons_of_mem _ fl_X5_sums)) (fun _ h9 => h9) rfl dX5_placed_133 ?_
                                refine lv_iload hx hb dX5_placed_136 (lv_at hl 0 rfl) ?_
                                refine lv_aload_n hx hb dX5_placed_138 rfl (lv_at hl 4 rfl) ?_
                                refine va_get (D := (dC, dI)) (ci := 5) (v := .ref (a 15)) (C := RX5) (T := TX5) (N := 24) hx hb hts (fun w h => List.mem_cons_of_mem _ (iw_X5 w h)) hown hK hP 0 rfl rfl 22 (by decide) (hts _ (List.mem_cons_of_mem _ fl_X5_sums)) (fun _ h9 => h9) rfl dX5_placed_139 ?_
                                refine lv_iload hx hb dX5_placed_142 (lv_at hl 0 rfl) ?_
                                refine lv_iconst (v := 1) hx hb dX5_placed_144 (by decide) ?_
                                refine lv_isub hx hb dX5_placed_145 ?_
                                refine wi_aldE hx hb hK hP 15 0 rfl rfl (k := q) (nI_pred q) (by omega) (by decide) dX5_placed_146 ?_
                                refine wi_ast hx hb hK hP hD hS 15 0 rfl rfl (k := ((q + 1))) (by omega) (by decide) dX5_placed_147 (fun H locs hP hD hS => ?_)
                                have hP : va_P (dC, dI) clA (wM cI cZ a (upd v 0 (thI (bI (!(inB pp 1 100))) 0 0)) (upg G 14 ((q + 1)) (G 14 q))) H := hP
                                have hD : va_D A (wM cI cZ a (upd v 0 (thI (bI (!(inB pp 1 100))) 0 0)) (upg G 14 ((q + 1)) (G 14 q))) := hD
                                refine lv_iinc (v := nI q) (lv' := [(5, .int (nI q)), (4, .int (nI k)), (3, .int (nI (spT g v k).1)), (2, .int (cnt (fun i => fitB g i (v 3) (v 4) (v 5) (v 6) && hasB g i) n)), (0, .ref (a 0)), (1, .int pp)]) hx hb dX5_placed_148 hl (k := 0) rfl (by rw [show (Int32.ofInt (-1)) = -1 from by decide]; exact pk_m1 q) (by decide) rfl (fun ls hl => ?_)
                                refine lv_goto (tgt := 109) hx hb dX5_placed_151 (by decide) ?_
                                rw [hx9] at n129
                                exact ih2 (upg G 14 ((q + 1)) (G 14 q)) (by omega) (by rw [← hG, insM, if_pos n129]) hx9 _ _ hP hD hS ls (lv_sub hl [0, 1, 2, 3, 4, 5] rfl)
                        exact lp2 (spT g v k).1 (spT g v k).2 (by have := spT_le g v k; omega) rfl rfl _ _ hP hD hS ls (lv_sub hl [0, 1, 2, 3, 4, 5] rfl)
              exact lp (n + 1) 0 (by omega) (by omega) _ _ hP hD hS ls (lv_sub hl [0, 1, 2, 3, 4] rfl)
            · refine lv_iconst (v := (-1)) hx hb dX5_placed_72 (by decide) ?_
              exact (W.iret (v := -1) hx hb hr (fun t9 ht hW => ⟨⟨_, ((upd v 0 (thI (bI (!(inB pp 1 100))) 0 0)), g), rfl, ⟨(by simp only [if_neg (of_decide_eq_false c21), if_pos c69]), (by simp only [if_neg (of_decide_eq_false c21), if_pos c69])⟩, ⟨by rw [ht]; exact hP, va_K.moved hW.alike hK, hD⟩⟩, hS.F ht⟩) hS.2.2 dX5_placed_73)
          · have n35 := Int32.not_le.mp c35
            rw [hn] at c35
            have hk : k < n := Nat.lt_of_not_le (fun h => c35 (nI_le h (by omega)))
            refine lv_iload_n hx hb dX5_placed_38 rfl (lv_at hl 1 rfl) ?_
            refine lv_aload_n hx hb dX5_placed_39 rfl (lv_at hl 2 rfl) ?_
            refine lv_iload_n hx hb dX5_placed_40 rfl (lv_at hl 0 rfl) ?_
            refine vp_callSi (W.runV (As := [.int (nI k)]) (rest := [.int (cnt (fun i => fitB g i (v 3) (v 4) (v 5) (v 6) && hasB g i) k)]) ⟨hx, hb, hml, hown, hts⟩ (m_isAsked l dC dI cI cZ cJ a (upd v 0 (thI (bI (!(inB pp 1 100))) 0 0)) g k (by omega)) (cwV 1 hts (gd_V ml_X5_X5_isAsked im_X5_isAsked se_X5_isAsked in_X5 kX5_isAsked) rfl rfl rfl (by decide +kernel) ⟨Nat.le_of_ble_eq_true rfl, Nat.le_of_ble_eq_true rfl⟩) ⟨fun _ U g mk q => by obtain ⟨q0, qP, qK⟩ := q; exact ⟨q0, qP, va_K.moved (u := U) (U := U.calling g mk _) (Vm.Alike.refl U.vm) qK⟩, va_recv hK hP (ci := 5) (q0 := 0) rfl rfl, fun U hU hW => ⟨rfl, by rw [hU]; exact hP, va_K.moved hW.alike hK⟩⟩ rfl rfl hl.1 rfl (lv_room (Nat.le_of_ble_eq_true rfl)) dX5_placed_41 ⟨Nat.le_of_ble_eq_true rfl, Nat.le_of_ble_eq_true rfl⟩) (fun r41 hr41 => ?_)
            replace hr41 : r41 = bI (fitB g k (v 3) (v 4) (v 5) (v 6)) := hr41
            subst hr41
            refine lv_if_eq (tgt := 59) hx hb dX5_placed_44 (by decide) (fun c44 => ?_) (fun c44 => ?_)
            · have c44 := bI_0.mp c44
              refine lv_iconst (v := 0) hx hb dX5_placed_59 (by decide) ?_
              refine lv_iadd hx hb dX5_placed_60 ?_
              refine lv_istore_n (lv' := [(2, .int ((cnt (fun i => fitB g i (v 3) (v 4) (v 5) (v 6) && hasB g i) k) + 0)), (3, .int (nI k)), (0, .ref (a 0)), (1, .int pp)]) hx hb dX5_placed_61 rfl hl (by decide) rfl (fun ls hl => ?_)
              refine lv_iinc (v := nI (k + 1)) (lv' := [(3, .int (nI (k + 1))), (2, .int ((cnt (fun i => fitB g i (v 3) (v 4) (v 5) (v 6) && hasB g i) k) + 0)), (0, .ref (a 0)), (1, .int pp)]) hx hb dX5_placed_62 hl (k := 1) rfl (nI_1 k) (by decide) rfl (fun ls hl => ?_)
              refine lv_goto (tgt := 30) hx hb dX5_placed_65 (by decide) ?_
              have eL0 : (.int (cnt (fun i => fitB g i (v 3) (v 4) (v 5) (v 6) && hasB g i) (k + 1)) : Value) = .int ((cnt (fun i => fitB g i (v 3) (v 4) (v 5) (v 6) && hasB g i) k) + 0) := (by simp [cnt_s, bI, c35, n35, c44])
              exact ih (k + 1) (by omega) (by omega) _ _ hP hD hS ls (by rw [eL0]; exact lv_sub hl [0, 1, 2, 3] rfl)
            · have c44 := bI_n0.mp c44
              refine lv_aload_n hx hb dX5_placed_47 rfl (lv_at hl 2 rfl) ?_
              refine lv_iload_n hx hb dX5_placed_48 rfl (lv_at hl 0 rfl) ?_
              refine vp_callSi (W.runV (As := [.int (nI k)]) (rest := [.int (cnt (fun i => fitB g i (v 3) (v 4) (v 5) (v 6) && hasB g i) k)]) ⟨hx, hb, hml, hown, hts⟩ (m_hasBoth l dC dI cI cZ cJ a (upd v 0 (thI (bI (!(inB pp 1 100))) 0 0)) g k (by omega)) (cwV 1 hts (gd_V ml_X5_X5_hasBoth im_X5_hasBoth se_X5_hasBoth in_X5 kX5_hasBoth) rfl rfl rfl (by decide +kernel) ⟨Nat.le_of_ble_eq_true rfl, Nat.le_of_ble_eq_true rfl⟩) ⟨fun _ U g mk q => by obtain ⟨q0, qP, qK⟩ := q; exact ⟨q0, qP, va_K.moved (u := U) (U := U.calling g mk _) (Vm.Alike.refl U.vm) qK⟩, va_recv hK hP (ci := 5) (q0 := 0) rfl rfl, fun U hU hW => ⟨rfl, by rw [hU]; exact hP, va_K.moved hW.alike hK⟩⟩ rfl rfl hl.1 rfl (lv_room (Nat.le_of_ble_eq_true rfl)) dX5_placed_49 ⟨Nat.le_of_ble_eq_true rfl, Nat.le_of_ble_eq_true rfl⟩) (fun r49 hr49 => ?_)
              subst hr49
              refine lv_if_eq (tgt := 59) hx hb dX5_placed_52 (by decide) (fun c52 => ?_) (fun c52 => ?_)
              · have c52 := bI_0.mp c52
                refine lv_iconst (v := 0) hx hb dX5_placed_59 (by decide) ?_
                refine lv_iadd hx hb dX5_placed_60 ?_
                refine lv_istore_n (lv' := [(2, .int ((cnt (fun i => fitB g i (v 3) (v 4) (v 5) (v 6) && hasB g i) k) + 0)), (3, .int (nI k)), (0, .ref (a 0)), (1, .int pp)]) hx hb dX5_placed_61 rfl hl (by decide) rfl (fun ls hl => ?_)
                refine lv_iinc (v := nI (k + 1)) (lv' := [(3, .int (nI (k + 1))), (2, .int ((cnt (fun i => fitB g i (v 3) (v 4) (v 5) (v 6) && hasB g i) k) + 0)), (0, .ref (a 0)), (1, .int pp)]) hx hb dX5_placed_62 hl (k := 1) rfl (nI_1 k) (by decide) rfl (fun ls hl => ?_)
                refine lv_goto (tgt := 30) hx hb dX5_placed_65 (by decide) ?_
                have eL0 : (.int (cnt (fun i => fitB g i (v 3) (v 4) (v 5) (v 6) && hasB g i) (k + 1)) : Value) = .int ((cnt (fun i => fitB g i (v 3) (v 4) (v 5) (v 6) && hasB g i) k) + 0) := (by simp [cnt_s, bI, c35, n35, c44, c52])
                exact ih (k + 1) (by omega) (by omega) _ _ hP hD hS ls (by rw [eL0]; exact lv_sub hl [0, 1, 2, 3] rfl)
              · have c52 := bI_n0.mp c52
                refine lv_iconst (v := 1) hx hb dX5_placed_55 (by decide) ?_
                refine lv_goto (tgt := 60) hx hb dX5_placed_56 (by decide) ?_
                refine lv_iadd hx hb dX5_placed_60 ?_
                refine lv_istore_n (lv' := [(2, .int ((cnt (fun i => fitB g i (v 3) (v 4) (v 5) (v 6) && hasB g i) k) + 1)), (3, .int (nI k)), (0, .ref (a 0)), (1, .int pp)]) hx hb dX5_placed_61 rfl hl (by decide) rfl (fun ls hl => ?_)
                refine lv_iinc (v := nI (k + 1)) (lv' := [(3, .int (nI (k + 1))), (2, .int ((cnt (fun i => fitB g i (v 3) (v 4) (v 5) (v 6) && hasB g i) k) + 1)), (0, .ref (a 0)), (1, .int pp)]) hx hb dX5_placed_62 hl (k := 1) rfl (nI_1 k) (by decide) rfl (fun ls hl => ?_)
                refine lv_goto (tgt := 30) hx hb dX5_placed_65 (by decide) ?_
                have eL0 : (.int (cnt (fun i => fitB g i (v 3) (v 4) (v 5) (v 6) && hasB g i) (k + 1)) : Value) = .int ((cnt (fun i => fitB g i (v 3) (v 4) (v 5) (v 6) && hasB g i) k) + 1) := (by simp [cnt_s, bI, c35, n35, c44, c52])
                exact ih (k + 1) (by omega) (by omega) _ _ hP hD hS ls (by rw [eL0]; exact lv_sub hl [0, 1, 2, 3] rfl)
      exact lp (n + 1) 0 (by omega) (by omega) _ _ hP hD hS ls (lv_sub hl [0, 1, 2, 3] rfl)
    · have c21 := bI_n0.mp c21
      refine lv_iconst (v := 0) hx hb dX5_placed_24 (by decide) ?_
      exact (W.iret (v := 0) hx hb hr (fun t9 ht hW => ⟨⟨_, ((upd v 0 (thI (bI (!(inB pp 1 100))) 0 0)), g), rfl, ⟨(by simp only [if_pos (of_decide_eq_true c21)]), (by simp only [if_pos (of_decide_eq_true c21)])⟩, ⟨by rw [ht]; exact hP, va_K.moved hW.alike hK, hD⟩⟩, hS.F ht⟩) hS.2.2 dX5_placed_25)
  refine lv_iload_n hx hb dX5_placed_1 rfl (lv_at hl 1 rfl) ?_
  refine lv_iconst (v := 1) hx hb dX5_placed_2 (by decide) ?_
  refine lv_bipush (v := 100) hx hb dX5_placed_3 (by decide) ?_
  refine vp_callSi (W.runS (As := [.int pp, .int 1, .int 100]) (rest := [.ref (a 0)]) ⟨hx, hb, hml, hown, hts⟩ (m_in l dC dI cI cZ cJ a v g pp 1 100) (cwS 3 hts (gd_S ml_X5_X5_in sm_X5_in in_X5 kX5_in) rfl rfl rfl (by decide +kernel) ⟨Nat.le_of_ble_eq_true rfl, Nat.le_of_ble_eq_true rfl⟩) ⟨fun _ U g mk q => by obtain ⟨q0, qP, qK⟩ := q; exact ⟨q0, qP, va_K.moved (u := U) (U := U.calling g mk _) (Vm.Alike.refl U.vm) qK⟩, fun U hU hW => ⟨rfl, by rw [hU]; exact hP, va_K.moved hW.alike hK⟩⟩ rfl rfl hl.1 rfl (lv_room (Nat.le_of_ble_eq_true rfl)) dX5_placed_5 ⟨Nat.le_of_ble_eq_true rfl, Nat.le_of_ble_eq_true rfl⟩) (fun r5 hr5 => ?_)
  subst hr5
  refine lv_if_ne (tgt := 15) hx hb dX5_placed_8 (by decide) (fun c8 => ?_) (fun c8 => ?_)
  · have c8 := bI_n0.mp c8
    refine lv_iconst (v := 0) hx hb dX5_placed_15 (by decide) ?_
    exact jn16 _ (by first | (simp [bI, c8]; done))
  · have c8 := bI_0.mp c8
    refine lv_iconst (v := 1) hx hb dX5_placed_11 (by decide) ?_
    refine lv_goto (tgt := 16) hx hb dX5_placed_12 (by decide) ?_
    exact jn16 _ (by first | (simp [bI, c8]; done))
