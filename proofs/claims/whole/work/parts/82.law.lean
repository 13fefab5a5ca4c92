/-! the law, case by case -/
set_option maxHeartbeats 4000000 in
set_option maxRecDepth 100000 in
theorem law_compare {p : Program} {l : Launch} {e : Env} {s : State} {m : MethodId} {below : List Frame} {meth : Method} {c : Code} {Q : State → Prop} {c0 : Cond} {b L : Nat} {xs : Nat → Int32} {dC : Nat → ClassId} {dI : Nat → Nat → Nat} {cI cZ cJ : ClassId} {a am : Nat → Nat} {o : Nat} {tx : Nat → Nat}
    (hl9 : l.stackTraces = false) (hx : p.tables.exec = Jvm.exec) (hb : c.code = code) (hml : c.maxLocals = 7) (hown : s.vm.findClass RL = some m.cls) (hts : ∀ w ∈ c0 :: allW, w.before #[Value.ref b] s = true) (hX : va_X b L xs s s.heap) (hbl : b < s.heap.size) (hK : va_K (dC, dI) clA (tyA cI cZ cJ) s) (hZ : ZX tx (fun q : Nat => s.heap.size ≤ q) s s.heap) (hC : ZC s)
    {i cells slots : Nat} (hi : i + 7 ≤ L) (hL : L ≤ 3584) (hce : cells + 7 ≤ 601024) (hsl : slots + 42 ≤ 7293034) {v : Nat → Int32} {g : Nat → Nat → Int32} {y : Nat → Int32} {z : Nat → Nat → Int32} {fo : Nat → Int64} {H : Heap} {locs : List Loc} {ls : Array Slot} (hR : Rel v g y z) (hP : va_P (dC, dI) clA (wW cI cZ cJ o fo a v g am y z) H) (hD : va_D (fun q : Nat => s.heap.size ≤ q) (wW cI cZ cJ o fo a v g am y z)) (hS : va_S (fun q : Nat => s.heap.size ≤ q) s.heap H locs) (hl : lv_has ls 7 [(0, .ref b), (1, .ref (a 0)), (2, .ref (am 0)), (3, .ref o), (4, .int (nI i))])
    (kk : ∀ (v1 : Nat → Int32) (g1 : Nat → Nat → Int32) (y1 : Nat → Int32) (z1 : Nat → Nat → Int32) (fo1 : Nat → Int64) (H1 : Heap) (locs1 : List Loc) (ls1 : Array Slot), Rel v1 g1 y1 z1 → va_P (dC, dI) clA (wW cI cZ cJ o fo1 a v1 g1 am y1 z1) H1 → va_D (fun q : Nat => s.heap.size ≤ q) (wW cI cZ cJ o fo1 a v1 g1 am y1 z1) → va_S (fun q : Nat => s.heap.size ≤ q) s.heap H1 locs1 → lv_has ls1 7 [(0, .ref b), (1, .ref (a 0)), (2, .ref (am 0)), (3, .ref o), (4, .int (nI i))] → W p l e room_1 s m #[Value.ref b] below meth c H1 locs1 (cells + 7) (slots + 42) Q (F0 m 1176 ls1 [])) :
    W p l e room_1 s m #[Value.ref b] below meth c H locs cells slots Q (F0 m 683 ls []) := by
  obtain ⟨n, nd, f0, t0, hRl⟩ := hR
  have hn : v 5 = nI n := hRl.1.2.1
  have hn2 : n ≤ 200 := hRl.1.1
  have hy : y 1 = nI n := hRl.1.2.2
  have hnd : v 4 = nI nd := hRl.2.1.2.1
  have hnd2 : nd ≤ 6 := hRl.2.1.1
  have hyd : y 2 = nI nd := hRl.2.1.2.2
  refine lv_aload_n hx hb dL_law_683 rfl (lv_at hl 1 rfl) ?_
  refine lv_aload_n hx hb dL_law_684 rfl (lv_at hl 0 rfl) ?_
  refine lv_iload hx hb dL_law_685 (lv_at hl 4 rfl) ?_
  refine lv_iconst (v := 1) hx hb dL_law_687 (by decide) ?_
  refine lv_iadd hx hb dL_law_688 ?_
  refine lw_sld hx hb hX hbl hS (k := 1) rfl (by omega) hL dL_law_689 ?_
  refine lv_aload_n hx hb dL_law_690 rfl (lv_at hl 0 rfl) ?_
  refine lv_iload hx hb dL_law_691 (lv_at hl 4 rfl) ?_
  refine lv_iconst (v := 2) hx hb dL_law_693 (by decide) ?_
  refine lv_iadd hx hb dL_law_694 ?_
  refine lw_sld hx hb hX hbl hS (k := 2) rfl (by omega) hL dL_law_695 ?_
  refine lv_aload_n hx hb dL_law_696 rfl (lv_at hl 3 rfl) ?_
  have hPc := hP.sub (ws' := wL cI cZ cJ o fo a v g) [0, 1, 2, 3, 4, 5, 6, 7, 8, 9, 10, 11, 12, 13, 14, 15, 16, 17, 18, 19, 20] rfl
  have hDc := hD.sub (ws' := wL cI cZ cJ o fo a v g) [0, 1, 2, 3, 4, 5, 6, 7, 8, 9, 10, 11, 12, 13, 14, 15, 16, 17, 18, 19, 20] (by decide) rfl
  have hFc := va_free (wc := wL cI cZ cJ o fo a v g) hD hS (fun _ h => h) [0, 1, 2, 3, 4, 5, 6, 7, 8, 9, 10, 11, 12, 13, 14, 15, 16, 17, 18, 19, 20] rfl
  refine va_calli (vx_runSW (As := [.ref (a 0), .int (xs (i + 1)), .int (xs (i + 2)), .ref o]) (rest := []) ⟨hx, hb, hml, hown, hts⟩ (w_compare l hl9 dC dI cI cZ cJ a tx v g o fo H.size n hn hn2 nd hnd hnd2 (xs (i + 1)) (xs (i + 2))) (vx_cwSW 4 hts (gd_SW ml_L_L_compare sm_L_compare in_L kL_compare) rfl rfl rfl (by decide +kernel) ⟨Nat.le_of_ble_eq_true rfl, Nat.le_of_ble_eq_true rfl⟩) ⟨fun _ U g mk q => by obtain ⟨q0, q1, qP, qK, qD, qZ, qC⟩ := q; exact ⟨q0, q1, qP, va_K.moved (u := U) (U := U.calling g mk _) (Vm.Alike.refl U.vm) qK, qD, ZX.calling qZ, ZC.moved (u := U) (U := U.calling g mk _) (Vm.Alike.refl U.vm) qC⟩, fun U hU hW => ⟨rfl, by rw [hU], by rw [hU]; exact hPc, va_K.moved hW.alike hK, hDc.weaken (fun _ _ _ _ => trivial), ZX.call hZ hS hFc hW hU, ZC.moved hW.alike hC⟩⟩ rfl rfl hl.1 rfl (lv_room (Nat.le_of_ble_eq_true rfl)) dL_law_697 ⟨by show _ ≤ 601024; omega, by show _ ≤ 7293034; omega⟩) hS (fun q _ h => hFc q h) hFc (fun r1 u1 t1 H1 locs1 ht1 hvm1 hw hB hz1 hk1 hS => ?_)
  obtain ⟨⟨v1, g1⟩, fo1⟩ := u1
  obtain ⟨hP1, hK1, hD1⟩ := hB
  rw [ht1] at hP1
  obtain ⟨hPj, hDj⟩ := va_join (wr := wM cI cZ am y z) (w1 := wL cI cZ cJ o fo1 a v1 g1) hP hD [0, 1, 2, 3, 4, 5, 6, 7, 8, 9, 10, 11, 12, 13, 14, 15, 16, 17, 18, 19, 20] [21, 22, 23, 24, 25, 26, 27, 28, 29, 30, 31, 32, 33, 34, 35, 36, 37] rfl rfl (by decide) (by decide) hk1 hFc hP1 hD1
  have hP := hPj.sub (ws' := wW cI cZ cJ o fo1 a v1 g1 am y z) [17, 18, 19, 20, 21, 22, 23, 24, 25, 26, 27, 28, 29, 30, 31, 32, 33, 34, 35, 36, 37, 0, 1, 2, 3, 4, 5, 6, 7, 8, 9, 10, 11, 12, 13, 14, 15, 16] rfl
  have hD := hDj.sub (ws' := wW cI cZ cJ o fo1 a v1 g1 am y z) [17, 18, 19, 20, 21, 22, 23, 24, 25, 26, 27, 28, 29, 30, 31, 32, 33, 34, 35, 36, 37, 0, 1, 2, 3, 4, 5, 6, 7, 8, 9, 10, 11, 12, 13, 14, 15, 16] (by decide) rfl
  refine W.widen (k := cells + 7) (n := slots + 42) (by omega) (by omega) ?_
  refine lv_istore (lv' := [(5, .int r1), (0, .ref b), (1, .ref (a 0)), (2, .ref (am 0)), (3, .ref o), (4, .int (nI i))]) hx hb dL_law_700 hl (by decide) rfl (fun ls hl => ?_)
  refine lv_aload_n hx hb dL_law_702 rfl (lv_at hl 3 rfl) ?_
  refine lv_aload_n hx hb dL_law_703 rfl (lv_at hl 1 rfl) ?_
  refine lv_iload hx hb dL_law_704 (lv_at hl 5 rfl) ?_
  refine lv_iconst (v := 1) hx hb dL_law_706 (by decide) ?_
  refine lv_iadd hx hb dL_law_707 ?_
  refine lw_sld hx hb hX hbl hS (k := 1) rfl (by omega) hL dL_law_708 ?_
  refine lv_aload_n hx hb dL_law_709 rfl (lv_at hl 1 rfl) ?_
  refine lv_iload hx hb dL_law_710 (lv_at hl 5 rfl) ?_
  refine lv_iconst (v := 2) hx hb dL_law_712 (by decide) ?_
  refine lv_iadd hx hb dL_law_713 ?_
  refine lw_sld hx hb hX hbl hS (k := 2) rfl (by omega) hL dL_law_714 ?_
  have hPm := hP.sub (ws' := wM cI cZ am y z) [21, 22, 23, 24, 25, 26, 27, 28, 29, 30, 31, 32, 33, 34, 35, 36, 37] rfl
  have hDm := hD.sub (ws' := wM cI cZ am y z) [21, 22, 23, 24, 25, 26, 27, 28, 29, 30, 31, 32, 33, 34, 35, 36, 37] (by decide) rfl
  have hFm := va_free (wc := wM cI cZ am y z) hD hS (fun _ h => h) [21, 22, 23, 24, 25, 26, 27, 28, 29, 30, 31, 32, 33, 34, 35, 36, 37] rfl
  refine va_calli (va_runV (As := [.int (xs (i + 1)), .int (xs (i + 2))]) (rest := []) ⟨hx, hb, hml, hown, hts⟩ (m_compare l dC dI cI cZ cJ am y z H1.size n hy hn2 nd hyd hnd2 (xs (i + 1)) (xs (i + 2))) (cwV 2 hts (gd_V ml_L_X5_compare im_X5_compare se_X5_compare in_X5 kX5_compare) rfl rfl rfl (by decide +kernel) ⟨Nat.le_of_ble_eq_true rfl, Nat.le_of_ble_eq_true rfl⟩) ⟨fun _ U g mk q => by obtain ⟨q0, q1, qP, qK, qD⟩ := q; exact ⟨q0, q1, qP, va_K.moved (u := U) (U := U.calling g mk _) (Vm.Alike.refl U.vm) qK, qD⟩, va_recv hK hPm (ci := 5) (q0 := 0) rfl rfl, fun U hU hW => ⟨rfl, by rw [hU], by rw [hU]; exact hPm, va_K.moved hW.alike hK, hDm.weaken (fun _ _ _ _ => trivial)⟩⟩ rfl rfl hl.1 rfl (lv_room (Nat.le_of_ble_eq_true rfl)) dL_law_715 ⟨by show _ ≤ 601024; omega, by show _ ≤ 7293034; omega⟩) hS (fun q _ h => hFm q h) hFm (fun b2 u2 t2 H2 locs2 ht2 hvm2 hm hB2 hz2 hk2 hS => ?_)
  obtain ⟨y1, z1⟩ := u2
  obtain ⟨hP2, hK2, hD2⟩ := hB2
  rw [ht2] at hP2
  obtain ⟨hPj, hDj⟩ := va_join (wr := wL cI cZ cJ o fo1 a v1 g1) (w1 := wM cI cZ am y1 z1) hP hD [21, 22, 23, 24, 25, 26, 27, 28, 29, 30, 31, 32, 33, 34, 35, 36, 37] [0, 1, 2, 3, 4, 5, 6, 7, 8, 9, 10, 11, 12, 13, 14, 15, 16, 17, 18, 19, 20] rfl rfl (by decide) (by decide) hk2 hFm hP2 hD2
  have hP : va_P (dC, dI) clA (wW cI cZ cJ o fo1 a v1 g1 am y1 z1) H2 := hPj
  have hD : va_D (fun q : Nat => s.heap.size ≤ q) (wW cI cZ cJ o fo1 a v1 g1 am y1 z1) := hDj
  refine lv_istore (lv' := [(6, .int b2), (5, .int r1), (0, .ref b), (1, .ref (a 0)), (2, .ref (am 0)), (3, .ref o), (4, .int (nI i))]) hx hb dL_law_718 hl (by decide) rfl (fun ls hl => ?_)
  have st := st_compare hRl hw hm
  have e1 : y1 0 = r1 := st.1
  have e2 : r1 = 0 → fo1 0 = b2.toInt64 := st.2.1
  have e3 : Rel v1 g1 y1 z1 := st.2.2
  refine lv_aload_n hx hb dL_law_720 rfl (lv_at hl 4 rfl) ?_
  have hPt := hP.sub (ws' := wM cI cZ am y1 z1) [21, 22, 23, 24, 25, 26, 27, 28, 29, 30, 31, 32, 33, 34, 35, 36, 37] rfl
  refine vp_callSi (W.runV (As := []) (rest := []) ⟨hx, hb, hml, hown, hts⟩ (m_thrown l dC dI cI cZ cJ am y1 z1) (cwV 0 hts (gd_V ml_L_X5_thrown im_X5_thrown se_X5_thrown in_X5 kX5_thrown) rfl rfl rfl (by decide +kernel) ⟨Nat.le_of_ble_eq_true rfl, Nat.le_of_ble_eq_true rfl⟩) ⟨fun _ U g mk q => by obtain ⟨q0, qP, qK⟩ := q; exact ⟨q0, qP, va_K.moved (u := U) (U := U.calling g mk _) (Vm.Alike.refl U.vm) qK⟩, va_recv hK hPt (ci := 5) (q0 := 0) rfl rfl, fun U hU hW => ⟨rfl, by rw [hU]; exact hPt, va_K.moved hW.alike hK⟩⟩ rfl rfl hl.1 rfl (lv_room (Nat.le_of_ble_eq_true rfl)) dL_law_721 ⟨by show _ ≤ 601024; omega, by show _ ≤ 7293034; omega⟩) (fun r9 hr9 => ?_)
  refine lv_iload hx hb dL_law_724 (lv_at hl 1 rfl) ?_
  refine lv_icmp_eq (tgt := 731) hx hb dL_law_726 (by decide) (fun c9 => ?_) (fun c9 => absurd (hr9.trans e1) c9)
  refine lv_iload hx hb dL_law_731 (lv_at hl 1 rfl) ?_
  refine lv_if_ne (tgt := 748) hx hb dL_law_733 (by decide) (fun c8 => ?_) (fun c8 => ?_)
  · refine lv_goto (tgt := 1176) hx hb dL_law_748 (by decide) ?_
    exact kk v1 g1 y1 z1 fo1 _ _ _ e3 hP hD hS (lv_sub hl [2, 3, 4, 5, 6] rfl)
  · refine lv_aload_n hx hb dL_law_736 rfl (lv_at hl 5 rfl) ?_
    refine lv_iconst (v := 0) hx hb dL_law_737 (by decide) ?_
    refine va_lald hx hb hK hP 0 2 rfl rfl (vp_in_nI (n := 0) (N := 1) (by decide) (by decide)) dL_law_738 ?_
    refine lv_iload hx hb dL_law_739 (lv_at hl 0 rfl) ?_
    refine lv_i2l (v := b2.toInt64) hx hb dL_law_741 rfl ?_
    refine W.lcmp hx hb dL_law_742 ?_
    refine lv_if_eq (tgt := 748) hx hb dL_law_743 (by decide) (fun c7 => ?_) (fun c7 => absurd (lw_eq (show fo1 (0 : Int32).toNatClampNeg = b2.toInt64 from e2 c8)) c7)
    refine lv_goto (tgt := 1176) hx hb dL_law_748 (by decide) ?_
    exact kk v1 g1 y1 z1 fo1 _ _ _ e3 hP hD hS (lv_sub hl [2, 3, 4, 5, 6] rfl)
set_option maxHeartbeats 4000000 in
set_option maxRecDepth 100000 in
theorem law_trend {p : Program} {l : Launch} {e : Env} {s : State} {m : MethodId} {below : List Frame} {meth : Method} {c : Code} {Q : State → Prop} {c0 : Cond} {b L : Nat} {xs : Nat → Int32} {dC : Nat → ClassId} {dI : Nat → Nat → Nat} {cI cZ cJ : ClassId} {a am : Nat → Nat} {o : Nat} {tx : Nat → Nat}
    (hl9 : l.stackTraces = false) (hx : p.tables.exec = Jvm.exec) (hb : c.code = code) (hml : c.maxLocals = 7) (hown : s.vm.findClass RL = some m.cls) (hts : ∀ w ∈ c0 :: allW, w.before #[Value.ref b] s = true) (hX : va_X b L xs s s.heap) (hbl : b < s.heap.size) (hK : va_K (dC, dI) clA (tyA cI cZ cJ) s) (hZ : ZX tx (fun q : Nat => s.heap.size ≤ q) s s.heap) (hC : ZC s)
    {i cells slots : Nat} (hi : i + 7 ≤ L) (hL : L ≤ 3584) (hce : cells + 7 ≤ 601024) (hsl : slots + 42 ≤ 7293034) {v : Nat → Int32} {g : Nat → Nat → Int32} {y : Nat → Int32} {z : Nat → Nat → Int32} {fo : Nat → Int64} {H : Heap} {locs : List Loc} {ls : Array Slot} (hR : Rel v g y z) (hP : va_P (dC, dI) clA (wW cI cZ cJ o fo a v g am y z) H) (hD : va_D (fun q : Nat => s.heap.size ≤ q) (wW cI cZ cJ o fo a v g am y z)) (hS : va_S (fun q : Nat => s.heap.size ≤ q) s.heap H locs) (hl : lv_has ls 7 [(0, .ref b), (1, .ref (a 0)), (2, .ref (am 0)), (3, .ref o), (4, .int (nI i))])
    (kk : ∀ (v1 : Nat → Int32) (g1 : Nat → Nat → Int32) (y1 : Nat → Int32) (z1 : Nat → Nat → Int32) (fo1 : Nat → Int64) (H1 : Heap) (locs1 : List Loc) (ls1 : Array Slot), Rel v1 g1 y1 z1 → va_P (dC, dI) clA (wW cI cZ cJ o fo1 a v1 g1 am y1 z1) H1 → va_D (fun q : Nat => s.heap.size ≤ q) (wW cI cZ cJ o fo1 a v1 g1 am y1 z1) → va_S (fun q : Nat => s.heap.size ≤ q) s.heap H1 locs1 → lv_has ls1 7 [(0, .ref b), (1, .ref (a 0)), (2, .ref (am 0)), (3, .ref o), (4, .int (nI i))] → W p l e room_1 s m #[Value.ref b] below meth c H1 locs1 (cells + 7) (slots + 42) Q (F0 m 1176 ls1 [])) :
    W p l e room_1 s m #[Value.ref b] below meth c H locs cells slots Q (F0 m 751 ls []) := by
  obtain ⟨n, nd, f0, t0, hRl⟩ := hR
  have hn : v 5 = nI n := hRl.1.2.1
  have hn2 : n ≤ 200 := hRl.1.1
  have hy : y 1 = nI n := hRl.1.2.2
  have hnd : v 4 = nI nd := hRl.2.1.2.1
  have hnd2 : nd ≤ 6 := hRl.2.1.1
  have hyd : y 2 = nI nd := hRl.2.1.2.2
  refine lv_aload_n hx hb dL_law_751 rfl (lv_at hl 1 rfl) ?_
  refine lv_aload_n hx hb dL_law_752 rfl (lv_at hl 0 rfl) ?_
  refine lv_iload hx hb dL_law_753 (lv_at hl 4 rfl) ?_
  refine lv_iconst (v := 1) hx hb dL_law_755 (by decide) ?_
  refine lv_iadd hx hb dL_law_756 ?_
  refine lw_sld hx hb hX hbl hS (k := 1) rfl (by omega) hL dL_law_757 ?_
  refine lv_aload_n hx hb dL_law_758 rfl (lv_at hl 0 rfl) ?_
  refine lv_iload hx hb dL_law_759 (lv_at hl 4 rfl) ?_
  refine lv_iconst (v := 2) hx hb dL_law_761 (by decide) ?_
  refine lv_iadd hx hb dL_law_762 ?_
  refine lw_sld hx hb hX hbl hS (k := 2) rfl (by omega) hL dL_law_763 ?_
  refine lv_aload_n hx hb dL_law_764 rfl (lv_at hl 0 rfl) ?_
  refine lv_iload hx hb dL_law_765 (lv_at hl 4 rfl) ?_
  refine lv_iconst (v := 3) hx hb dL_law_767 (by decide) ?_
  refine lv_iadd hx hb dL_law_768 ?_
  refine lw_sld hx hb hX hbl hS (k := 3) rfl (by omega) hL dL_law_769 ?_
  refine lv_aload_n hx hb dL_law_770 rfl (lv_at hl 0 rfl) ?_
  refine lv_iload hx hb dL_law_771 (lv_at hl 4 rfl) ?_
  refine lv_iconst (v := 4) hx hb dL_law_773 (by decide) ?_
  refine lv_iadd hx hb dL_law_774 ?_
  refine lw_sld hx hb hX hbl hS (k := 4) rfl (by omega) hL dL_law_775 ?_
  refine lv_aload_n hx hb dL_law_776 rfl (lv_at hl 3 rfl) ?_
  have hPc := hP.sub (ws' := wL cI cZ cJ o fo a v g) [0, 1, 2, 3, 4, 5, 6, 7, 8, 9, 10, 11, 12, 13, 14, 15, 16, 17, 18, 19, 20] rfl
  have hDc := hD.sub (ws' := wL cI cZ cJ o fo a v g) [0, 1, 2, 3, 4, 5, 6, 7, 8, 9, 10, 11, 12, 13, 14, 15, 16, 17, 18, 19, 20] (by decide) rfl
  have hFc := va_free (wc := wL cI cZ cJ o fo a v g) hD hS (fun _ h => h) [0, 1, 2, 3, 4, 5, 6, 7, 8, 9, 10, 11, 12, 13, 14, 15, 16, 17, 18, 19, 20] rfl
  refine va_calli (vx_runSW (As := [.ref (a 0), .int (xs (i + 1)), .int (xs (i + 2)), .int (xs (i + 3)), .int (xs (i + 4)), .ref o]) (rest := []) ⟨hx, hb, hml, hown, hts⟩ (w_trend l hl9 dC dI cI cZ cJ a tx v g o fo H.size n hn hn2 (xs (i + 1)) (xs (i + 2)) (xs (i + 3)) (xs (i + 4))) (vx_cwSW 6 hts (gd_SW ml_L_L_trend sm_L_trend in_L kL_trend) rfl rfl rfl (by decide +kernel) ⟨Nat.le_of_ble_eq_true rfl, Nat.le_of_ble_eq_true rfl⟩) ⟨fun _ U g mk q => by obtain ⟨q0, q1, qP, qK, qD, qZ, qC⟩ := q; exact ⟨q0, q1, qP, va_K.moved (u := U) (U := U.calling g mk _) (Vm.Alike.refl U.vm) qK, qD, ZX.calling qZ, ZC.moved (u := U) (U := U.calling g mk _) (Vm.Alike.refl U.vm) qC⟩, fun U hU hW => ⟨rfl, by rw [hU], by rw [hU]; exact hPc, va_K.moved hW.alike hK, hDc.weaken (fun _ _ _ _ => trivial), ZX.call hZ hS hFc hW hU, ZC.moved hW.alike hC⟩⟩ rfl rfl hl.1 rfl (lv_room (Nat.le_of_ble_eq_true rfl)) dL_law_777 ⟨by show _ ≤ 601024; omega, by show _ ≤ 7293034; omega⟩) hS (fun q _ h => hFc q h) hFc (fun r1 u1 t1 H1 locs1 ht1 hvm1 hw hB hz1 hk1 hS => ?_)
  obtain ⟨⟨v1, g1⟩, fo1⟩ := u1
  obtain ⟨hP1, hK1, hD1⟩ := hB
  rw [ht1] at hP1
  obtain ⟨hPj, hDj⟩ := va_join (wr := wM cI cZ am y z) (w1 := wL cI cZ cJ o fo1 a v1 g1) hP hD [0, 1, 2, 3, 4, 5, 6, 7, 8, 9, 10, 11, 12, 13, 14, 15, 16, 17, 18, 19, 20] [21, 22, 23, 24, 25, 26, 27, 28, 29, 30, 31, 32, 33, 34, 35, 36, 37] rfl rfl (by decide) (by decide) hk1 hFc hP1 hD1
  have hP := hPj.sub (ws' := wW cI cZ cJ o fo1 a v1 g1 am y z) [17, 18, 19, 20, 21, 22, 23, 24, 25, 26, 27, 28, 29, 30, 31, 32, 33, 34, 35, 36, 37, 0, 1, 2, 3, 4, 5, 6, 7, 8, 9, 10, 11, 12, 13, 14, 15, 16] rfl
  have hD := hDj.sub (ws' := wW cI cZ cJ o fo1 a v1 g1 am y z) [17, 18, 19, 20, 21, 22, 23, 24, 25, 26, 27, 28, 29, 30, 31, 32, 33, 34, 35, 36, 37, 0, 1, 2, 3, 4, 5, 6, 7, 8, 9, 10, 11, 12, 13, 14, 15, 16] (by decide) rfl
  refine W.widen (k := cells + 7) (n := slots + 42) (by omega) (by omega) ?_
  refine lv_istore (lv' := [(5, .int r1), (0, .ref b), (1, .ref (a 0)), (2, .ref (am 0)), (3, .ref o), (4, .int (nI i))]) hx hb dL_law_780 hl (by decide) rfl (fun ls hl => ?_)
  refine lv_aload_n hx hb dL_law_782 rfl (lv_at hl 3 rfl) ?_
  refine lv_aload_n hx hb dL_law_783 rfl (lv_at hl 1 rfl) ?_
  refine lv_iload hx hb dL_law_784 (lv_at hl 5 rfl) ?_
  refine lv_iconst (v := 1) hx hb dL_law_786 (by decide) ?_
  refine lv_iadd hx hb dL_law_787 ?_
  refine lw_sld hx hb hX hbl hS (k := 1) rfl (by omega) hL dL_law_788 ?_
  refine lv_aload_n hx hb dL_law_789 rfl (lv_at hl 1 rfl) ?_
  refine lv_iload hx hb dL_law_790 (lv_at hl 5 rfl) ?_
  refine lv_iconst (v := 2) hx hb dL_law_792 (by decide) ?_
  refine lv_iadd hx hb dL_law_793 ?_
  refine lw_sld hx hb hX hbl hS (k := 2) rfl (by omega) hL dL_law_794 ?_
  refine lv_aload_n hx hb dL_law_795 rfl (lv_at hl 1 rfl) ?_
  refine lv_iload hx hb dL_law_796 (lv_at hl 5 rfl) ?_
  refine lv_iconst (v := 3) hx hb dL_law_798 (by decide) ?_
  refine lv_iadd hx hb dL_law_799 ?_
  refine lw_sld hx hb hX hbl hS (k := 3) rfl (by omega) hL dL_law_800 ?_
  refine lv_aload_n hx hb dL_law_801 rfl (lv_at hl 1 rfl) ?_
  refine lv_iload hx hb dL_law_802 (lv_at hl 5 rfl) ?_
  refine lv_iconst (v := 4) hx hb dL_law_804 (by decide) ?_
  refine lv_iadd hx hb dL_law_805 ?_
  refine lw_sld hx hb hX hbl hS (k := 4) rfl (by omega) hL dL_law_806 ?_
  have hPm := hP.sub (ws' := wM cI cZ am y z) [21, 22, 23, 24, 25, 26, 27, 28, 29, 30, 31, 32, 33, 34, 35, 36, 37] rfl
  have hDm := hD.sub (ws' := wM cI cZ am y z) [21, 22, 23, 24, 25, 26, 27, 28, 29, 30, 31, 32, 33, 34, 35, 36, 37] (by decide) rfl
  have hFm := va_free (wc := wM cI cZ am y z) hD hS (fun _ h => h) [21, 22, 23, 24, 25, 26, 27, 28, 29, 30, 31, 32, 33, 34, 35, 36, 37] rfl
  refine va_calli (va_runV (As := [.int (xs (i + 1)), .int (xs (i + 2)), .int (xs (i + 3)), .int (xs (i + 4))]) (rest := []) ⟨hx, hb, hml, hown, hts⟩ (m_trend l dC dI cI cZ cJ am y z H1.size n hy hn2 (xs (i + 1)) (xs (i + 2)) (xs (i + 3)) (xs (i + 4))) (cwV 4 hts (gd_V ml_L_X5_trend im_X5_trend se_X5_trend in_X5 kX5_trend) rfl rfl rfl (by decide +kernel) ⟨Nat.le_of_ble_eq_true rfl, Nat.le_of_ble_eq_true rfl⟩) ⟨fun _ U g mk q => by obtain ⟨q0, q1, qP, qK, qD⟩ := q; exact ⟨q0, q1, qP, va_K.moved (u := U) (U := U.calling g mk _) (Vm.Alike.refl U.vm) qK, qD⟩, va_recv hK hPm (ci := 5) (q0 := 0) rfl rfl, fun U hU hW => ⟨rfl, by rw [hU], by rw [hU]; exact hPm, va_K.moved hW.alike hK, hDm.weaken (fun _ _ _ _ => trivial)⟩⟩ rfl rfl hl.1 rfl (lv_room (Nat.le_of_ble_eq_true rfl)) dL_law_807 ⟨by show _ ≤ 601024; omega, by show _ ≤ 7293034; omega⟩) hS (fun q _ h => hFm q h) hFm (fun b2 u2 t2 H2 locs2 ht2 hvm2 hm hB2 hz2 hk2 hS => ?_)
  obtain ⟨y1, z1⟩ := u2
  obtain ⟨hP2, hK2, hD2⟩ := hB2
  rw [ht2] at hP2
  obtain ⟨hPj, hDj⟩ := va_join (wr := wL cI cZ cJ o fo1 a v1 g1) (w1 := wM cI cZ am y1 z1) hP hD [21, 22, 23, 24, 25, 26, 27, 28, 29, 30, 31, 32, 33, 34, 35, 36, 37] [0, 1, 2, 3, 4, 5, 6, 7, 8, 9, 10, 11, 12, 13, 14, 15, 16, 17, 18, 19, 20] rfl rfl (by decide) (by decide) hk2 hFm hP2 hD2
  have hP : va_P (dC, dI) clA (wW cI cZ cJ o fo1 a v1 g1 am y1 z1) H2 := hPj
  have hD : va_D (fun q : Nat => s.heap.size ≤ q) (wW cI cZ cJ o fo1 a v1 g1 am y1 z1) := hDj
  refine lv_istore (lv' := [(6, .int b2), (5, .int r1), (0, .ref b), (1, .ref (a 0)), (2, .ref (am 0)), (3, .ref o), (4, .int (nI i))]) hx hb dL_law_810 hl (by decide) rfl (fun ls hl => ?_)
  have st := st_trend hRl hw hm
  have e1 : y1 0 = r1 := st.1
  have e2 : r1 = 0 → fo1 0 = b2.toInt64 := st.2.1
  have e3 : Rel v1 g1 y1 z1 := st.2.2
  refine lv_aload_n hx hb dL_law_812 rfl (lv_at hl 4 rfl) ?_
  have hPt := hP.sub (ws' := wM cI cZ am y1 z1) [21, 22, 23, 24, 25, 26, 27, 28, 29, 30, 31, 32, 33, 34, 35, 36, 37] rfl
  refine vp_callSi (W.runV (As := []) (rest := []) ⟨hx, hb, hml, hown, hts⟩ (m_thrown l dC dI cI cZ cJ am y1 z1) (cwV 0 hts (gd_V ml_L_X5_thrown im_X5_thrown se_X5_thrown in_X5 kX5_thrown) rfl rfl rfl (by decide +kernel) ⟨Nat.le_of_ble_eq_true rfl, Nat.le_of_ble_eq_true rfl⟩) ⟨fun _ U g mk q => by obtain ⟨q0, qP, qK⟩ := q; exact ⟨q0, qP, va_K.moved (u := U) (U := U.calling g mk _) (Vm.Alike.refl U.vm) qK⟩, va_recv hK hPt (ci := 5) (q0 := 0) rfl rfl, fun U hU hW => ⟨rfl, by rw [hU]; exact hPt, va_K.moved hW.alike hK⟩⟩ rfl rfl hl.1 rfl (lv_room (Nat.le_of_ble_eq_true rfl)) dL_law_813 ⟨by show _ ≤ 601024; omega, by show _ ≤ 7293034; omega⟩) (fun r9 hr9 => ?_)
  refine lv_iload hx hb dL_law_816 (lv_at hl 1 rfl) ?_
  refine lv_icmp_eq (tgt := 823) hx hb dL_law_818 (by decide) (fun c9 => ?_) (fun c9 => absurd (hr9.trans e1) c9)
  refine lv_iload hx hb dL_law_823 (lv_at hl 1 rfl) ?_
  refine lv_if_ne (tgt := 840) hx hb dL_law_825 (by decide) (fun c8 => ?_) (fun c8 => ?_)
  · refine lv_goto (tgt := 1176) hx hb dL_law_840 (by decide) ?_
    exact kk v1 g1 y1 z1 fo1 _ _ _ e3 hP hD hS (lv_sub hl [2, 3, 4, 5, 6] rfl)
  · refine lv_aload_n hx hb dL_law_828 rfl (lv_at hl 5 rfl) ?_
    refine lv_iconst (v := 0) hx hb dL_law_829 (by decide) ?_
    refine va_lald hx hb hK hP 0 2 rfl rfl (vp_in_nI (n := 0) (N := 1) (by decide) (by decide)) dL_law_830 ?_
    refine lv_iload hx hb dL_law_831 (lv_at hl 0 rfl) ?_
    refine lv_i2l (v := b2.toInt64) hx hb dL_law_833 rfl ?_
    refine W.lcmp hx hb dL_law_834 ?_
    refine lv_if_eq (tgt := 840) hx hb dL_law_835 (by decide) (fun c7 => ?_) (fun c7 => absurd (lw_eq (show fo1 (0 : Int32).toNatClampNeg = b2.toInt64 from e2 c8)) c7)
    refine lv_goto (tgt := 1176) hx hb dL_law_840 (by decide) ?_
    exact kk v1 g1 y1 z1 fo1 _ _ _ e3 hP hD hS (lv_sub hl [2, 3, 4, 5, 6] rfl)
set_option maxHeartbeats 4000000 in
set_option maxRecDepth 100000 in
theorem law_people {p : Program} {l : Launch} {e : Env} {s : State} {m : MethodId} {below : List Frame} {meth : Method} {c : Code} {Q : State → Prop} {c0 : Cond} {b L : Nat} {xs : Nat → Int32} {dC : Nat → ClassId} {dI : Nat → Nat → Nat} {cI cZ cJ : ClassId} {a am : Nat → Nat} {o : Nat} {tx : Nat → Nat}
    (hl9 : l.stackTraces = false) (hx : p.tables.exec = Jvm.exec) (hb : c.code = code) (hml : c.maxLocals = 7) (hown : s.vm.findClass RL = some m.cls) (hts : ∀ w ∈ c0 :: allW, w.before #[Value.ref b] s = true) (hX : va_X b L xs s s.heap) (hbl : b < s.heap.size) (hK : va_K (dC, dI) clA (tyA cI cZ cJ) s) (hZ : ZX tx (fun q : Nat => s.heap.size ≤ q) s s.heap) (hC : ZC s)
    {i cells slots : Nat} (hi : i + 7 ≤ L) (hL : L ≤ 3584) (hce : cells + 7 ≤ 601024) (hsl : slots + 42 ≤ 7293034) {v : Nat → Int32} {g : Nat → Nat → Int32} {y : Nat → Int32} {z : Nat → Nat → Int32} {fo : Nat → Int64} {H : Heap} {locs : List Loc} {ls : Array Slot} (hR : Rel v g y z) (hP : va_P (dC, dI) clA (wW cI cZ cJ o fo a v g am y z) H) (hD : va_D (fun q : Nat => s.heap.size ≤ q) (wW cI cZ cJ o fo a v g am y z)) (hS : va_S (fun q : Nat => s.heap.size ≤ q) s.heap H locs) (hl : lv_has ls 7 [(0, .ref b), (1, .ref (a 0)), (2, .ref (am 0)), (3, .ref o), (4, .int (nI i))])
    (kk : ∀ (v1 : Nat → Int32) (g1 : Nat → Nat → Int32) (y1 : Nat → Int32) (z1 : Nat → Nat → Int32) (fo1 : Nat → Int64) (H1 : Heap) (locs1 : List Loc) (ls1 : Array Slot), Rel v1 g1 y1 z1 → va_P (dC, dI) clA (wW cI cZ cJ o fo1 a v1 g1 am y1 z1) H1 → va_D (fun q : Nat => s.heap.size ≤ q) (wW cI cZ cJ o fo1 a v1 g1 am y1 z1) → va_S (fun q : Nat => s.heap.size ≤ q) s.heap H1 locs1 → lv_has ls1 7 [(0, .ref b), (1, .ref (a 0)), (2, .ref (am 0)), (3, .ref o), (4, .int (nI i))] → W p l e room_1 s m #[Value.ref b] below meth c H1 locs1 (cells + 7) (slots + 42) Q (F0 m 1176 ls1 [])) :
    W p l e room_1 s m #[Value.ref b] below meth c H locs cells slots Q (F0 m 843 ls []) := by
  obtain ⟨n, nd, f0, t0, hRl⟩ := hR
  have hn : v 5 = nI n := hRl.1.2.1
  have hn2 : n ≤ 200 := hRl.1.1
  have hy : y 1 = nI n := hRl.1.2.2
  have hnd : v 4 = nI nd := hRl.2.1.2.1
  have hnd2 : nd ≤ 6 := hRl.2.1.1
  have hyd : y 2 = nI nd := hRl.2.1.2.2
  refine lv_aload_n hx hb dL_law_843 rfl (lv_at hl 1 rfl) ?_
  refine lv_aload_n hx hb dL_law_844 rfl (lv_at hl 0 rfl) ?_
  refine lv_iload hx hb dL_law_845 (lv_at hl 4 rfl) ?_
  refine lv_iconst (v := 1) hx hb dL_law_847 (by decide) ?_
  refine lv_iadd hx hb dL_law_848 ?_
  refine lw_sld hx hb hX hbl hS (k := 1) rfl (by omega) hL dL_law_849 ?_
  refine lv_aload_n hx hb dL_law_850 rfl (lv_at hl 0 rfl) ?_
  refine lv_iload hx hb dL_law_851 (lv_at hl 4 rfl) ?_
  refine lv_iconst (v := 2) hx hb dL_law_853 (by decide) ?_
  refine lv_iadd hx hb dL_law_854 ?_
  refine lw_sld hx hb hX hbl hS (k := 2) rfl (by omega) hL dL_law_855 ?_
  have hPc := hP.sub (ws' := wA cI cZ a v g) [1, 2, 3, 4, 5, 6, 7, 8, 9, 10, 11, 12, 13, 14, 15, 16, 17, 18, 19, 20] rfl
  have hDc := hD.sub (ws' := wA cI cZ a v g) [1, 2, 3, 4, 5, 6, 7, 8, 9, 10, 11, 12, 13, 14, 15, 16, 17, 18, 19, 20] (by decide) rfl
  have hFc := va_free (wc := wA cI cZ a v g) hD hS (fun _ h => h) [1, 2, 3, 4, 5, 6, 7, 8, 9, 10, 11, 12, 13, 14, 15, 16, 17, 18, 19, 20] rfl
  refine va_calli (vx_runSW (As := [.ref (a 0), .int (xs (i + 1)), .int (xs (i + 2))]) (rest := []) ⟨hx, hb, hml, hown, hts⟩ (w_people l hl9 dC dI cI cZ cJ a tx v g H.size  (xs (i + 1)) (xs (i + 2))) (vx_cwSW 3 hts (gd_SW ml_L_L_people sm_L_people in_L kL_people) rfl rfl rfl (by decide +kernel) ⟨Nat.le_of_ble_eq_true rfl, Nat.le_of_ble_eq_true rfl⟩) ⟨fun _ U g mk q => by obtain ⟨q0, q1, qP, qK, qD, qZ, qC⟩ := q; exact ⟨q0, q1, qP, va_K.moved (u := U) (U := U.calling g mk _) (Vm.Alike.refl U.vm) qK, qD, ZX.calling qZ, ZC.moved (u := U) (U := U.calling g mk _) (Vm.Alike.refl U.vm) qC⟩, fun U hU hW => ⟨rfl, by rw [hU], by rw [hU]; exact hPc, va_K.moved hW.alike hK, hDc.weaken (fun _ _ _ _ => trivial), ZX.call hZ hS hFc hW hU, ZC.moved hW.alike hC⟩⟩ rfl rfl hl.1 rfl (lv_room (Nat.le_of_ble_eq_true rfl)) dL_law_856 ⟨by show _ ≤ 601024; omega, by show _ ≤ 7293034; omega⟩) hS (fun q _ h => hFc q h) hFc (fun r1 u1 t1 H1 locs1 ht1 hvm1 hw hB hz1 hk1 hS => ?_)
  obtain ⟨v1, g1⟩ := u1
  obtain ⟨hP1, hK1, hD1⟩ := hB
  rw [ht1] at hP1
  obtain ⟨hPj, hDj⟩ := va_join (wr := ((o, .inl (cJ, 1, .inr (.inl fo))) :: wM cI cZ am y z)) (w1 := wA cI cZ a v1 g1) hP hD [1, 2, 3, 4, 5, 6, 7, 8, 9, 10, 11, 12, 13, 14, 15, 16, 17, 18, 19, 20] [0, 21, 22, 23, 24, 25, 26, 27, 28, 29, 30, 31, 32, 33, 34, 35, 36, 37] rfl rfl (by decide) (by decide) hk1 hFc hP1 hD1
  have hP := hPj.sub (ws' := wW cI cZ cJ o fo a v1 g1 am y z) [0, 18, 19, 20, 21, 22, 23, 24, 25, 26, 27, 28, 29, 30, 31, 32, 33, 34, 35, 36, 37, 1, 2, 3, 4, 5, 6, 7, 8, 9, 10, 11, 12, 13, 14, 15, 16, 17] rfl
  have hD := hDj.sub (ws' := wW cI cZ cJ o fo a v1 g1 am y z) [0, 18, 19, 20, 21, 22, 23, 24, 25, 26, 27, 28, 29, 30, 31, 32, 33, 34, 35, 36, 37, 1, 2, 3, 4, 5, 6, 7, 8, 9, 10, 11, 12, 13, 14, 15, 16, 17] (by decide) rfl
  refine W.widen (k := cells + 7) (n := slots + 42) (by omega) (by omega) ?_
  refine lv_istore (lv' := [(5, .int r1), (0, .ref b), (1, .ref (a 0)), (2, .ref (am 0)), (3, .ref o), (4, .int (nI i))]) hx hb dL_law_859 hl (by decide) rfl (fun ls hl => ?_)
  refine lv_aload_n hx hb dL_law_861 rfl (lv_at hl 3 rfl) ?_
  refine lv_aload_n hx hb dL_law_862 rfl (lv_at hl 1 rfl) ?_
  refine lv_iload hx hb dL_law_863 (lv_at hl 5 rfl) ?_
  refine lv_iconst (v := 1) hx hb dL_law_865 (by decide) ?_
  refine lv_iadd hx hb dL_law_866 ?_
  refine lw_sld hx hb hX hbl hS (k := 1) rfl (by omega) hL dL_law_867 ?_
  refine lv_aload_n hx hb dL_law_868 rfl (lv_at hl 1 rfl) ?_
  refine lv_iload hx hb dL_law_869 (lv_at hl 5 rfl) ?_
  refine lv_iconst (v := 2) hx hb dL_law_871 (by decide) ?_
  refine lv_iadd hx hb dL_law_872 ?_
  refine lw_sld hx hb hX hbl hS (k := 2) rfl (by omega) hL dL_law_873 ?_
  have hPm := hP.sub (ws' := wM cI cZ am y z) [21, 22, 23, 24, 25, 26, 27, 28, 29, 30, 31, 32, 33, 34, 35, 36, 37] rfl
  have hDm := hD.sub (ws' := wM cI cZ am y z) [21, 22, 23, 24, 25, 26, 27, 28, 29, 30, 31, 32, 33, 34, 35, 36, 37] (by decide) rfl
  have hFm := va_free (wc := wM cI cZ am y z) hD hS (fun _ h => h) [21, 22, 23, 24, 25, 26, 27, 28, 29, 30, 31, 32, 33, 34, 35, 36, 37] rfl
  refine va_callv (va_runV (As := [.int (xs (i + 1)), .int (xs (i + 2))]) (rest := []) ⟨hx, hb, hml, hown, hts⟩ (m_people l dC dI cI cZ cJ am y z H1.size  (xs (i + 1)) (xs (i + 2))) (cwV 2 hts (gd_V ml_L_X5_people im_X5_people se_X5_people in_X5 kX5_people) rfl rfl rfl (by decide +kernel) ⟨Nat.le_of_ble_eq_true rfl, Nat.le_of_ble_eq_true rfl⟩) ⟨fun _ U g mk q => by obtain ⟨q0, q1, qP, qK, qD⟩ := q; exact ⟨q0, q1, qP, va_K.moved (u := U) (U := U.calling g mk _) (Vm.Alike.refl U.vm) qK, qD⟩, va_recv hK hPm (ci := 5) (q0 := 0) rfl rfl, fun U hU hW => ⟨rfl, by rw [hU], by rw [hU]; exact hPm, va_K.moved hW.alike hK, hDm.weaken (fun _ _ _ _ => trivial)⟩⟩ rfl rfl hl.1 rfl (lv_room (Nat.le_of_ble_eq_true rfl)) dL_law_874 ⟨by show _ ≤ 601024; omega, by show _ ≤ 7293034; omega⟩) hS (fun q _ h => hFm q h) hFm (fun u2 t2 H2 locs2 ht2 hvm2 hm hB2 hz2 hk2 hS => ?_)
  obtain ⟨y1, z1⟩ := u2
  obtain ⟨hP2, hK2, hD2⟩ := hB2
  rw [ht2] at hP2
  obtain ⟨hPj, hDj⟩ := va_join (wr := wL cI cZ cJ o fo a v1 g1) (w1 := wM cI cZ am y1 z1) hP hD [21, 22, 23, 24, 25, 26, 27, 28, 29, 30, 31, 32, 33, 34, 35, 36, 37] [0, 1, 2, 3, 4, 5, 6, 7, 8, 9, 10, 11, 12, 13, 14, 15, 16, 17, 18, 19, 20] rfl rfl (by decide) (by decide) hk2 hFm hP2 hD2
  have hP : va_P (dC, dI) clA (wW cI cZ cJ o fo a v1 g1 am y1 z1) H2 := hPj
  have hD : va_D (fun q : Nat => s.heap.size ≤ q) (wW cI cZ cJ o fo a v1 g1 am y1 z1) := hDj
  have st := st_people hRl hw hm
  have e1 : y1 0 = r1 := st.1
  have e3 : Rel v1 g1 y1 z1 := st.2
  refine lv_aload_n hx hb dL_law_877 rfl (lv_at hl 3 rfl) ?_
  have hPt := hP.sub (ws' := wM cI cZ am y1 z1) [21, 22, 23, 24, 25, 26, 27, 28, 29, 30, 31, 32, 33, 34, 35, 36, 37] rfl
  refine vp_callSi (W.runV (As := []) (rest := []) ⟨hx, hb, hml, hown, hts⟩ (m_thrown l dC dI cI cZ cJ am y1 z1) (cwV 0 hts (gd_V ml_L_X5_thrown im_X5_thrown se_X5_thrown in_X5 kX5_thrown) rfl rfl rfl (by decide +kernel) ⟨Nat.le_of_ble_eq_true rfl, Nat.le_of_ble_eq_true rfl⟩) ⟨fun _ U g mk q => by obtain ⟨q0, qP, qK⟩ := q; exact ⟨q0, qP, va_K.moved (u := U) (U := U.calling g mk _) (Vm.Alike.refl U.vm) qK⟩, va_recv hK hPt (ci := 5) (q0 := 0) rfl rfl, fun U hU hW => ⟨rfl, by rw [hU]; exact hPt, va_K.moved hW.alike hK⟩⟩ rfl rfl hl.1 rfl (lv_room (Nat.le_of_ble_eq_true rfl)) dL_law_878 ⟨by show _ ≤ 601024; omega, by show _ ≤ 7293034; omega⟩) (fun r9 hr9 => ?_)
  refine lv_iload hx hb dL_law_881 (lv_at hl 0 rfl) ?_
  refine lv_icmp_eq (tgt := 888) hx hb dL_law_883 (by decide) (fun c9 => ?_) (fun c9 => absurd (hr9.trans e1) c9)
  refine lv_goto (tgt := 1176) hx hb dL_law_888 (by decide) ?_
  exact kk v1 g1 y1 z1 fo _ _ _ e3 hP hD hS (lv_sub hl [1, 2, 3, 4, 5] rfl)
set_option maxHeartbeats 4000000 in
set_option maxRecDepth 100000 in
theorem law_perThousand {p : Program} {l : Launch} {e : Env} {s : State} {m : MethodId} {below : List Frame} {meth : Method} {c : Code} {Q : State → Prop} {c0 : Cond} {b L : Nat} {xs : Nat → Int32} {dC : Nat → ClassId} {dI : Nat → Nat → Nat} {cI cZ cJ : ClassId} {a am : Nat → Nat} {o : Nat} {tx : Nat → Nat}
    (hl9 : l.stackTraces = false) (hx : p.tables.exec = Jvm.exec) (hb : c.code = code) (hml : c.maxLocals = 7) (hown : s.vm.findClass RL = some m.cls) (hts : ∀ w ∈ c0 :: allW, w.before #[Value.ref b] s = true) (hX : va_X b L xs s s.heap) (hbl : b < s.heap.size) (hK : va_K (dC, dI) clA (tyA cI cZ cJ) s) (hZ : ZX tx (fun q : Nat => s.heap.size ≤ q) s s.heap) (hC : ZC s)
    {i cells slots : Nat} (hi : i + 7 ≤ L) (hL : L ≤ 3584) (hce : cells + 7 ≤ 601024) (hsl : slots + 42 ≤ 7293034) {v : Nat → Int32} {g : Nat → Nat → Int32} {y : Nat → Int32} {z : Nat → Nat → Int32} {fo : Nat → Int64} {H : Heap} {locs : List Loc} {ls : Array Slot} (hR : Rel v g y z) (hP : va_P (dC, dI) clA (wW cI cZ cJ o fo a v g am y z) H) (hD : va_D (fun q : Nat => s.heap.size ≤ q) (wW cI cZ cJ o fo a v g am y z)) (hS : va_S (fun q : Nat => s.heap.size ≤ q) s.heap H locs) (hl : lv_has ls 7 [(0, .ref b), (1, .ref (a 0)), (2, .ref (am 0)), (3, .ref o), (4, .int (nI i))])
    (kk : ∀ (v1 : Nat → Int32) (g1 : Nat → Nat → Int32) (y1 : Nat → Int32) (z1 : Nat → Nat → Int32) (fo1 : Nat → Int64) (H1 : Heap) (locs1 : List Loc) (ls1 : Array Slot), Rel v1 g1 y1 z1 → va_P (dC, dI) clA (wW cI cZ cJ o fo1 a v1 g1 am y1 z1) H1 → va_D (fun q : Nat => s.heap.size ≤ q) (wW cI cZ cJ o fo1 a v1 g1 am y1 z1) → va_S (fun q : Nat => s.heap.size ≤ q) s.heap H1 locs1 → lv_has ls1 7 [(0, .ref b), (1, .ref (a 0)), (2, .ref (am 0)), (3, .ref o), (4, .int (nI i))] → W p l e room_1 s m #[Value.ref b] below meth c H1 locs1 (cells + 7) (slots + 42) Q (F0 m 1176 ls1 [])) :
    W p l e room_1 s m #[Value.ref b] below meth c H locs cells slots Q (F0 m 891 ls []) := by
  obtain ⟨n, nd, f0, t0, hRl⟩ := hR
  have hn : v 5 = nI n := hRl.1.2.1
  have hn2 : n ≤ 200 := hRl.1.1
  have hy : y 1 = nI n := hRl.1.2.2
  have hnd : v 4 = nI nd := hRl.2.1.2.1
  have hnd2 : nd ≤ 6 := hRl.2.1.1
  have hyd : y 2 = nI nd := hRl.2.1.2.2
  refine lv_aload_n hx hb dL_law_891 rfl (lv_at hl 1 rfl) ?_
  refine lv_aload_n hx hb dL_law_892 rfl (lv_at hl 0 rfl) ?_
  refine lv_iload hx hb dL_law_893 (lv_at hl 4 rfl) ?_
  refine lv_iconst (v := 1) hx hb dL_law_895 (by decide) ?_
  refine lv_iadd hx hb dL_law_896 ?_
  refine lw_sld hx hb hX hbl hS (k := 1) rfl (by omega) hL dL_law_897 ?_
  refine lv_aload_n hx hb dL_law_898 rfl (lv_at hl 3 rfl) ?_
  have hPc := hP.sub (ws' := wL cI cZ cJ o fo a v g) [0, 1, 2, 3, 4, 5, 6, 7, 8, 9, 10, 11, 12, 13, 14, 15, 16, 17, 18, 19, 20] rfl
  have hDc := hD.sub (ws' := wL cI cZ cJ o fo a v g) [0, 1, 2, 3, 4, 5, 6, 7, 8, 9, 10, 11, 12, 13, 14, 15, 16, 17, 18, 19, 20] (by decide) rfl
  have hFc := va_free (wc := wL cI cZ cJ o fo a v g) hD hS (fun _ h => h) [0, 1, 2, 3, 4, 5, 6, 7, 8, 9, 10, 11, 12, 13, 14, 15, 16, 17, 18, 19, 20] rfl
  refine va_calli (vx_runSW (As := [.ref (a 0), .int (xs (i + 1)), .ref o]) (rest := []) ⟨hx, hb, hml, hown, hts⟩ (w_perThousand l hl9 dC dI cI cZ cJ a tx v g o fo H.size n hn hn2 (xs (i + 1))) (vx_cwSW 3 hts (gd_SW ml_L_L_perThousand sm_L_perThousand in_L kL_perThousand) rfl rfl rfl (by decide +kernel) ⟨Nat.le_of_ble_eq_true rfl, Nat.le_of_ble_eq_true rfl⟩) ⟨fun _ U g mk q => by obtain ⟨q0, q1, qP, qK, qD, qZ, qC⟩ := q; exact ⟨q0, q1, qP, va_K.moved (u := U) (U := U.calling g mk _) (Vm.Alike.refl U.vm) qK, qD, ZX.calling qZ, ZC.moved (u := U) (U := U.calling g mk _) (Vm.Alike.refl U.vm) qC⟩, fun U hU hW => ⟨rfl, by rw [hU], by rw [hU]; exact hPc, va_K.moved hW.alike hK, hDc.weaken (fun _ _ _ _ => trivial), ZX.call hZ hS hFc hW hU, ZC.moved hW.alike hC⟩⟩ rfl rfl hl.1 rfl (lv_room (Nat.le_of_ble_eq_true rfl)) dL_law_899 ⟨by show _ ≤ 601024; omega, by show _ ≤ 7293034; omega⟩) hS (fun q _ h => hFc q h) hFc (fun r1 u1 t1 H1 locs1 ht1 hvm1 hw hB hz1 hk1 hS => ?_)
  obtain ⟨⟨v1, g1⟩, fo1⟩ := u1
  obtain ⟨hP1, hK1, hD1⟩ := hB
  rw [ht1] at hP1
  obtain ⟨hPj, hDj⟩ := va_join (wr := wM cI cZ am y z) (w1 := wL cI cZ cJ o fo1 a v1 g1) hP hD [0, 1, 2, 3, 4, 5, 6, 7, 8, 9, 10, 11, 12, 13, 14, 15, 16, 17, 18, 19, 20] [21, 22, 23, 24, 25, 26, 27, 28, 29, 30, 31, 32, 33, 34, 35, 36, 37] rfl rfl (by decide) (by decide) hk1 hFc hP1 hD1
  have hP := hPj.sub (ws' := wW cI cZ cJ o fo1 a v1 g1 am y z) [17, 18, 19, 20, 21, 22, 23, 24, 25, 26, 27, 28, 29, 30, 31, 32, 33, 34, 35, 36, 37, 0, 1, 2, 3, 4, 5, 6, 7, 8, 9, 10, 11, 12, 13, 14, 15, 16] rfl
  have hD := hDj.sub (ws' := wW cI cZ cJ o fo1 a v1 g1 am y z) [17, 18, 19, 20, 21, 22, 23, 24, 25, 26, 27, 28, 29, 30, 31, 32, 33, 34, 35, 36, 37, 0, 1, 2, 3, 4, 5, 6, 7, 8, 9, 10, 11, 12, 13, 14, 15, 16] (by decide) rfl
  refine W.widen (k := cells + 7) (n := slots + 42) (by omega) (by omega) ?_
  refine lv_istore (lv' := [(5, .int r1), (0, .ref b), (1, .ref (a 0)), (2, .ref (am 0)), (3, .ref o), (4, .int (nI i))]) hx hb dL_law_902 hl (by decide) rfl (fun ls hl => ?_)
  refine lv_aload_n hx hb dL_law_904 rfl (lv_at hl 3 rfl) ?_
  refine lv_aload_n hx hb dL_law_905 rfl (lv_at hl 1 rfl) ?_
  refine lv_iload hx hb dL_law_906 (lv_at hl 5 rfl) ?_
  refine lv_iconst (v := 1) hx hb dL_law_908 (by decide) ?_
  refine lv_iadd hx hb dL_law_909 ?_
  refine lw_sld hx hb hX hbl hS (k := 1) rfl (by omega) hL dL_law_910 ?_
  have hPm := hP.sub (ws' := wM cI cZ am y z) [21, 22, 23, 24, 25, 26, 27, 28, 29, 30, 31, 32, 33, 34, 35, 36, 37] rfl
  have hDm := hD.sub (ws' := wM cI cZ am y z) [21, 22, 23, 24, 25, 26, 27, 28, 29, 30, 31, 32, 33, 34, 35, 36, 37] (by decide) rfl
  have hFm := va_free (wc := wM cI cZ am y z) hD hS (fun _ h => h) [21, 22, 23, 24, 25, 26, 27, 28, 29, 30, 31, 32, 33, 34, 35, 36, 37] rfl
  refine va_calli (va_runV (As := [.int (xs (i + 1))]) (rest := []) ⟨hx, hb, hml, hown, hts⟩ (m_perT l dC dI cI cZ cJ am y z H1.size n hy hn2 (xs (i + 1))) (cwV 1 hts (gd_V ml_L_X5_perThousand im_X5_perThousand se_X5_perThousand in_X5 kX5_perThousand) rfl rfl rfl (by decide +kernel) ⟨Nat.le_of_ble_eq_true rfl, Nat.le_of_ble_eq_true rfl⟩) ⟨fun _ U g mk q => by obtain ⟨q0, q1, qP, qK, qD⟩ := q; exact ⟨q0, q1, qP, va_K.moved (u := U) (U := U.calling g mk _) (Vm.Alike.refl U.vm) qK, qD⟩, va_recv hK hPm (ci := 5) (q0 := 0) rfl rfl, fun U hU hW => ⟨rfl, by rw [hU], by rw [hU]; exact hPm, va_K.moved hW.alike hK, hDm.weaken (fun _ _ _ _ => trivial)⟩⟩ rfl rfl hl.1 rfl (lv_room (Nat.le_of_ble_eq_true rfl)) dL_law_911 ⟨by show _ ≤ 601024; omega, by show _ ≤ 7293034; omega⟩) hS (fun q _ h => hFm q h) hFm (fun b2 u2 t2 H2 locs2 ht2 hvm2 hm hB2 hz2 hk2 hS => ?_)
  obtain ⟨y1, z1⟩ := u2
  obtain ⟨hP2, hK2, hD2⟩ := hB2
  rw [ht2] at hP2
  obtain ⟨hPj, hDj⟩ := va_join (wr := wL cI cZ cJ o fo1 a v1 g1) (w1 := wM cI cZ am y1 z1) hP hD [21, 22, 23, 24, 25, 26, 27, 28, 29, 30, 31, 32, 33, 34, 35, 36, 37] [0, 1, 2, 3, 4, 5, 6, 7, 8, 9, 10, 11, 12, 13, 14, 15, 16, 17, 18, 19, 20] rfl rfl (by decide) (by decide) hk2 hFm hP2 hD2
  have hP : va_P (dC, dI) clA (wW cI cZ cJ o fo1 a v1 g1 am y1 z1) H2 := hPj
  have hD : va_D (fun q : Nat => s.heap.size ≤ q) (wW cI cZ cJ o fo1 a v1 g1 am y1 z1) := hDj
  refine lv_istore (lv' := [(6, .int b2), (5, .int r1), (0, .ref b), (1, .ref (a 0)), (2, .ref (am 0)), (3, .ref o), (4, .int (nI i))]) hx hb dL_law_914 hl (by decide) rfl (fun ls hl => ?_)
  have st := st_perT hRl hw hm
  have e1 : y1 0 = r1 := st.1
  have e2 : r1 = 0 → fo1 0 = b2.toInt64 := st.2.1
  have e3 : Rel v1 g1 y1 z1 := st.2.2
  refine lv_aload_n hx hb dL_law_916 rfl (lv_at hl 4 rfl) ?_
  have hPt := hP.sub (ws' := wM cI cZ am y1 z1) [21, 22, 23, 24, 25, 26, 27, 28, 29, 30, 31, 32, 33, 34, 35, 36, 37] rfl
  refine vp_callSi (W.runV (As := []) (rest := []) ⟨hx, hb, hml, hown, hts⟩ (m_thrown l dC dI cI cZ cJ am y1 z1) (cwV 0 hts (gd_V ml_L_X5_thrown im_X5_thrown se_X5_thrown in_X5 kX5_thrown) rfl rfl rfl (by decide +kernel) ⟨Nat.le_of_ble_eq_true rfl, Nat.le_of_ble_eq_true rfl⟩) ⟨fun _ U g mk q => by obtain ⟨q0, qP, qK⟩ := q; exact ⟨q0, qP, va_K.moved (u := U) (U := U.calling g mk _) (Vm.Alike.refl U.vm) qK⟩, va_recv hK hPt (ci := 5) (q0 := 0) rfl rfl, fun U hU hW => ⟨rfl, by rw [hU]; exact hPt, va_K.moved hW.alike hK⟩⟩ rfl rfl hl.1 rfl (lv_room (Nat.le_of_ble_eq_true rfl)) dL_law_917 ⟨by show _ ≤ 601024; omega, by show _ ≤ 7293034; omega⟩) (fun r9 hr9 => ?_)
  refine lv_iload hx hb dL_law_920 (lv_at hl 1 rfl) ?_
  refine lv_icmp_eq (tgt := 927) hx hb dL_law_922 (by decide) (fun c9 => ?_) (fun c9 => absurd (hr9.trans e1) c9)
  refine lv_iload hx hb dL_law_927 (lv_at hl 1 rfl) ?_
  refine lv_if_ne (tgt := 944) hx hb dL_law_929 (by decide) (fun c8 => ?_) (fun c8 => ?_)
  · refine lv_goto (tgt := 1176) hx hb dL_law_944 (by decide) ?_
    exact kk v1 g1 y1 z1 fo1 _ _ _ e3 hP hD hS (lv_sub hl [2, 3, 4, 5, 6] rfl)
  · refine lv_aload_n hx hb dL_law_932 rfl (lv_at hl 5 rfl) ?_
    refine lv_iconst (v := 0) hx hb dL_law_933 (by decide) ?_
    refine va_lald hx hb hK hP 0 2 rfl rfl (vp_in_nI (n := 0) (N := 1) (by decide) (by decide)) dL_law_934 ?_
    refine lv_iload hx hb dL_law_935 (lv_at hl 0 rfl) ?_
    refine lv_i2l (v := b2.toInt64) hx hb dL_law_937 rfl ?_
    refine W.lcmp hx hb dL_law_938 ?_
    refine lv_if_eq (tgt := 944) hx hb dL_law_939 (by decide) (fun c7 => ?_) (fun c7 => absurd (lw_eq (show fo1 (0 : Int32).toNatClampNeg = b2.toInt64 from e2 c8)) c7)
    refine lv_goto (tgt := 1176) hx hb dL_law_944 (by decide) ?_
    exact kk v1 g1 y1 z1 fo1 _ _ _ e3 hP hD hS (lv_sub hl [2, 3, 4, 5, 6] rfl)
set_option maxHeartbeats 4000000 in
set_option maxRecDepth 100000 in
theorem law_rank {p : Program} {l : Launch} {e : Env} {s : State} {m : MethodId} {below : List Frame} {meth : Method} {c : Code} {Q : State → Prop} {c0 : Cond} {b L : Nat} {xs : Nat → Int32} {dC : Nat → ClassId} {dI : Nat → Nat → Nat} {cI cZ cJ : ClassId} {a am : Nat → Nat} {o : Nat} {tx : Nat → Nat}
    (hl9 : l.stackTraces = false) (hx : p.tables.exec = Jvm.exec) (hb : c.code = code) (hml : c.maxLocals = 7) (hown : s.vm.findClass RL = some m.cls) (hts : ∀ w ∈ c0 :: allW, w.before #[Value.ref b] s = true) (hX : va_X b L xs s s.heap) (hbl : b < s.heap.size) (hK : va_K (dC, dI) clA (tyA cI cZ cJ) s) (hZ : ZX tx (fun q : Nat => s.heap.size ≤ q) s s.heap) (hC : ZC s)
    {i cells slots : Nat} (hi : i + 7 ≤ L) (hL : L ≤ 3584) (hce : cells + 7 ≤ 601024) (hsl : slots + 42 ≤ 7293034) {v : Nat → Int32} {g : Nat → Nat → Int32} {y : Nat → Int32} {z : Nat → Nat → Int32} {fo : Nat → Int64} {H : Heap} {locs : List Loc} {ls : Array Slot} (hR : Rel v g y z) (hP : va_P (dC, dI) clA (wW cI cZ cJ o fo a v g am y z) H) (hD : va_D (fun q : Nat => s.heap.size ≤ q) (wW cI cZ cJ o fo a v g am y z)) (hS : va_S (fun q : Nat => s.heap.size ≤ q) s.heap H locs) (hl : lv_has ls 7 [(0, .ref b), (1, .ref (a 0)), (2, .ref (am 0)), (3, .ref o), (4, .int (nI i))])
    (kk : ∀ (v1 : Nat → Int32) (g1 : Nat → Nat → Int32) (y1 : Nat → Int32) (z1 : Nat → Nat → Int32) (fo1 : Nat → Int64) (H1 : Heap) (locs1 : List Loc) (ls1 : Array Slot), Rel v1 g1 y1 z1 → va_P (dC, dI) clA (wW cI cZ cJ o fo1 a v1 g1 am y1 z1) H1 → va_D (fun q : Nat => s.heap.size ≤ q) (wW cI cZ cJ o fo1 a v1 g1 am y1 z1) → va_S (fun q : Nat => s.heap.size ≤ q) s.heap H1 locs1 → lv_has ls1 7 [(0, .ref b), (1, .ref (a 0)), (2, .ref (am 0)), (3, .ref o), (4, .int (nI i))] → W p l e room_1 s m #[Value.ref b] below meth c H1 locs1 (cells + 7) (slots + 42) Q (F0 m 1176 ls1 [])) :
    W p l e room_1 s m #[Value.ref b] below meth c H locs cells slots Q (F0 m 947 ls []) := by
  obtain ⟨n, nd, f0, t0, hRl⟩ := hR
  have hn : v 5 = nI n := hRl.1.2.1
  have hn2 : n ≤ 200 := hRl.1.1
  have hy : y 1 = nI n := hRl.1.2.2
  have hnd : v 4 = nI nd := hRl.2.1.2.1
  have hnd2 : nd ≤ 6 := hRl.2.1.1
  have hyd : y 2 = nI nd := hRl.2.1.2.2
  refine lv_aload_n hx hb dL_law_947 rfl (lv_at hl 1 rfl) ?_
  refine lv_aload_n hx hb dL_law_948 rfl (lv_at hl 0 rfl) ?_
  refine lv_iload hx hb dL_law_949 (lv_at hl 4 rfl) ?_
  refine lv_iconst (v := 1) hx hb dL_law_951 (by decide) ?_
  refine lv_iadd hx hb dL_law_952 ?_
  refine lw_sld hx hb hX hbl hS (k := 1) rfl (by omega) hL dL_law_953 ?_
  refine lv_aload_n hx hb dL_law_954 rfl (lv_at hl 3 rfl) ?_
  have hPc := hP.sub (ws' := wL cI cZ cJ o fo a v g) [0, 1, 2, 3, 4, 5, 6, 7, 8, 9, 10, 11, 12, 13, 14, 15, 16, 17, 18, 19, 20] rfl
  have hDc := hD.sub (ws' := wL cI cZ cJ o fo a v g) [0, 1, 2, 3, 4, 5, 6, 7, 8, 9, 10, 11, 12, 13, 14, 15, 16, 17, 18, 19, 20] (by decide) rfl
  have hFc := va_free (wc := wL cI cZ cJ o fo a v g) hD hS (fun _ h => h) [0, 1, 2, 3, 4, 5, 6, 7, 8, 9, 10, 11, 12, 13, 14, 15, 16, 17, 18, 19, 20] rfl
  refine va_calli (vx_runSW (As := [.ref (a 0), .int (xs (i + 1)), .ref o]) (rest := []) ⟨hx, hb, hml, hown, hts⟩ (w_rank l hl9 dC dI cI cZ cJ a tx v g o fo H.size n hn hn2 (xs (i + 1))) (vx_cwSW 3 hts (gd_SW ml_L_L_rank sm_L_rank in_L kL_rank) rfl rfl rfl (by decide +kernel) ⟨Nat.le_of_ble_eq_true rfl, Nat.le_of_ble_eq_true rfl⟩) ⟨fun _ U g mk q => by obtain ⟨q0, q1, qP, qK, qD, qZ, qC⟩ := q; exact ⟨q0, q1, qP, va_K.moved (u := U) (U := U.calling g mk _) (Vm.Alike.refl U.vm) qK, qD, ZX.calling qZ, ZC.moved (u := U) (U := U.calling g mk _) (Vm.Alike.refl U.vm) qC⟩, fun U hU hW => ⟨rfl, by rw [hU], by rw [hU]; exact hPc, va_K.moved hW.alike hK, hDc.weaken (fun _ _ _ _ => trivial), ZX.call hZ hS hFc hW hU, ZC.moved hW.alike hC⟩⟩ rfl rfl hl.1 rfl (lv_room (Nat.le_of_ble_eq_true rfl)) dL_law_955 ⟨by show _ ≤ 601024; omega, by show _ ≤ 7293034; omega⟩) hS (fun q _ h => hFc q h) hFc (fun r1 u1 t1 H1 locs1 ht1 hvm1 hw hB hz1 hk1 hS => ?_)
  obtain ⟨⟨v1, g1⟩, fo1⟩ := u1
  obtain ⟨hP1, hK1, hD1⟩ := hB
  rw [ht1] at hP1
  obtain ⟨hPj, hDj⟩ := va_join (wr := wM cI cZ am y z) (w1 := wL cI cZ cJ o fo1 a v1 g1) hP hD [0, 1, 2, 3, 4, 5, 6, 7, 8, 9, 10, 11, 12, 13, 14, 15, 16, 17, 18, 19, 20] [21, 22, 23, 24, 25, 26, 27, 28, 29, 30, 31, 32, 33, 34, 35, 36, 37] rfl rfl (by decide) (by decide) hk1 hFc hP1 hD1
  have hP := hPj.sub (ws' := wW cI cZ cJ o fo1 a v1 g1 am y z) [17, 18, 19, 20, 21, 22, 23, 24, 25, 26, 27, 28, 29, 30, 31, 32, 33, 34, 35, 36, 37, 0, 1, 2, 3, 4, 5, 6, 7, 8, 9, 10, 11, 12, 13, 14, 15, 16] rfl
  have hD := hDj.sub (ws' := wW cI cZ cJ o fo1 a v1 g1 am y z) [17, 18, 19, 20, 21, 22, 23, 24, 25, 26, 27, 28, 29, 30, 31, 32, 33, 34, 35, 36, 37, 0, 1, 2, 3, 4, 5, 6, 7, 8, 9, 10, 11, 12, 13, 14, 15, 16] (by decide) rfl
  refine W.widen (k := cells + 7) (n := slots + 42) (by omega) (by omega) ?_
  refine lv_istore (lv' := [(5, .int r1), (0, .ref b), (1, .ref (a 0)), (2, .ref (am 0)), (3, .ref o), (4, .int (nI i))]) hx hb dL_law_958 hl (by decide) rfl (fun ls hl => ?_)
  refine lv_aload_n hx hb dL_law_960 rfl (lv_at hl 3 rfl) ?_
  refine lv_aload_n hx hb dL_law_961 rfl (lv_at hl 1 rfl) ?_
  refine lv_iload hx hb dL_law_962 (lv_at hl 5 rfl) ?_
  refine lv_iconst (v := 1) hx hb dL_law_964 (by decide) ?_
  refine lv_iadd hx hb dL_law_965 ?_
  refine lw_sld hx hb hX hbl hS (k := 1) rfl (by omega) hL dL_law_966 ?_
  have hPm := hP.sub (ws' := wM cI cZ am y z) [21, 22, 23, 24, 25, 26, 27, 28, 29, 30, 31, 32, 33, 34, 35, 36, 37] rfl
  have hDm := hD.sub (ws' := wM cI cZ am y z) [21, 22, 23, 24, 25, 26, 27, 28, 29, 30, 31, 32, 33, 34, 35, 36, 37] (by decide) rfl
  have hFm := va_free (wc := wM cI cZ am y z) hD hS (fun _ h => h) [21, 22, 23, 24, 25, 26, 27, 28, 29, 30, 31, 32, 33, 34, 35, 36, 37] rfl
  refine va_calli (va_runV (As := [.int (xs (i + 1))]) (rest := []) ⟨hx, hb, hml, hown, hts⟩ (m_rank l dC dI cI cZ cJ am y z H1.size n hy hn2 (xs (i + 1))) (cwV 1 hts (gd_V ml_L_X5_rank im_X5_rank se_X5_rank in_X5 kX5_rank) rfl rfl rfl (by decide +kernel) ⟨Nat.le_of_ble_eq_true rfl, Nat.le_of_ble_eq_true rfl⟩) ⟨fun _ U g mk q => by obtain ⟨q0, q1, qP, qK, qD⟩ := q; exact ⟨q0, q1, qP, va_K.moved (u := U) (U := U.calling g mk _) (Vm.Alike.refl U.vm) qK, qD⟩, va_recv hK hPm (ci := 5) (q0 := 0) rfl rfl, fun U hU hW => ⟨rfl, by rw [hU], by rw [hU]; exact hPm, va_K.moved hW.alike hK, hDm.weaken (fun _ _ _ _ => trivial)⟩⟩ rfl rfl hl.1 rfl (lv_room (Nat.le_of_ble_eq_true rfl)) dL_law_967 ⟨by show _ ≤ 601024; omega, by show _ ≤ 7293034; omega⟩) hS (fun q _ h => hFm q h) hFm (fun b2 u2 t2 H2 locs2 ht2 hvm2 hm hB2 hz2 hk2 hS => ?_)
  obtain ⟨y1, z1⟩ := u2
  obtain ⟨hP2, hK2, hD2⟩ := hB2
  rw [ht2] at hP2
  obtain ⟨hPj, hDj⟩ := va_join (wr := wL cI cZ cJ o fo1 a v1 g1) (w1 := wM cI cZ am y1 z1) hP hD [21, 22, 23, 24, 25, 26, 27, 28, 29, 30, 31, 32, 33, 34, 35, 36, 37] [0, 1, 2, 3, 4, 5, 6, 7, 8, 9, 10, 11, 12, 13, 14, 15, 16, 17, 18, 19, 20] rfl rfl (by decide) (by decide) hk2 hFm hP2 hD2
  have hP : va_P (dC, dI) clA (wW cI cZ cJ o fo1 a v1 g1 am y1 z1) H2 := hPj
  have hD : va_D (fun q : Nat => s.heap.size ≤ q) (wW cI cZ cJ o fo1 a v1 g1 am y1 z1) := hDj
  refine lv_istore (lv' := [(6, .int b2), (5, .int r1), (0, .ref b), (1, .ref (a 0)), (2, .ref (am 0)), (3, .ref o), (4, .int (nI i))]) hx hb dL_law_970 hl (by decide) rfl (fun ls hl => ?_)
  have st := st_rank hRl hw hm
  have e1 : y1 0 = r1 := st.1
  have e2 : r1 = 0 → fo1 0 = b2.toInt64 := st.2.1
  have e3 : Rel v1 g1 y1 z1 := st.2.2
  refine lv_aload_n hx hb dL_law_972 rfl (lv_at hl 4 rfl) ?_
  have hPt := hP.sub (ws' := wM cI cZ am y1 z1) [21, 22, 23, 24, 25, 26, 27, 28, 29, 30, 31, 32, 33, 34, 35, 36, 37] rfl
  refine vp_callSi (W.runV (As := []) (rest := []) ⟨hx, hb, hml, hown, hts⟩ (m_thrown l dC dI cI cZ cJ am y1 z1) (cwV 0 hts (gd_V ml_L_X5_thrown im_X5_thrown se_X5_thrown in_X5 kX5_thrown) rfl rfl rfl (by decide +kernel) ⟨Nat.le_of_ble_eq_true rfl, Nat.le_of_ble_eq_true rfl⟩) ⟨fun _ U g mk q => by obtain ⟨q0, qP, qK⟩ := q; exact ⟨q0, qP, va_K.moved (u := U) (U := U.calling g mk _) (Vm.Alike.refl U.vm) qK⟩, va_recv hK hPt (ci := 5) (q0 := 0) rfl rfl, fun U hU hW => ⟨rfl, by rw [hU]; exact hPt, va_K.moved hW.alike hK⟩⟩ rfl rfl hl.1 rfl (lv_room (Nat.le_of_ble_eq_true rfl)) dL_law_973 ⟨by show _ ≤ 601024; omega, by show _ ≤ 7293034; omega⟩) (fun r9 hr9 => ?_)
  refine lv_iload hx hb dL_law_976 (lv_at hl 1 rfl) ?_
  refine lv_icmp_eq (tgt := 983) hx hb dL_law_978 (by decide) (fun c9 => ?_) (fun c9 => absurd (hr9.trans e1) c9)
  refine lv_iload hx hb dL_law_983 (lv_at hl 1 rfl) ?_
  refine lv_if_ne (tgt := 1000) hx hb dL_law_985 (by decide) (fun c8 => ?_) (fun c8 => ?_)
  · refine lv_goto (tgt := 1176) hx hb dL_law_1000 (by decide) ?_
    exact kk v1 g1 y1 z1 fo1 _ _ _ e3 hP hD hS (lv_sub hl [2, 3, 4, 5, 6] rfl)
  · refine lv_aload_n hx hb dL_law_988 rfl (lv_at hl 5 rfl) ?_
    refine lv_iconst (v := 0) hx hb dL_law_989 (by decide) ?_
    refine va_lald hx hb hK hP 0 2 rfl rfl (vp_in_nI (n := 0) (N := 1) (by decide) (by decide)) dL_law_990 ?_
    refine lv_iload hx hb dL_law_991 (lv_at hl 0 rfl) ?_
    refine lv_i2l (v := b2.toInt64) hx hb dL_law_993 rfl ?_
    refine W.lcmp hx hb dL_law_994 ?_
    refine lv_if_eq (tgt := 1000) hx hb dL_law_995 (by decide) (fun c7 => ?_) (fun c7 => absurd (lw_eq (show fo1 (0 : Int32).toNatClampNeg = b2.toInt64 from e2 c8)) c7)
    refine lv_goto (tgt := 1176) hx hb dL_law_1000 (by decide) ?_
    exact kk v1 g1 y1 z1 fo1 _ _ _ e3 hP hD hS (lv_sub hl [2, 3, 4, 5, 6] rfl)
set_option maxHeartbeats 4000000 in
set_option maxRecDepth 100000 in
theorem law_least {p : Program} {l : Launch} {e : Env} {s : State} {m : MethodId} {below : List Frame} {meth : Method} {c : Code} {Q : State → Prop} {c0 : Cond} {b L : Nat} {xs : Nat → Int32} {dC : Nat → ClassId} {dI : Nat → Nat → Nat} {cI cZ cJ : ClassId} {a am : Nat → Nat} {o : Nat} {tx : Nat → Nat}
    (hl9 : l.stackTraces = false) (hx : p.tables.exec = Jvm.exec) (hb : c.code = code) (hml : c.maxLocals = 7) (hown : s.vm.findClass RL = some m.cls) (hts : ∀ w ∈ c0 :: allW, w.before #[Value.ref b] s = true) (hX : va_X b L xs s s.heap) (hbl : b < s.heap.size) (hK : va_K (dC, dI) clA (tyA cI cZ cJ) s) (hZ : ZX tx (fun q : Nat => s.heap.size ≤ q) s s.heap) (hC : ZC s)
    {i cells slots : Nat} (hi : i + 7 ≤ L) (hL : L ≤ 3584) (hce : cells + 7 ≤ 601024) (hsl : slots + 42 ≤ 7293034) {v : Nat → Int32} {g : Nat → Nat → Int32} {y : Nat → Int32} {z : Nat → Nat → Int32} {fo : Nat → Int64} {H : Heap} {locs : List Loc} {ls : Array Slot} (hR : Rel v g y z) (hP : va_P (dC, dI) clA (wW cI cZ cJ o fo a v g am y z) H) (hD : va_D (fun q : Nat => s.heap.size ≤ q) (wW cI cZ cJ o fo a v g am y z)) (hS : va_S (fun q : Nat => s.heap.size ≤ q) s.heap H locs) (hl : lv_has ls 7 [(0, .ref b), (1, .ref (a 0)), (2, .ref (am 0)), (3, .ref o), (4, .int (nI i))])
    (kk : ∀ (v1 : Nat → Int32) (g1 : Nat → Nat → Int32) (y1 : Nat → Int32) (z1 : Nat → Nat → Int32) (fo1 : Nat → Int64) (H1 : Heap) (locs1 : List Loc) (ls1 : Array Slot), Rel v1 g1 y1 z1 → va_P (dC, dI) clA (wW cI cZ cJ o fo1 a v1 g1 am y1 z1) H1 → va_D (fun q : Nat => s.heap.size ≤ q) (wW cI cZ cJ o fo1 a v1 g1 am y1 z1) → va_S (fun q : Nat => s.heap.size ≤ q) s.heap H1 locs1 → lv_has ls1 7 [(0, .ref b), (1, .ref (a 0)), (2, .ref (am 0)), (3, .ref o), (4, .int (nI i))] → W p l e room_1 s m #[Value.ref b] below meth c H1 locs1 (cells + 7) (slots + 42) Q (F0 m 1176 ls1 [])) :
    W p l e room_1 s m #[Value.ref b] below meth c H locs cells slots Q (F0 m 1003 ls []) := by
  obtain ⟨n, nd, f0, t0, hRl⟩ := hR
  have hn : v 5 = nI n := hRl.1.2.1
  have hn2 : n ≤ 200 := hRl.1.1
  have hy : y 1 = nI n := hRl.1.2.2
  have hnd : v 4 = nI nd := hRl.2.1.2.1
  have hnd2 : nd ≤ 6 := hRl.2.1.1
  have hyd : y 2 = nI nd := hRl.2.1.2.2
  refine lv_aload_n hx hb dL_law_1003 rfl (lv_at hl 1 rfl) ?_
  refine lv_aload_n hx hb dL_law_1004 rfl (lv_at hl 0 rfl) ?_
  refine lv_iload hx hb dL_law_1005 (lv_at hl 4 rfl) ?_
  refine lv_iconst (v := 1) hx hb dL_law_1007 (by decide) ?_
  refine lv_iadd hx hb dL_law_1008 ?_
  refine lw_sld hx hb hX hbl hS (k := 1) rfl (by omega) hL dL_law_1009 ?_
  have hPc := hP.sub (ws' := wA cI cZ a v g) [1, 2, 3, 4, 5, 6, 7, 8, 9, 10, 11, 12, 13, 14, 15, 16, 17, 18, 19, 20] rfl
  have hDc := hD.sub (ws' := wA cI cZ a v g) [1, 2, 3, 4, 5, 6, 7, 8, 9, 10, 11, 12, 13, 14, 15, 16, 17, 18, 19, 20] (by decide) rfl
  have hFc := va_free (wc := wA cI cZ a v g) hD hS (fun _ h => h) [1, 2, 3, 4, 5, 6, 7, 8, 9, 10, 11, 12, 13, 14, 15, 16, 17, 18, 19, 20] rfl
  refine va_calli (vx_runSW (As := [.ref (a 0), .int (xs (i + 1))]) (rest := []) ⟨hx, hb, hml, hown, hts⟩ (w_least l hl9 dC dI cI cZ cJ a tx v g H.size  (xs (i + 1))) (vx_cwSW 2 hts (gd_SW ml_L_L_least sm_L_least in_L kL_least) rfl rfl rfl (by decide +kernel) ⟨Nat.le_of_ble_eq_true rfl, Nat.le_of_ble_eq_true rfl⟩) ⟨fun _ U g mk q => by obtain ⟨q0, q1, qP, qK, qD, qZ, qC⟩ := q; exact ⟨q0, q1, qP, va_K.moved (u := U) (U := U.calling g mk _) (Vm.Alike.refl U.vm) qK, qD, ZX.calling qZ, ZC.moved (u := U) (U := U.calling g mk _) (Vm.Alike.refl U.vm) qC⟩, fun U hU hW => ⟨rfl, by rw [hU], by rw [hU]; exact hPc, va_K.moved hW.alike hK, hDc.weaken (fun _ _ _ _ => trivial), ZX.call hZ hS hFc hW hU, ZC.moved hW.alike hC⟩⟩ rfl rfl hl.1 rfl (lv_room (Nat.le_of_ble_eq_true rfl)) dL_law_1010 ⟨by show _ ≤ 601024; omega, by show _ ≤ 7293034; omega⟩) hS (fun q _ h => hFc q h) hFc (fun r1 u1 t1 H1 locs1 ht1 hvm1 hw hB hz1 hk1 hS => ?_)
  obtain ⟨v1, g1⟩ := u1
  obtain ⟨hP1, hK1, hD1⟩ := hB
  rw [ht1] at hP1
  obtain ⟨hPj, hDj⟩ := va_join (wr := ((o, .inl (cJ, 1, .inr (.inl fo))) :: wM cI cZ am y z)) (w1 := wA cI cZ a v1 g1) hP hD [1, 2, 3, 4, 5, 6, 7, 8, 9, 10, 11, 12, 13, 14, 15, 16, 17, 18, 19, 20] [0, 21, 22, 23, 24, 25, 26, 27, 28, 29, 30, 31, 32, 33, 34, 35, 36, 37] rfl rfl (by decide) (by decide) hk1 hFc hP1 hD1
  have hP := hPj.sub (ws' := wW cI cZ cJ o fo a v1 g1 am y z) [0, 18, 19, 20, 21, 22, 23, 24, 25, 26, 27, 28, 29, 30, 31, 32, 33, 34, 35, 36, 37, 1, 2, 3, 4, 5, 6, 7, 8, 9, 10, 11, 12, 13, 14, 15, 16, 17] rfl
  have hD := hDj.sub (ws' := wW cI cZ cJ o fo a v1 g1 am y z) [0, 18, 19, 20, 21, 22, 23, 24, 25, 26, 27, 28, 29, 30, 31, 32, 33, 34, 35, 36, 37, 1, 2, 3, 4, 5, 6, 7, 8, 9, 10, 11, 12, 13, 14, 15, 16, 17] (by decide) rfl
  refine W.widen (k := cells + 7) (n := slots + 42) (by omega) (by omega) ?_
  refine lv_istore (lv' := [(5, .int r1), (0, .ref b), (1, .ref (a 0)), (2, .ref (am 0)), (3, .ref o), (4, .int (nI i))]) hx hb dL_law_1013 hl (by decide) rfl (fun ls hl => ?_)
  refine lv_aload_n hx hb dL_law_1015 rfl (lv_at hl 3 rfl) ?_
  refine lv_aload_n hx hb dL_law_1016 rfl (lv_at hl 1 rfl) ?_
  refine lv_iload hx hb dL_law_1017 (lv_at hl 5 rfl) ?_
  refine lv_iconst (v := 1) hx hb dL_law_1019 (by decide) ?_
  refine lv_iadd hx hb dL_law_1020 ?_
  refine lw_sld hx hb hX hbl hS (k := 1) rfl (by omega) hL dL_law_1021 ?_
  have hPm := hP.sub (ws' := wM cI cZ am y z) [21, 22, 23, 24, 25, 26, 27, 28, 29, 30, 31, 32, 33, 34, 35, 36, 37] rfl
  have hDm := hD.sub (ws' := wM cI cZ am y z) [21, 22, 23, 24, 25, 26, 27, 28, 29, 30, 31, 32, 33, 34, 35, 36, 37] (by decide) rfl
  have hFm := va_free (wc := wM cI cZ am y z) hD hS (fun _ h => h) [21, 22, 23, 24, 25, 26, 27, 28, 29, 30, 31, 32, 33, 34, 35, 36, 37] rfl
  refine va_callv (va_runV (As := [.int (xs (i + 1))]) (rest := []) ⟨hx, hb, hml, hown, hts⟩ (m_least l dC dI cI cZ cJ am y z H1.size  (xs (i + 1))) (cwV 1 hts (gd_V ml_L_X5_least im_X5_least se_X5_least in_X5 kX5_least) rfl rfl rfl (by decide +kernel) ⟨Nat.le_of_ble_eq_true rfl, Nat.le_of_ble_eq_true rfl⟩) ⟨fun _ U g mk q => by obtain ⟨q0, q1, qP, qK, qD⟩ := q; exact ⟨q0, q1, qP, va_K.moved (u := U) (U := U.calling g mk _) (Vm.Alike.refl U.vm) qK, qD⟩, va_recv hK hPm (ci := 5) (q0 := 0) rfl rfl, fun U hU hW => ⟨rfl, by rw [hU], by rw [hU]; exact hPm, va_K.moved hW.alike hK, hDm.weaken (fun _ _ _ _ => trivial)⟩⟩ rfl rfl hl.1 rfl (lv_room (Nat.le_of_ble_eq_true rfl)) dL_law_1022 ⟨by show _ ≤ 601024; omega, by show _ ≤ 7293034; omega⟩) hS (fun q _ h => hFm q h) hFm (fun u2 t2 H2 locs2 ht2 hvm2 hm hB2 hz2 hk2 hS => ?_)
  obtain ⟨y1, z1⟩ := u2
  obtain ⟨hP2, hK2, hD2⟩ := hB2
  rw [ht2] at hP2
  obtain ⟨hPj, hDj⟩ := va_join (wr := wL cI cZ cJ o fo a v1 g1) (w1 := wM cI cZ am y1 z1) hP hD [21, 22, 23, 24, 25, 26, 27, 28, 29, 30, 31, 32, 33, 34, 35, 36, 37] [0, 1, 2, 3, 4, 5, 6, 7, 8, 9, 10, 11, 12, 13, 14, 15, 16, 17, 18, 19, 20] rfl rfl (by decide) (by decide) hk2 hFm hP2 hD2
  have hP : va_P (dC, dI) clA (wW cI cZ cJ o fo a v1 g1 am y1 z1) H2 := hPj
  have hD : va_D (fun q : Nat => s.heap.size ≤ q) (wW cI cZ cJ o fo a v1 g1 am y1 z1) := hDj
  have st := st_least hRl hw hm
  have e1 : y1 0 = r1 := st.1
  have e3 : Rel v1 g1 y1 z1 := st.2
  refine lv_aload_n hx hb dL_law_1025 rfl (lv_at hl 3 rfl) ?_
  have hPt := hP.sub (ws' := wM cI cZ am y1 z1) [21, 22, 23, 24, 25, 26, 27, 28, 29, 30, 31, 32, 33, 34, 35, 36, 37] rfl
  refine vp_callSi (W.runV (As := []) (rest := []) ⟨hx, hb, hml, hown, hts⟩ (m_thrown l dC dI cI cZ cJ am y1 z1) (cwV 0 hts (gd_V ml_L_X5_thrown im_X5_thrown se_X5_thrown in_X5 kX5_thrown) rfl rfl rfl (by decide +kernel) ⟨Nat.le_of_ble_eq_true rfl, Nat.le_of_ble_eq_true rfl⟩) ⟨fun _ U g mk q => by obtain ⟨q0, qP, qK⟩ := q; exact ⟨q0, qP, va_K.moved (u := U) (U := U.calling g mk _) (Vm.Alike.refl U.vm) qK⟩, va_recv hK hPt (ci := 5) (q0 := 0) rfl rfl, fun U hU hW => ⟨rfl, by rw [hU]; exact hPt, va_K.moved hW.alike hK⟩⟩ rfl rfl hl.1 rfl (lv_room (Nat.le_of_ble_eq_true rfl)) dL_law_1026 ⟨by show _ ≤ 601024; omega, by show _ ≤ 7293034; omega⟩) (fun r9 hr9 => ?_)
  refine lv_iload hx hb dL_law_1029 (lv_at hl 0 rfl) ?_
  refine lv_icmp_eq (tgt := 1036) hx hb dL_law_1031 (by decide) (fun c9 => ?_) (fun c9 => absurd (hr9.trans e1) c9)
  refine lv_goto (tgt := 1176) hx hb dL_law_1036 (by decide) ?_
  exact kk v1 g1 y1 z1 fo _ _ _ e3 hP hD hS (lv_sub hl [1, 2, 3, 4, 5] rfl)
set_option maxHeartbeats 4000000 in
set_option maxRecDepth 100000 in
theorem law_shown {p : Program} {l : Launch} {e : Env} {s : State} {m : MethodId} {below : List Frame} {meth : Method} {c : Code} {Q : State → Prop} {c0 : Cond} {b L : Nat} {xs : Nat → Int32} {dC : Nat → ClassId} {dI : Nat → Nat → Nat} {cI cZ cJ : ClassId} {a am : Nat → Nat} {o : Nat} {tx : Nat → Nat}
    (hl9 : l.stackTraces = false) (hx : p.tables.exec = Jvm.exec) (hb : c.code = code) (hml : c.maxLocals = 7) (hown : s.vm.findClass RL = some m.cls) (hts : ∀ w ∈ c0 :: allW, w.before #[Value.ref b] s = true) (hX : va_X b L xs s s.heap) (hbl : b < s.heap.size) (hK : va_K (dC, dI) clA (tyA cI cZ cJ) s) (hZ : ZX tx (fun q : Nat => s.heap.size ≤ q) s s.heap) (hC : ZC s)
    {i cells slots : Nat} (hi : i + 7 ≤ L) (hL : L ≤ 3584) (hce : cells + 7 ≤ 601024) (hsl : slots + 42 ≤ 7293034) {v : Nat → Int32} {g : Nat → Nat → Int32} {y : Nat → Int32} {z : Nat → Nat → Int32} {fo : Nat → Int64} {H : Heap} {locs : List Loc} {ls : Array Slot} (hR : Rel v g y z) (hP : va_P (dC, dI) clA (wW cI cZ cJ o fo a v g am y z) H) (hD : va_D (fun q : Nat => s.heap.size ≤ q) (wW cI cZ cJ o fo a v g am y z)) (hS : va_S (fun q : Nat => s.heap.size ≤ q) s.heap H locs) (hl : lv_has ls 7 [(0, .ref b), (1, .ref (a 0)), (2, .ref (am 0)), (3, .ref o), (4, .int (nI i))])
    (kk : ∀ (v1 : Nat → Int32) (g1 : Nat → Nat → Int32) (y1 : Nat → Int32) (z1 : Nat → Nat → Int32) (fo1 : Nat → Int64) (H1 : Heap) (locs1 : List Loc) (ls1 : Array Slot), Rel v1 g1 y1 z1 → va_P (dC, dI) clA (wW cI cZ cJ o fo1 a v1 g1 am y1 z1) H1 → va_D (fun q : Nat => s.heap.size ≤ q) (wW cI cZ cJ o fo1 a v1 g1 am y1 z1) → va_S (fun q : Nat => s.heap.size ≤ q) s.heap H1 locs1 → lv_has ls1 7 [(0, .ref b), (1, .ref (a 0)), (2, .ref (am 0)), (3, .ref o), (4, .int (nI i))] → W p l e room_1 s m #[Value.ref b] below meth c H1 locs1 (cells + 7) (slots + 42) Q (F0 m 1176 ls1 [])) :
    W p l e room_1 s m #[Value.ref b] below meth c H locs cells slots Q (F0 m 1039 ls []) := by
  obtain ⟨n, nd, f0, t0, hRl⟩ := hR
  have hn : v 5 = nI n := hRl.1.2.1
  have hn2 : n ≤ 200 := hRl.1.1
  have hy : y 1 = nI n := hRl.1.2.2
  have hnd : v 4 = nI nd := hRl.2.1.2.1
  have hnd2 : nd ≤ 6 := hRl.2.1.1
  have hyd : y 2 = nI nd := hRl.2.1.2.2
  refine lv_aload_n hx hb dL_law_1039 rfl (lv_at hl 1 rfl) ?_
  refine lv_aload_n hx hb dL_law_1040 rfl (lv_at hl 0 rfl) ?_
  refine lv_iload hx hb dL_law_1041 (lv_at hl 4 rfl) ?_
  refine lv_iconst (v := 1) hx hb dL_law_1043 (by decide) ?_
  refine lv_iadd hx hb dL_law_1044 ?_
  refine lw_sld hx hb hX hbl hS (k := 1) rfl (by omega) hL dL_law_1045 ?_
  refine lv_aload_n hx hb dL_law_1046 rfl (lv_at hl 3 rfl) ?_
  have hPc := hP.sub (ws' := wL cI cZ cJ o fo a v g) [0, 1, 2, 3, 4, 5, 6, 7, 8, 9, 10, 11, 12, 13, 14, 15, 16, 17, 18, 19, 20] rfl
  have hDc := hD.sub (ws' := wL cI cZ cJ o fo a v g) [0, 1, 2, 3, 4, 5, 6, 7, 8, 9, 10, 11, 12, 13, 14, 15, 16, 17, 18, 19, 20] (by decide) rfl
  have hFc := va_free (wc := wL cI cZ cJ o fo a v g) hD hS (fun _ h => h) [0, 1, 2, 3, 4, 5, 6, 7, 8, 9, 10, 11, 12, 13, 14, 15, 16, 17, 18, 19, 20] rfl
  refine va_calli (vx_runSW (As := [.ref (a 0), .int (xs (i + 1)), .ref o]) (rest := []) ⟨hx, hb, hml, hown, hts⟩ (w_shown l hl9 dC dI cI cZ cJ a tx v g o fo H.size n hn hn2 (xs (i + 1))) (vx_cwSW 3 hts (gd_SW ml_L_L_shown sm_L_shown in_L kL_shown) rfl rfl rfl (by decide +kernel) ⟨Nat.le_of_ble_eq_true rfl, Nat.le_of_ble_eq_true rfl⟩) ⟨fun _ U g mk q => by obtain ⟨q0, q1, qP, qK, qD, qZ, qC⟩ := q; exact ⟨q0, q1, qP, va_K.moved (u := U) (U := U.calling g mk _) (Vm.Alike.refl U.vm) qK, qD, ZX.calling qZ, ZC.moved (u := U) (U := U.calling g mk _) (Vm.Alike.refl U.vm) qC⟩, fun U hU hW => ⟨rfl, by rw [hU], by rw [hU]; exact hPc, va_K.moved hW.alike hK, hDc.weaken (fun _ _ _ _ => trivial), ZX.call hZ hS hFc hW hU, ZC.moved hW.alike hC⟩⟩ rfl rfl hl.1 rfl (lv_room (Nat.le_of_ble_eq_true rfl)) dL_law_1047 ⟨by show _ ≤ 601024; omega, by show _ ≤ 7293034; omega⟩) hS (fun q _ h => hFc q h) hFc (fun r1 u1 t1 H1 locs1 ht1 hvm1 hw hB hz1 hk1 hS => ?_)
  obtain ⟨⟨v1, g1⟩, fo1⟩ := u1
  obtain ⟨hP1, hK1, hD1⟩ := hB
  rw [ht1] at hP1
  obtain ⟨hPj, hDj⟩ := va_join (wr := wM cI cZ am y z) (w1 := wL cI cZ cJ o fo1 a v1 g1) hP hD [0, 1, 2, 3, 4, 5, 6, 7, 8, 9, 10, 11, 12, 13, 14, 15, 16, 17, 18, 19, 20] [21, 22, 23, 24, 25, 26, 27, 28, 29, 30, 31, 32, 33, 34, 35, 36, 37] rfl rfl (by decide) (by decide) hk1 hFc hP1 hD1
  have hP := hPj.sub (ws' := wW cI cZ cJ o fo1 a v1 g1 am y z) [17, 18, 19, 20, 21, 22, 23, 24, 25, 26, 27, 28, 29, 30, 31, 32, 33, 34, 35, 36, 37, 0, 1, 2, 3, 4, 5, 6, 7, 8, 9, 10, 11, 12, 13, 14, 15, 16] rfl
  have hD := hDj.sub (ws' := wW cI cZ cJ o fo1 a v1 g1 am y z) [17, 18, 19, 20, 21, 22, 23, 24, 25, 26, 27, 28, 29, 30, 31, 32, 33, 34, 35, 36, 37, 0, 1, 2, 3, 4, 5, 6, 7, 8, 9, 10, 11, 12, 13, 14, 15, 16] (by decide) rfl
  refine W.widen (k := cells + 7) (n := slots + 42) (by omega) (by omega) ?_
  refine lv_istore (lv' := [(5, .int r1), (0, .ref b), (1, .ref (a 0)), (2, .ref (am 0)), (3, .ref o), (4, .int (nI i))]) hx hb dL_law_1050 hl (by decide) rfl (fun ls hl => ?_)
  refine lv_aload_n hx hb dL_law_1052 rfl (lv_at hl 3 rfl) ?_
  refine lv_aload_n hx hb dL_law_1053 rfl (lv_at hl 1 rfl) ?_
  refine lv_iload hx hb dL_law_1054 (lv_at hl 5 rfl) ?_
  refine lv_iconst (v := 1) hx hb dL_law_1056 (by decide) ?_
  refine lv_iadd hx hb dL_law_1057 ?_
  refine lw_sld hx hb hX hbl hS (k := 1) rfl (by omega) hL dL_law_1058 ?_
  have hPm := hP.sub (ws' := wM cI cZ am y z) [21, 22, 23, 24, 25, 26, 27, 28, 29, 30, 31, 32, 33, 34, 35, 36, 37] rfl
  have hDm := hD.sub (ws' := wM cI cZ am y z) [21, 22, 23, 24, 25, 26, 27, 28, 29, 30, 31, 32, 33, 34, 35, 36, 37] (by decide) rfl
  have hFm := va_free (wc := wM cI cZ am y z) hD hS (fun _ h => h) [21, 22, 23, 24, 25, 26, 27, 28, 29, 30, 31, 32, 33, 34, 35, 36, 37] rfl
  refine va_calli (va_runV (As := [.int (xs (i + 1))]) (rest := []) ⟨hx, hb, hml, hown, hts⟩ (m_shown l dC dI cI cZ cJ am y z H1.size n hy hn2 (xs (i + 1))) (cwV 1 hts (gd_V ml_L_X5_shown im_X5_shown se_X5_shown in_X5 kX5_shown) rfl rfl rfl (by decide +kernel) ⟨Nat.le_of_ble_eq_true rfl, Nat.le_of_ble_eq_true rfl⟩) ⟨fun _ U g mk q => by obtain ⟨q0, q1, qP, qK, qD⟩ := q; exact ⟨q0, q1, qP, va_K.moved (u := U) (U := U.calling g mk _) (Vm.Alike.refl U.vm) qK, qD⟩, va_recv hK hPm (ci := 5) (q0 := 0) rfl rfl, fun U hU hW => ⟨rfl, by rw [hU], by rw [hU]; exact hPm, va_K.moved hW.alike hK, hDm.weaken (fun _ _ _ _ => trivial)⟩⟩ rfl rfl hl.1 rfl (lv_room (Nat.le_of_ble_eq_true rfl)) dL_law_1059 ⟨by show _ ≤ 601024; omega, by show _ ≤ 7293034; omega⟩) hS (fun q _ h => hFm q h) hFm (fun b2 u2 t2 H2 locs2 ht2 hvm2 hm hB2 hz2 hk2 hS => ?_)
  obtain ⟨y1, z1⟩ := u2
  obtain ⟨hP2, hK2, hD2⟩ := hB2
  rw [ht2] at hP2
  obtain ⟨hPj, hDj⟩ := va_join (wr := wL cI cZ cJ o fo1 a v1 g1) (w1 := wM cI cZ am y1 z1) hP hD [21, 22, 23, 24, 25, 26, 27, 28, 29, 30, 31, 32, 33, 34, 35, 36, 37] [0, 1, 2, 3, 4, 5, 6, 7, 8, 9, 10, 11, 12, 13, 14, 15, 16, 17, 18, 19, 20] rfl rfl (by decide) (by decide) hk2 hFm hP2 hD2
  have hP : va_P (dC, dI) clA (wW cI cZ cJ o fo1 a v1 g1 am y1 z1) H2 := hPj
  have hD : va_D (fun q : Nat => s.heap.size ≤ q) (wW cI cZ cJ o fo1 a v1 g1 am y1 z1) := hDj
  refine lv_istore (lv' := [(6, .int b2), (5, .int r1), (0, .ref b), (1, .ref (a 0)), (2, .ref (am 0)), (3, .ref o), (4, .int (nI i))]) hx hb dL_law_1062 hl (by decide) rfl (fun ls hl => ?_)
  have st := st_shown hRl hw hm
  have e1 : y1 0 = r1 := st.1
  have e2 : r1 = 0 → fo1 0 = b2.toInt64 := st.2.1
  have e3 : Rel v1 g1 y1 z1 := st.2.2
  refine lv_aload_n hx hb dL_law_1064 rfl (lv_at hl 4 rfl) ?_
  have hPt := hP.sub (ws' := wM cI cZ am y1 z1) [21, 22, 23, 24, 25, 26, 27, 28, 29, 30, 31, 32, 33, 34, 35, 36, 37] rfl
  refine vp_callSi (W.runV (As := []) (rest := []) ⟨hx, hb, hml, hown, hts⟩ (m_thrown l dC dI cI cZ cJ am y1 z1) (cwV 0 hts (gd_V ml_L_X5_thrown im_X5_thrown se_X5_thrown in_X5 kX5_thrown) rfl rfl rfl (by decide +kernel) ⟨Nat.le_of_ble_eq_true rfl, Nat.le_of_ble_eq_true rfl⟩) ⟨fun _ U g mk q => by obtain ⟨q0, qP, qK⟩ := q; exact ⟨q0, qP, va_K.moved (u := U) (U := U.calling g mk _) (Vm.Alike.refl U.vm) qK⟩, va_recv hK hPt (ci := 5) (q0 := 0) rfl rfl, fun U hU hW => ⟨rfl, by rw [hU]; exact hPt, va_K.moved hW.alike hK⟩⟩ rfl rfl hl.1 rfl (lv_room (Nat.le_of_ble_eq_true rfl)) dL_law_1065 ⟨by show _ ≤ 601024; omega, by show _ ≤ 7293034; omega⟩) (fun r9 hr9 => ?_)
  refine lv_iload hx hb dL_law_1068 (lv_at hl 1 rfl) ?_
  refine lv_icmp_eq (tgt := 1075) hx hb dL_law_1070 (by decide) (fun c9 => ?_) (fun c9 => absurd (hr9.trans e1) c9)
  refine lv_iload hx hb dL_law_1075 (lv_at hl 1 rfl) ?_
  refine lv_if_ne (tgt := 1092) hx hb dL_law_1077 (by decide) (fun c8 => ?_) (fun c8 => ?_)
  · refine lv_goto (tgt := 1176) hx hb dL_law_1092 (by decide) ?_
    exact kk v1 g1 y1 z1 fo1 _ _ _ e3 hP hD hS (lv_sub hl [2, 3, 4, 5, 6] rfl)
  · refine lv_aload_n hx hb dL_law_1080 rfl (lv_at hl 5 rfl) ?_
    refine lv_iconst (v := 0) hx hb dL_law_1081 (by decide) ?_
    refine va_lald hx hb hK hP 0 2 rfl rfl (vp_in_nI (n := 0) (N := 1) (by decide) (by decide)) dL_law_1082 ?_
    refine lv_iload hx hb dL_law_1083 (lv_at hl 0 rfl) ?_
    refine lv_i2l (v := b2.toInt64) hx hb dL_law_1085 rfl ?_
    refine W.lcmp hx hb dL_law_1086 ?_
    refine lv_if_eq (tgt := 1092) hx hb dL_law_1087 (by decide) (fun c7 => ?_) (fun c7 => absurd (lw_eq (show fo1 (0 : Int32).toNatClampNeg = b2.toInt64 from e2 c8)) c7)
    refine lv_goto (tgt := 1176) hx hb dL_law_1092 (by decide) ?_
    exact kk v1 g1 y1 z1 fo1 _ _ _ e3 hP hD hS (lv_sub hl [2, 3, 4, 5, 6] rfl)
set_option maxHeartbeats 4000000 in
set_option maxRecDepth 100000 in
theorem law_joined {p : Program} {l : Launch} {e : Env} {s : State} {m : MethodId} {below : List Frame} {meth : Method} {c : Code} {Q : State → Prop} {c0 : Cond} {b L : Nat} {xs : Nat → Int32} {dC : Nat → ClassId} {dI : Nat → Nat → Nat} {cI cZ cJ : ClassId} {a am : Nat → Nat} {o : Nat} {tx : Nat → Nat}
    (hl9 : l.stackTraces = false) (hx : p.tables.exec = Jvm.exec) (hb : c.code = code) (hml : c.maxLocals = 7) (hown : s.vm.findClass RL = some m.cls) (hts : ∀ w ∈ c0 :: allW, w.before #[Value.ref b] s = true) (hX : va_X b L xs s s.heap) (hbl : b < s.heap.size) (hK : va_K (dC, dI) clA (tyA cI cZ cJ) s) (hZ : ZX tx (fun q : Nat => s.heap.size ≤ q) s s.heap) (hC : ZC s)
    {i cells slots : Nat} (hi : i + 7 ≤ L) (hL : L ≤ 3584) (hce : cells + 7 ≤ 601024) (hsl : slots + 42 ≤ 7293034) {v : Nat → Int32} {g : Nat → Nat → Int32} {y : Nat → Int32} {z : Nat → Nat → Int32} {fo : Nat → Int64} {H : Heap} {locs : List Loc} {ls : Array Slot} (hR : Rel v g y z) (hP : va_P (dC, dI) clA (wW cI cZ cJ o fo a v g am y z) H) (hD : va_D (fun q : Nat => s.heap.size ≤ q) (wW cI cZ cJ o fo a v g am y z)) (hS : va_S (fun q : Nat => s.heap.size ≤ q) s.heap H locs) (hl : lv_has ls 7 [(0, .ref b), (1, .ref (a 0)), (2, .ref (am 0)), (3, .ref o), (4, .int (nI i))])
    (kk : ∀ (v1 : Nat → Int32) (g1 : Nat → Nat → Int32) (y1 : Nat → Int32) (z1 : Nat → Nat → Int32) (fo1 : Nat → Int64) (H1 : Heap) (locs1 : List Loc) (ls1 : Array Slot), Rel v1 g1 y1 z1 → va_P (dC, dI) clA (wW cI cZ cJ o fo1 a v1 g1 am y1 z1) H1 → va_D (fun q : Nat => s.heap.size ≤ q) (wW cI cZ cJ o fo1 a v1 g1 am y1 z1) → va_S (fun q : Nat => s.heap.size ≤ q) s.heap H1 locs1 → lv_has ls1 7 [(0, .ref b), (1, .ref (a 0)), (2, .ref (am 0)), (3, .ref o), (4, .int (nI i))] → W p l e room_1 s m #[Value.ref b] below meth c H1 locs1 (cells + 7) (slots + 42) Q (F0 m 1176 ls1 [])) :
    W p l e room_1 s m #[Value.ref b] below meth c H locs cells slots Q (F0 m 1095 ls []) := by
  obtain ⟨n, nd, f0, t0, hRl⟩ := hR
  have hn : v 5 = nI n := hRl.1.2.1
  have hn2 : n ≤ 200 := hRl.1.1
  have hy : y 1 = nI n := hRl.1.2.2
  have hnd : v 4 = nI nd := hRl.2.1.2.1
  have hnd2 : nd ≤ 6 := hRl.2.1.1
  have hyd : y 2 = nI nd := hRl.2.1.2.2
  refine lv_aload_n hx hb dL_law_1095 rfl (lv_at hl 1 rfl) ?_
  have hPc := hP.sub (ws' := wA cI cZ a v g) [1, 2, 3, 4, 5, 6, 7, 8, 9, 10, 11, 12, 13, 14, 15, 16, 17, 18, 19, 20] rfl
  have hDc := hD.sub (ws' := wA cI cZ a v g) [1, 2, 3, 4, 5, 6, 7, 8, 9, 10, 11, 12, 13, 14, 15, 16, 17, 18, 19, 20] (by decide) rfl
  have hFc := va_free (wc := wA cI cZ a v g) hD hS (fun _ h => h) [1, 2, 3, 4, 5, 6, 7, 8, 9, 10, 11, 12, 13, 14, 15, 16, 17, 18, 19, 20] rfl
  refine va_calli (va_runV (As := []) (rest := []) ⟨hx, hb, hml, hown, hts⟩ (c_joined l dC dI cI cZ cJ a v g H.size n hn hn2) (cwV 0 hts (gd_V ml_L_X4_joined im_X4_joined se_X4_joined in_X4 kX4_joined) rfl rfl rfl (by decide +kernel) ⟨Nat.le_of_ble_eq_true rfl, Nat.le_of_ble_eq_true rfl⟩) ⟨fun _ U g mk q => by obtain ⟨q0, q1, qP, qK, qD⟩ := q; exact ⟨q0, q1, qP, va_K.moved (u := U) (U := U.calling g mk _) (Vm.Alike.refl U.vm) qK, qD⟩, va_recv hK hPc (ci := 4) (q0 := 0) rfl rfl, fun U hU hW => ⟨rfl, by rw [hU], by rw [hU]; exact hPc, va_K.moved hW.alike hK, hDc.weaken (fun _ _ _ _ => trivial)⟩⟩ rfl rfl hl.1 rfl (lv_room (Nat.le_of_ble_eq_true rfl)) dL_law_1096 ⟨by show _ ≤ 601024; omega, by show _ ≤ 7293034; omega⟩) hS (fun q _ h => hFc q h) hFc (fun r1 u1 t1 H1 locs1 ht1 hvm1 hr1 hB hz1 hk1 hS => ?_)
  obtain ⟨v1, g1⟩ := u1
  obtain ⟨hP1, hK1, hD1⟩ := hB
  rw [ht1] at hP1
  obtain ⟨hPj, hDj⟩ := va_join (wr := ((o, .inl (cJ, 1, .inr (.inl fo))) :: wM cI cZ am y z)) (w1 := wA cI cZ a v1 g1) hP hD [1, 2, 3, 4, 5, 6, 7, 8, 9, 10, 11, 12, 13, 14, 15, 16, 17, 18, 19, 20] [0, 21, 22, 23, 24, 25, 26, 27, 28, 29, 30, 31, 32, 33, 34, 35, 36, 37] rfl rfl (by decide) (by decide) hk1 hFc hP1 hD1
  have hP := hPj.sub (ws' := wW cI cZ cJ o fo a v1 g1 am y z) [0, 18, 19, 20, 21, 22, 23, 24, 25, 26, 27, 28, 29, 30, 31, 32, 33, 34, 35, 36, 37, 1, 2, 3, 4, 5, 6, 7, 8, 9, 10, 11, 12, 13, 14, 15, 16, 17] rfl
  have hD := hDj.sub (ws' := wW cI cZ cJ o fo a v1 g1 am y z) [0, 18, 19, 20, 21, 22, 23, 24, 25, 26, 27, 28, 29, 30, 31, 32, 33, 34, 35, 36, 37, 1, 2, 3, 4, 5, 6, 7, 8, 9, 10, 11, 12, 13, 14, 15, 16, 17] (by decide) rfl
  refine lv_aload_n hx hb dL_law_1099 rfl (lv_at hl 2 rfl) ?_
  have hPm := hP.sub (ws' := wM cI cZ am y z) [21, 22, 23, 24, 25, 26, 27, 28, 29, 30, 31, 32, 33, 34, 35, 36, 37] rfl
  have hDm := hD.sub (ws' := wM cI cZ am y z) [21, 22, 23, 24, 25, 26, 27, 28, 29, 30, 31, 32, 33, 34, 35, 36, 37] (by decide) rfl
  have hFm := va_free (wc := wM cI cZ am y z) hD hS (fun _ h => h) [21, 22, 23, 24, 25, 26, 27, 28, 29, 30, 31, 32, 33, 34, 35, 36, 37] rfl
  refine va_calli (va_runV (As := []) (rest := [.int r1]) ⟨hx, hb, hml, hown, hts⟩ (m_joined l dC dI cI cZ cJ am y z H1.size n hy hn2 ) (cwV 0 hts (gd_V ml_L_X5_joined im_X5_joined se_X5_joined in_X5 kX5_joined) rfl rfl rfl (by decide +kernel) ⟨Nat.le_of_ble_eq_true rfl, Nat.le_of_ble_eq_true rfl⟩) ⟨fun _ U g mk q => by obtain ⟨q0, q1, qP, qK, qD⟩ := q; exact ⟨q0, q1, qP, va_K.moved (u := U) (U := U.calling g mk _) (Vm.Alike.refl U.vm) qK, qD⟩, va_recv hK hPm (ci := 5) (q0 := 0) rfl rfl, fun U hU hW => ⟨rfl, by rw [hU], by rw [hU]; exact hPm, va_K.moved hW.alike hK, hDm.weaken (fun _ _ _ _ => trivial)⟩⟩ rfl rfl hl.1 rfl (lv_room (Nat.le_of_ble_eq_true rfl)) dL_law_1100 ⟨by show _ ≤ 601024; omega, by show _ ≤ 7293034; omega⟩) hS (fun q _ h => hFm q h) hFm (fun b2 u2 t2 H2 locs2 ht2 hvm2 hm hB2 hz2 hk2 hS => ?_)
  obtain ⟨y1, z1⟩ := u2
  obtain ⟨hP2, hK2, hD2⟩ := hB2
  rw [ht2] at hP2
  obtain ⟨hPj, hDj⟩ := va_join (wr := wL cI cZ cJ o fo a v1 g1) (w1 := wM cI cZ am y1 z1) hP hD [21, 22, 23, 24, 25, 26, 27, 28, 29, 30, 31, 32, 33, 34, 35, 36, 37] [0, 1, 2, 3, 4, 5, 6, 7, 8, 9, 10, 11, 12, 13, 14, 15, 16, 17, 18, 19, 20] rfl rfl (by decide) (by decide) hk2 hFm hP2 hD2
  have hP : va_P (dC, dI) clA (wW cI cZ cJ o fo a v1 g1 am y1 z1) H2 := hPj
  have hD : va_D (fun q : Nat => s.heap.size ≤ q) (wW cI cZ cJ o fo a v1 g1 am y1 z1) := hDj
  refine W.widen (k := cells + 7) (n := slots + 42) (by omega) (by omega) ?_
  obtain ⟨m1, m2⟩ := hm
  obtain ⟨w1, w2⟩ := hr1
  cases w2
  cases m2
  have st := st_joined hRl
  have e1 : r1 = b2 := by rw [w1, m1]; exact st.1
  have e3 := st.2
  refine lv_icmp_eq (tgt := 1176) hx hb dL_law_1103 (by decide) (fun c9 => ?_) (fun c9 => absurd e1 c9)
  exact kk _ _ _ _ fo _ _ _ e3 hP hD hS (lv_sub hl [0, 1, 2, 3, 4] rfl)
set_option maxHeartbeats 4000000 in
set_option maxRecDepth 100000 in
theorem law_work {p : Program} {l : Launch} {e : Env} {s : State} {m : MethodId} {below : List Frame} {meth : Method} {c : Code} {Q : State → Prop} {c0 : Cond} {b L : Nat} {xs : Nat → Int32} {dC : Nat → ClassId} {dI : Nat → Nat → Nat} {cI cZ cJ : ClassId} {a am : Nat → Nat} {o : Nat} {tx : Nat → Nat}
    (hl9 : l.stackTraces = false) (hx : p.tables.exec = Jvm.exec) (hb : c.code = code) (hml : c.maxLocals = 7) (hown : s.vm.findClass RL = some m.cls) (hts : ∀ w ∈ c0 :: allW, w.before #[Value.ref b] s = true) (hX : va_X b L xs s s.heap) (hbl : b < s.heap.size) (hK : va_K (dC, dI) clA (tyA cI cZ cJ) s) (hZ : ZX tx (fun q : Nat => s.heap.size ≤ q) s s.heap) (hC : ZC s)
    {i cells slots : Nat} (hi : i + 7 ≤ L) (hL : L ≤ 3584) (hce : cells + 7 ≤ 601024) (hsl : slots + 42 ≤ 7293034) {v : Nat → Int32} {g : Nat → Nat → Int32} {y : Nat → Int32} {z : Nat → Nat → Int32} {fo : Nat → Int64} {H : Heap} {locs : List Loc} {ls : Array Slot} (hR : Rel v g y z) (hP : va_P (dC, dI) clA (wW cI cZ cJ o fo a v g am y z) H) (hD : va_D (fun q : Nat => s.heap.size ≤ q) (wW cI cZ cJ o fo a v g am y z)) (hS : va_S (fun q : Nat => s.heap.size ≤ q) s.heap H locs) (hl : lv_has ls 7 [(0, .ref b), (1, .ref (a 0)), (2, .ref (am 0)), (3, .ref o), (4, .int (nI i))])
    (kk : ∀ (v1 : Nat → Int32) (g1 : Nat → Nat → Int32) (y1 : Nat → Int32) (z1 : Nat → Nat → Int32) (fo1 : Nat → Int64) (H1 : Heap) (locs1 : List Loc) (ls1 : Array Slot), Rel v1 g1 y1 z1 → va_P (dC, dI) clA (wW cI cZ cJ o fo1 a v1 g1 am y1 z1) H1 → va_D (fun q : Nat => s.heap.size ≤ q) (wW cI cZ cJ o fo1 a v1 g1 am y1 z1) → va_S (fun q : Nat => s.heap.size ≤ q) s.heap H1 locs1 → lv_has ls1 7 [(0, .ref b), (1, .ref (a 0)), (2, .ref (am 0)), (3, .ref o), (4, .int (nI i))] → W p l e room_1 s m #[Value.ref b] below meth c H1 locs1 (cells + 7) (slots + 42) Q (F0 m 1176 ls1 [])) :
    W p l e room_1 s m #[Value.ref b] below meth c H locs cells slots Q (F0 m 1108 ls []) := by
  obtain ⟨n, nd, f0, t0, hRl⟩ := hR
  have hn : v 5 = nI n := hRl.1.2.1
  have hn2 : n ≤ 200 := hRl.1.1
  have hy : y 1 = nI n := hRl.1.2.2
  have hnd : v 4 = nI nd := hRl.2.1.2.1
  have hnd2 : nd ≤ 6 := hRl.2.1.1
  have hyd : y 2 = nI nd := hRl.2.1.2.2
  refine lv_aload_n hx hb dL_law_1108 rfl (lv_at hl 1 rfl) ?_
  refine lv_aload_n hx hb dL_law_1109 rfl (lv_at hl 0 rfl) ?_
  refine lv_iload hx hb dL_law_1110 (lv_at hl 4 rfl) ?_
  refine lv_iconst (v := 1) hx hb dL_law_1112 (by decide) ?_
  refine lv_iadd hx hb dL_law_1113 ?_
  refine lw_sld hx hb hX hbl hS (k := 1) rfl (by omega) hL dL_law_1114 ?_
  refine lv_aload_n hx hb dL_law_1115 rfl (lv_at hl 0 rfl) ?_
  refine lv_iload hx hb dL_law_1116 (lv_at hl 4 rfl) ?_
  refine lv_iconst (v := 2) hx hb dL_law_1118 (by decide) ?_
  refine lv_iadd hx hb dL_law_1119 ?_
  refine lw_sld hx hb hX hbl hS (k := 2) rfl (by omega) hL dL_law_1120 ?_
  refine lv_aload_n hx hb dL_law_1121 rfl (lv_at hl 3 rfl) ?_
  have hPc := hP.sub (ws' := wL cI cZ cJ o fo a v g) [0, 1, 2, 3, 4, 5, 6, 7, 8, 9, 10, 11, 12, 13, 14, 15, 16, 17, 18, 19, 20] rfl
  have hDc := hD.sub (ws' := wL cI cZ cJ o fo a v g) [0, 1, 2, 3, 4, 5, 6, 7, 8, 9, 10, 11, 12, 13, 14, 15, 16, 17, 18, 19, 20] (by decide) rfl
  have hFc := va_free (wc := wL cI cZ cJ o fo a v g) hD hS (fun _ h => h) [0, 1, 2, 3, 4, 5, 6, 7, 8, 9, 10, 11, 12, 13, 14, 15, 16, 17, 18, 19, 20] rfl
  refine va_calli (vx_runSW (As := [.ref (a 0), .int (xs (i + 1)), .int (xs (i + 2)), .ref o]) (rest := []) ⟨hx, hb, hml, hown, hts⟩ (w_work l hl9 dC dI cI cZ cJ a tx v g o fo H.size n hn hn2 (xs (i + 1)) (xs (i + 2))) (vx_cwSW 4 hts (gd_SW ml_L_L_work sm_L_work in_L kL_work) rfl rfl rfl (by decide +kernel) ⟨Nat.le_of_ble_eq_true rfl, Nat.le_of_ble_eq_true rfl⟩) ⟨fun _ U g mk q => by obtain ⟨q0, q1, qP, qK, qD, qZ, qC⟩ := q; exact ⟨q0, q1, qP, va_K.moved (u := U) (U := U.calling g mk _) (Vm.Alike.refl U.vm) qK, qD, ZX.calling qZ, ZC.moved (u := U) (U := U.calling g mk _) (Vm.Alike.refl U.vm) qC⟩, fun U hU hW => ⟨rfl, by rw [hU], by rw [hU]; exact hPc, va_K.moved hW.alike hK, hDc.weaken (fun _ _ _ _ => trivial), ZX.call hZ hS hFc hW hU, ZC.moved hW.alike hC⟩⟩ rfl rfl hl.1 rfl (lv_room (Nat.le_of_ble_eq_true rfl)) dL_law_1122 ⟨by show _ ≤ 601024; omega, by show _ ≤ 7293034; omega⟩) hS (fun q _ h => hFc q h) hFc (fun r1 u1 t1 H1 locs1 ht1 hvm1 hw hB hz1 hk1 hS => ?_)
  obtain ⟨⟨v1, g1⟩, fo1⟩ := u1
  obtain ⟨hP1, hK1, hD1⟩ := hB
  rw [ht1] at hP1
  obtain ⟨hPj, hDj⟩ := va_join (wr := wM cI cZ am y z) (w1 := wL cI cZ cJ o fo1 a v1 g1) hP hD [0, 1, 2, 3, 4, 5, 6, 7, 8, 9, 10, 11, 12, 13, 14, 15, 16, 17, 18, 19, 20] [21, 22, 23, 24, 25, 26, 27, 28, 29, 30, 31, 32, 33, 34, 35, 36, 37] rfl rfl (by decide) (by decide) hk1 hFc hP1 hD1
  have hP := hPj.sub (ws' := wW cI cZ cJ o fo1 a v1 g1 am y z) [17, 18, 19, 20, 21, 22, 23, 24, 25, 26, 27, 28, 29, 30, 31, 32, 33, 34, 35, 36, 37, 0, 1, 2, 3, 4, 5, 6, 7, 8, 9, 10, 11, 12, 13, 14, 15, 16] rfl
  have hD := hDj.sub (ws' := wW cI cZ cJ o fo1 a v1 g1 am y z) [17, 18, 19, 20, 21, 22, 23, 24, 25, 26, 27, 28, 29, 30, 31, 32, 33, 34, 35, 36, 37, 0, 1, 2, 3, 4, 5, 6, 7, 8, 9, 10, 11, 12, 13, 14, 15, 16] (by decide) rfl
  refine W.widen (k := cells + 7) (n := slots + 42) (by omega) (by omega) ?_
  refine lv_istore (lv' := [(5, .int r1), (0, .ref b), (1, .ref (a 0)), (2, .ref (am 0)), (3, .ref o), (4, .int (nI i))]) hx hb dL_law_1125 hl (by decide) rfl (fun ls hl => ?_)
  refine lv_aload_n hx hb dL_law_1127 rfl (lv_at hl 3 rfl) ?_
  refine lv_aload_n hx hb dL_law_1128 rfl (lv_at hl 1 rfl) ?_
  refine lv_iload hx hb dL_law_1129 (lv_at hl 5 rfl) ?_
  refine lv_iconst (v := 1) hx hb dL_law_1131 (by decide) ?_
  refine lv_iadd hx hb dL_law_1132 ?_
  refine lw_sld hx hb hX hbl hS (k := 1) rfl (by omega) hL dL_law_1133 ?_
  refine lv_aload_n hx hb dL_law_1134 rfl (lv_at hl 1 rfl) ?_
  refine lv_iload hx hb dL_law_1135 (lv_at hl 5 rfl) ?_
  refine lv_iconst (v := 2) hx hb dL_law_1137 (by decide) ?_
  refine lv_iadd hx hb dL_law_1138 ?_
  refine lw_sld hx hb hX hbl hS (k := 2) rfl (by omega) hL dL_law_1139 ?_
  have hPm := hP.sub (ws' := wM cI cZ am y z) [21, 22, 23, 24, 25, 26, 27, 28, 29, 30, 31, 32, 33, 34, 35, 36, 37] rfl
  have hDm := hD.sub (ws' := wM cI cZ am y z) [21, 22, 23, 24, 25, 26, 27, 28, 29, 30, 31, 32, 33, 34, 35, 36, 37] (by decide) rfl
  have hFm := va_free (wc := wM cI cZ am y z) hD hS (fun _ h => h) [21, 22, 23, 24, 25, 26, 27, 28, 29, 30, 31, 32, 33, 34, 35, 36, 37] rfl
  refine va_calli (va_runV (As := [.int (xs (i + 1)), .int (xs (i + 2))]) (rest := []) ⟨hx, hb, hml, hown, hts⟩ (m_work l dC dI cI cZ cJ am y z H1.size n hy hn2 (xs (i + 1)) (xs (i + 2))) (cwV 2 hts (gd_V ml_L_X5_work im_X5_work se_X5_work in_X5 kX5_work) rfl rfl rfl (by decide +kernel) ⟨Nat.le_of_ble_eq_true rfl, Nat.le_of_ble_eq_true rfl⟩) ⟨fun _ U g mk q => by obtain ⟨q0, q1, qP, qK, qD⟩ := q; exact ⟨q0, q1, qP, va_K.moved (u := U) (U := U.calling g mk _) (Vm.Alike.refl U.vm) qK, qD⟩, va_recv hK hPm (ci := 5) (q0 := 0) rfl rfl, fun U hU hW => ⟨rfl, by rw [hU], by rw [hU]; exact hPm, va_K.moved hW.alike hK, hDm.weaken (fun _ _ _ _ => trivial)⟩⟩ rfl rfl hl.1 rfl (lv_room (Nat.le_of_ble_eq_true rfl)) dL_law_1140 ⟨by show _ ≤ 601024; omega, by show _ ≤ 7293034; omega⟩) hS (fun q _ h => hFm q h) hFm (fun b2 u2 t2 H2 locs2 ht2 hvm2 hm hB2 hz2 hk2 hS => ?_)
  obtain ⟨y1, z1⟩ := u2
  obtain ⟨hP2, hK2, hD2⟩ := hB2
  rw [ht2] at hP2
  obtain ⟨hPj, hDj⟩ := va_join (wr := wL cI cZ cJ o fo1 a v1 g1) (w1 := wM cI cZ am y1 z1) hP hD [21, 22, 23, 24, 25, 26, 27, 28, 29, 30, 31, 32, 33, 34, 35, 36, 37] [0, 1, 2, 3, 4, 5, 6, 7, 8, 9, 10, 11, 12, 13, 14, 15, 16, 17, 18, 19, 20] rfl rfl (by decide) (by decide) hk2 hFm hP2 hD2
  have hP : va_P (dC, dI) clA (wW cI cZ cJ o fo1 a v1 g1 am y1 z1) H2 := hPj
  have hD : va_D (fun q : Nat => s.heap.size ≤ q) (wW cI cZ cJ o fo1 a v1 g1 am y1 z1) := hDj
  refine lv_istore (lv' := [(6, .int b2), (5, .int r1), (0, .ref b), (1, .ref (a 0)), (2, .ref (am 0)), (3, .ref o), (4, .int (nI i))]) hx hb dL_law_1143 hl (by decide) rfl (fun ls hl => ?_)
  have st := st_work hRl hw hm
  have e1 : y1 0 = r1 := st.1
  have e2 : r1 = 0 → fo1 0 = b2.toInt64 := st.2.1
  have e3 : Rel v1 g1 y1 z1 := st.2.2
  refine lv_aload_n hx hb dL_law_1145 rfl (lv_at hl 4 rfl) ?_
  have hPt := hP.sub (ws' := wM cI cZ am y1 z1) [21, 22, 23, 24, 25, 26, 27, 28, 29, 30, 31, 32, 33, 34, 35, 36, 37] rfl
  refine vp_callSi (W.runV (As := []) (rest := []) ⟨hx, hb, hml, hown, hts⟩ (m_thrown l dC dI cI cZ cJ am y1 z1) (cwV 0 hts (gd_V ml_L_X5_thrown im_X5_thrown se_X5_thrown in_X5 kX5_thrown) rfl rfl rfl (by decide +kernel) ⟨Nat.le_of_ble_eq_true rfl, Nat.le_of_ble_eq_true rfl⟩) ⟨fun _ U g mk q => by obtain ⟨q0, qP, qK⟩ := q; exact ⟨q0, qP, va_K.moved (u := U) (U := U.calling g mk _) (Vm.Alike.refl U.vm) qK⟩, va_recv hK hPt (ci := 5) (q0 := 0) rfl rfl, fun U hU hW => ⟨rfl, by rw [hU]; exact hPt, va_K.moved hW.alike hK⟩⟩ rfl rfl hl.1 rfl (lv_room (Nat.le_of_ble_eq_true rfl)) dL_law_1146 ⟨by show _ ≤ 601024; omega, by show _ ≤ 7293034; omega⟩) (fun r9 hr9 => ?_)
  refine lv_iload hx hb dL_law_1149 (lv_at hl 1 rfl) ?_
  refine lv_icmp_eq (tgt := 1156) hx hb dL_law_1151 (by decide) (fun c9 => ?_) (fun c9 => absurd (hr9.trans e1) c9)
  refine lv_iload hx hb dL_law_1156 (lv_at hl 1 rfl) ?_
  refine lv_if_ne (tgt := 1173) hx hb dL_law_1158 (by decide) (fun c8 => ?_) (fun c8 => ?_)
  · refine lv_goto (tgt := 1176) hx hb dL_law_1173 (by decide) ?_
    exact kk v1 g1 y1 z1 fo1 _ _ _ e3 hP hD hS (lv_sub hl [2, 3, 4, 5, 6] rfl)
  · refine lv_aload_n hx hb dL_law_1161 rfl (lv_at hl 5 rfl) ?_
    refine lv_iconst (v := 0) hx hb dL_law_1162 (by decide) ?_
    refine va_lald hx hb hK hP 0 2 rfl rfl (vp_in_nI (n := 0) (N := 1) (by decide) (by decide)) dL_law_1163 ?_
    refine lv_iload hx hb dL_law_1164 (lv_at hl 0 rfl) ?_
    refine lv_i2l (v := b2.toInt64) hx hb dL_law_1166 rfl ?_
    refine W.lcmp hx hb dL_law_1167 ?_
    refine lv_if_eq (tgt := 1173) hx hb dL_law_1168 (by decide) (fun c7 => ?_) (fun c7 => absurd (lw_eq (show fo1 (0 : Int32).toNatClampNeg = b2.toInt64 from e2 c8)) c7)
    refine lv_goto (tgt := 1176) hx hb dL_law_1173 (by decide) ?_
    exact kk v1 g1 y1 z1 fo1 _ _ _ e3 hP hD hS (lv_sub hl [2, 3, 4, 5, 6] rfl)
