/-! the law, case by case -/
set_option maxHeartbeats 4000000 in
set_option maxRecDepth 100000 in
theorem law_row {p : Program} {l : Launch} {e : Env} {s : State} {m : MethodId} {below : List Frame} {meth : Method} {c : Code} {Q : State → Prop} {c0 : Cond} {b L : Nat} {xs : Nat → Int32} {dC : Nat → ClassId} {dI : Nat → Nat → Nat} {cI cZ cJ : ClassId} {a am : Nat → Nat} {o : Nat} {tx : Nat → Nat}
    (hl9 : l.stackTraces = false) (hx : p.tables.exec = Jvm.exec) (hb : c.code = code) (hml : c.maxLocals = 7) (hown : s.vm.findClass RL = some m.cls) (hts : ∀ w ∈ c0 :: allW, w.before #[Value.ref b] s = true) (hX : va_X b L xs s s.heap) (hbl : b < s.heap.size) (hK : va_K (dC, dI) clA (tyA cI cZ cJ) s) (hZ : ZX tx (fun q : Nat => s.heap.size ≤ q) s s.heap) (hC : ZC s)
    {i cells slots : Nat} (hi : i + 7 ≤ L) (hL : L ≤ 3584) (hce : cells + 7 ≤ 601024) (hsl : slots + 42 ≤ 7293034) {v : Nat → Int32} {g : Nat → Nat → Int32} {y : Nat → Int32} {z : Nat → Nat → Int32} {fo : Nat → Int64} {H : Heap} {locs : List Loc} {ls : Array Slot} (hR : Rel v g y z) (hP : va_P (dC, dI) clA (wW cI cZ cJ o fo a v g am y z) H) (hD : va_D (fun q : Nat => s.heap.size ≤ q) (wW cI cZ cJ o fo a v g am y z)) (hS : va_S (fun q : Nat => s.heap.size ≤ q) s.heap H locs) (hl : lv_has ls 7 [(0, .ref b), (1, .ref (a 0)), (2, .ref (am 0)), (3, .ref o), (4, .int (nI i))])
    (kk : ∀ (v1 : Nat → Int32) (g1 : Nat → Nat → Int32) (y1 : Nat → Int32) (z1 : Nat → Nat → Int32) (fo1 : Nat → Int64) (H1 : Heap) (locs1 : List Loc) (ls1 : Array Slot), Rel v1 g1 y1 z1 → va_P (dC, dI) clA (wW cI cZ cJ o fo1 a v1 g1 am y1 z1) H1 → va_D (fun q : Nat => s.heap.size ≤ q) (wW cI cZ cJ o fo1 a v1 g1 am y1 z1) → va_S (fun q : Nat => s.heap.size ≤ q) s.heap H1 locs1 → lv_has ls1 7 [(0, .ref b), (1, .ref (a 0)), (2, .ref (am 0)), (3, .ref o), (4, .int (nI i))] → W p l e room_1 s m #[Value.ref b] below meth c H1 locs1 (cells + 7) (slots + 42) Q (F0 m 1176 ls1 [])) :
    W p l e room_1 s m #[Value.ref b] below meth c H locs cells slots Q (F0 m 128 ls []) := by
  obtain ⟨n, nd, f0, t0, hRl⟩ := hR
  have hn : v 5 = nI n := hRl.1.2.1
  have hn2 : n ≤ 200 := hRl.1.1
  have hy : y 1 = nI n := hRl.1.2.2
  have hnd : v 4 = nI nd := hRl.2.1.2.1
  have hnd2 : nd ≤ 6 := hRl.2.1.1
  have hyd : y 2 = nI nd := hRl.2.1.2.2
  refine lv_aload_n hx hb dL_law_128 rfl (lv_at hl 1 rfl) ?_
  refine lv_aload_n hx hb dL_law_129 rfl (lv_at hl 0 rfl) ?_
  refine lv_iload hx hb dL_law_130 (lv_at hl 4 rfl) ?_
  refine lv_iconst (v := 1) hx hb dL_law_132 (by decide) ?_
  refine lv_iadd hx hb dL_law_133 ?_
  refine lw_sld hx hb hX hbl hS (k := 1) rfl (by omega) hL dL_law_134 ?_
  refine lv_aload_n hx hb dL_law_135 rfl (lv_at hl 0 rfl) ?_
  refine lv_iload hx hb dL_law_136 (lv_at hl 4 rfl) ?_
  refine lv_iconst (v := 2) hx hb dL_law_138 (by decide) ?_
  refine lv_iadd hx hb dL_law_139 ?_
  refine lw_sld hx hb hX hbl hS (k := 2) rfl (by omega) hL dL_law_140 ?_
  refine lv_aload_n hx hb dL_law_141 rfl (lv_at hl 0 rfl) ?_
  refine lv_iload hx hb dL_law_142 (lv_at hl 4 rfl) ?_
  refine lv_iconst (v := 3) hx hb dL_law_144 (by decide) ?_
  refine lv_iadd hx hb dL_law_145 ?_
  refine lw_sld hx hb hX hbl hS (k := 3) rfl (by omega) hL dL_law_146 ?_
  refine lv_aload_n hx hb dL_law_147 rfl (lv_at hl 0 rfl) ?_
  refine lv_iload hx hb dL_law_148 (lv_at hl 4 rfl) ?_
  refine lv_iconst (v := 4) hx hb dL_law_150 (by decide) ?_
  refine lv_iadd hx hb dL_law_151 ?_
  refine lw_sld hx hb hX hbl hS (k := 4) rfl (by omega) hL dL_law_152 ?_
  refine lv_aload_n hx hb dL_law_153 rfl (lv_at hl 0 rfl) ?_
  refine lv_iload hx hb dL_law_154 (lv_at hl 4 rfl) ?_
  refine lv_iconst (v := 5) hx hb dL_law_156 (by decide) ?_
  refine lv_iadd hx hb dL_law_157 ?_
  refine lw_sld hx hb hX hbl hS (k := 5) rfl (by omega) hL dL_law_158 ?_
  refine lv_aload_n hx hb dL_law_159 rfl (lv_at hl 0 rfl) ?_
  refine lv_iload hx hb dL_law_160 (lv_at hl 4 rfl) ?_
  refine lv_bipush (v := 6) hx hb dL_law_162 (by decide) ?_
  refine lv_iadd hx hb dL_law_164 ?_
  refine lw_sld hx hb hX hbl hS (k := 6) rfl (by omega) hL dL_law_165 ?_
  refine lv_aload_n hx hb dL_law_166 rfl (lv_at hl 3 rfl) ?_
  have hPc := hP.sub (ws' := wL cI cZ cJ o fo a v g) [0, 1, 2, 3, 4, 5, 6, 7, 8, 9, 10, 11, 12, 13, 14, 15, 16, 17, 18, 19, 20] rfl
  have hDc := hD.sub (ws' := wL cI cZ cJ o fo a v g) [0, 1, 2, 3, 4, 5, 6, 7, 8, 9, 10, 11, 12, 13, 14, 15, 16, 17, 18, 19, 20] (by decide) rfl
  have hFc := va_free (wc := wL cI cZ cJ o fo a v g) hD hS (fun _ h => h) [0, 1, 2, 3, 4, 5, 6, 7, 8, 9, 10, 11, 12, 13, 14, 15, 16, 17, 18, 19, 20] rfl
  refine va_calli (vx_runSW (As := [.ref (a 0), .int (xs (i + 1)), .int (xs (i + 2)), .int (xs (i + 3)), .int (xs (i + 4)), .int (xs (i + 5)), .int (xs (i + 6)), .ref o]) (rest := []) ⟨hx, hb, hml, hown, hts⟩ (w_row l hl9 dC dI cI cZ cJ a tx v g o fo H.size n hn hn2 (xs (i + 1)) (xs (i + 2)) (xs (i + 3)) (xs (i + 4)) (xs (i + 5)) (xs (i + 6))) (vx_cwSW 8 hts (gd_SW ml_L_L_row sm_L_row in_L kL_row) rfl rfl rfl (by decide +kernel) ⟨Nat.le_of_ble_eq_true rfl, Nat.le_of_ble_eq_true rfl⟩) ⟨fun _ U g mk q => by obtain ⟨q0, q1, qP, qK, qD, qZ, qC⟩ := q; exact ⟨q0, q1, qP, va_K.moved (u := U) (U := U.calling g mk _) (Vm.Alike.refl U.vm) qK, qD, ZX.calling qZ, ZC.moved (u := U) (U := U.calling g mk _) (Vm.Alike.refl U.vm) qC⟩, fun U hU hW => ⟨rfl, by rw [hU], by rw [hU]; exact hPc, va_K.moved hW.alike hK, hDc.weaken (fun _ _ _ _ => trivial), ZX.call hZ hS hFc hW hU, ZC.moved hW.alike hC⟩⟩ rfl rfl hl.1 rfl (lv_room (Nat.le_of_ble_eq_true rfl)) dL_law_167 ⟨by show _ ≤ 601024; omega, by show _ ≤ 7293034; omega⟩) hS (fun q _ h => hFc q h) hFc (fun r1 u1 t1 H1 locs1 ht1 hvm1 hw hB hz1 hk1 hS => ?_)
  obtain ⟨⟨v1, g1⟩, fo1⟩ := u1
  obtain ⟨hP1, hK1, hD1⟩ := hB
  rw [ht1] at hP1
  obtain ⟨hPj, hDj⟩ := va_join (wr := wM cI cZ am y z) (w1 := wL cI cZ cJ o fo1 a v1 g1) hP hD [0, 1, 2, 3, 4, 5, 6, 7, 8, 9, 10, 11, 12, 13, 14, 15, 16, 17, 18, 19, 20] [21, 22, 23, 24, 25, 26, 27, 28, 29, 30, 31, 32, 33, 34, 35, 36, 37] rfl rfl (by decide) (by decide) hk1 hFc hP1 hD1
  have hP := hPj.sub (ws' := wW cI cZ cJ o fo1 a v1 g1 am y z) [17, 18, 19, 20, 21, 22, 23, 24, 25, 26, 27, 28, 29, 30, 31, 32, 33, 34, 35, 36, 37, 0, 1, 2, 3, 4, 5, 6, 7, 8, 9, 10, 11, 12, 13, 14, 15, 16] rfl
  have hD := hDj.sub (ws' := wW cI cZ cJ o fo1 a v1 g1 am y z) [17, 18, 19, 20, 21, 22, 23, 24, 25, 26, 27, 28, 29, 30, 31, 32, 33, 34, 35, 36, 37, 0, 1, 2, 3, 4, 5, 6, 7, 8, 9, 10, 11, 12, 13, 14, 15, 16] (by decide) rfl
  refine W.widen (k := cells + 7) (n := slots + 42) (by omega) (by omega) ?_
  refine lv_istore (lv' := [(5, .int r1), (0, .ref b), (1, .ref (a 0)), (2, .ref (am 0)), (3, .ref o), (4, .int (nI i))]) hx hb dL_law_170 hl (by decide) rfl (fun ls hl => ?_)
  refine lv_aload_n hx hb dL_law_172 rfl (lv_at hl 3 rfl) ?_
  refine lv_aload_n hx hb dL_law_173 rfl (lv_at hl 1 rfl) ?_
  refine lv_iload hx hb dL_law_174 (lv_at hl 5 rfl) ?_
  refine lv_iconst (v := 1) hx hb dL_law_176 (by decide) ?_
  refine lv_iadd hx hb dL_law_177 ?_
  refine lw_sld hx hb hX hbl hS (k := 1) rfl (by omega) hL dL_law_178 ?_
  refine lv_aload_n hx hb dL_law_179 rfl (lv_at hl 1 rfl) ?_
  refine lv_iload hx hb dL_law_180 (lv_at hl 5 rfl) ?_
  refine lv_iconst (v := 2) hx hb dL_law_182 (by decide) ?_
  refine lv_iadd hx hb dL_law_183 ?_
  refine lw_sld hx hb hX hbl hS (k := 2) rfl (by omega) hL dL_law_184 ?_
  refine lv_aload_n hx hb dL_law_185 rfl (lv_at hl 1 rfl) ?_
  refine lv_iload hx hb dL_law_186 (lv_at hl 5 rfl) ?_
  refine lv_iconst (v := 3) hx hb dL_law_188 (by decide) ?_
  refine lv_iadd hx hb dL_law_189 ?_
  refine lw_sld hx hb hX hbl hS (k := 3) rfl (by omega) hL dL_law_190 ?_
  refine lv_aload_n hx hb dL_law_191 rfl (lv_at hl 1 rfl) ?_
  refine lv_iload hx hb dL_law_192 (lv_at hl 5 rfl) ?_
  refine lv_iconst (v := 4) hx hb dL_law_194 (by decide) ?_
  refine lv_iadd hx hb dL_law_195 ?_
  refine lw_sld hx hb hX hbl hS (k := 4) rfl (by omega) hL dL_law_196 ?_
  refine lv_aload_n hx hb dL_law_197 rfl (lv_at hl 1 rfl) ?_
  refine lv_iload hx hb dL_law_198 (lv_at hl 5 rfl) ?_
  refine lv_iconst (v := 5) hx hb dL_law_200 (by decide) ?_
  refine lv_iadd hx hb dL_law_201 ?_
  refine lw_sld hx hb hX hbl hS (k := 5) rfl (by omega) hL dL_law_202 ?_
  refine lv_aload_n hx hb dL_law_203 rfl (lv_at hl 1 rfl) ?_
  refine lv_iload hx hb dL_law_204 (lv_at hl 5 rfl) ?_
  refine lv_bipush (v := 6) hx hb dL_law_206 (by decide) ?_
  refine lv_iadd hx hb dL_law_208 ?_
  refine lw_sld hx hb hX hbl hS (k := 6) rfl (by omega) hL dL_law_209 ?_
  have hPm := hP.sub (ws' := wM cI cZ am y z) [21, 22, 23, 24, 25, 26, 27, 28, 29, 30, 31, 32, 33, 34, 35, 36, 37] rfl
  have hDm := hD.sub (ws' := wM cI cZ am y z) [21, 22, 23, 24, 25, 26, 27, 28, 29, 30, 31, 32, 33, 34, 35, 36, 37] (by decide) rfl
  have hFm := va_free (wc := wM cI cZ am y z) hD hS (fun _ h => h) [21, 22, 23, 24, 25, 26, 27, 28, 29, 30, 31, 32, 33, 34, 35, 36, 37] rfl
  refine va_calli (va_runV (As := [.int (xs (i + 1)), .int (xs (i + 2)), .int (xs (i + 3)), .int (xs (i + 4)), .int (xs (i + 5)), .int (xs (i + 6))]) (rest := []) ⟨hx, hb, hml, hown, hts⟩ (m_row l dC dI cI cZ cJ am y z H1.size n hy hn2 (xs (i + 1)) (xs (i + 2)) (xs (i + 3)) (xs (i + 4)) (xs (i + 5)) (xs (i + 6))) (cwV 6 hts (gd_V ml_L_X5_row im_X5_row se_X5_row in_X5 kX5_row) rfl rfl rfl (by decide +kernel) ⟨Nat.le_of_ble_eq_true rfl, Nat.le_of_ble_eq_true rfl⟩) ⟨fun _ U g mk q => by obtain ⟨q0, q1, qP, qK, qD⟩ := q; exact ⟨q0, q1, qP, va_K.moved (u := U) (U := U.calling g mk _) (Vm.Alike.refl U.vm) qK, qD⟩, va_recv hK hPm (ci := 5) (q0 := 0) rfl rfl, fun U hU hW => ⟨rfl, by rw [hU], by rw [hU]; exact hPm, va_K.moved hW.alike hK, hDm.weaken (fun _ _ _ _ => trivial)⟩⟩ rfl rfl hl.1 rfl (lv_room (Nat.le_of_ble_eq_true rfl)) dL_law_210 ⟨by show _ ≤ 601024; omega, by show _ ≤ 7293034; omega⟩) hS (fun q _ h => hFm q h) hFm (fun b2 u2 t2 H2 locs2 ht2 hvm2 hm hB2 hz2 hk2 hS => ?_)
  obtain ⟨y1, z1⟩ := u2
  obtain ⟨hP2, hK2, hD2⟩ := hB2
  rw [ht2] at hP2
  obtain ⟨hPj, hDj⟩ := va_join (wr := wL cI cZ cJ o fo1 a v1 g1) (w1 := wM cI cZ am y1 z1) hP hD [21, 22, 23, 24, 25, 26, 27, 28, 29, 30, 31, 32, 33, 34, 35, 36, 37] [0, 1, 2, 3, 4, 5, 6, 7, 8, 9, 10, 11, 12, 13, 14, 15, 16, 17, 18, 19, 20] rfl rfl (by decide) (by decide) hk2 hFm hP2 hD2
  have hP : va_P (dC, dI) clA (wW cI cZ cJ o fo1 a v1 g1 am y1 z1) H2 := hPj
  have hD : va_D (fun q : Nat => s.heap.size ≤ q) (wW cI cZ cJ o fo1 a v1 g1 am y1 z1) := hDj
  refine lv_istore (lv' := [(6, .int b2), (5, .int r1), (0, .ref b), (1, .ref (a 0)), (2, .ref (am 0)), (3, .ref o), (4, .int (nI i))]) hx hb dL_law_213 hl (by decide) rfl (fun ls hl => ?_)
  have st := st_row hRl hw hm
  have e1 : y1 0 = r1 := st.1
  have e2 : r1 = 0 → fo1 0 = b2.toInt64 := st.2.1
  have e3 : Rel v1 g1 y1 z1 := st.2.2
  refine lv_aload_n hx hb dL_law_215 rfl (lv_at hl 4 rfl) ?_
  have hPt := hP.sub (ws' := wM cI cZ am y1 z1) [21, 22, 23, 24, 25, 26, 27, 28, 29, 30, 31, 32, 33, 34, 35, 36, 37] rfl
  refine vp_callSi (W.runV (As := []) (rest := []) ⟨hx, hb, hml, hown, hts⟩ (m_thrown l dC dI cI cZ cJ am y1 z1) (cwV 0 hts (gd_V ml_L_X5_thrown im_X5_thrown se_X5_thrown in_X5 kX5_thrown) rfl rfl rfl (by decide +kernel) ⟨Nat.le_of_ble_eq_true rfl, Nat.le_of_ble_eq_true rfl⟩) ⟨fun _ U g mk q => by obtain ⟨q0, qP, qK⟩ := q; exact ⟨q0, qP, va_K.moved (u := U) (U := U.calling g mk _) (Vm.Alike.refl U.vm) qK⟩, va_recv hK hPt (ci := 5) (q0 := 0) rfl rfl, fun U hU hW => ⟨rfl, by rw [hU]; exact hPt, va_K.moved hW.alike hK⟩⟩ rfl rfl hl.1 rfl (lv_room (Nat.le_of_ble_eq_true rfl)) dL_law_216 ⟨by show _ ≤ 601024; omega, by show _ ≤ 7293034; omega⟩) (fun r9 hr9 => ?_)
  refine lv_iload hx hb dL_law_219 (lv_at hl 1 rfl) ?_
  refine lv_icmp_eq (tgt := 226) hx hb dL_law_221 (by decide) (fun c9 => ?_) (fun c9 => absurd (hr9.trans e1) c9)
  refine lv_iload hx hb dL_law_226 (lv_at hl 1 rfl) ?_
  refine lv_if_ne (tgt := 243) hx hb dL_law_228 (by decide) (fun c8 => ?_) (fun c8 => ?_)
  · refine lv_goto (tgt := 1176) hx hb dL_law_243 (by decide) ?_
    exact kk v1 g1 y1 z1 fo1 _ _ _ e3 hP hD hS (lv_sub hl [2, 3, 4, 5, 6] rfl)
  · refine lv_aload_n hx hb dL_law_231 rfl (lv_at hl 5 rfl) ?_
    refine lv_iconst (v := 0) hx hb dL_law_232 (by decide) ?_
    refine va_lald hx hb hK hP 0 2 rfl rfl (vp_in_nI (n := 0) (N := 1) (by decide) (by decide)) dL_law_233 ?_
    refine lv_iload hx hb dL_law_234 (lv_at hl 0 rfl) ?_
    refine lv_i2l (v := b2.toInt64) hx hb dL_law_236 rfl ?_
    refine W.lcmp hx hb dL_law_237 ?_
    refine lv_if_eq (tgt := 243) hx hb dL_law_238 (by decide) (fun c7 => ?_) (fun c7 => absurd (lw_eq (show fo1 (0 : Int32).toNatClampNeg = b2.toInt64 from e2 c8)) c7)
    refine lv_goto (tgt := 1176) hx hb dL_law_243 (by decide) ?_
    exact kk v1 g1 y1 z1 fo1 _ _ _ e3 hP hD hS (lv_sub hl [2, 3, 4, 5, 6] rfl)
set_option maxHeartbeats 4000000 in
set_option maxRecDepth 100000 in
theorem law_values {p : Program} {l : Launch} {e : Env} {s : State} {m : MethodId} {below : List Frame} {meth : Method} {c : Code} {Q : State → Prop} {c0 : Cond} {b L : Nat} {xs : Nat → Int32} {dC : Nat → ClassId} {dI : Nat → Nat → Nat} {cI cZ cJ : ClassId} {a am : Nat → Nat} {o : Nat} {tx : Nat → Nat}
    (hl9 : l.stackTraces = false) (hx : p.tables.exec = Jvm.exec) (hb : c.code = code) (hml : c.maxLocals = 7) (hown : s.vm.findClass RL = some m.cls) (hts : ∀ w ∈ c0 :: allW, w.before #[Value.ref b] s = true) (hX : va_X b L xs s s.heap) (hbl : b < s.heap.size) (hK : va_K (dC, dI) clA (tyA cI cZ cJ) s) (hZ : ZX tx (fun q : Nat => s.heap.size ≤ q) s s.heap) (hC : ZC s)
    {i cells slots : Nat} (hi : i + 7 ≤ L) (hL : L ≤ 3584) (hce : cells + 7 ≤ 601024) (hsl : slots + 42 ≤ 7293034) {v : Nat → Int32} {g : Nat → Nat → Int32} {y : Nat → Int32} {z : Nat → Nat → Int32} {fo : Nat → Int64} {H : Heap} {locs : List Loc} {ls : Array Slot} (hR : Rel v g y z) (hP : va_P (dC, dI) clA (wW cI cZ cJ o fo a v g am y z) H) (hD : va_D (fun q : Nat => s.heap.size ≤ q) (wW cI cZ cJ o fo a v g am y z)) (hS : va_S (fun q : Nat => s.heap.size ≤ q) s.heap H locs) (hl : lv_has ls 7 [(0, .ref b), (1, .ref (a 0)), (2, .ref (am 0)), (3, .ref o), (4, .int (nI i))])
    (kk : ∀ (v1 : Nat → Int32) (g1 : Nat → Nat → Int32) (y1 : Nat → Int32) (z1 : Nat → Nat → Int32) (fo1 : Nat → Int64) (H1 : Heap) (locs1 : List Loc) (ls1 : Array Slot), Rel v1 g1 y1 z1 → va_P (dC, dI) clA (wW cI cZ cJ o fo1 a v1 g1 am y1 z1) H1 → va_D (fun q : Nat => s.heap.size ≤ q) (wW cI cZ cJ o fo1 a v1 g1 am y1 z1) → va_S (fun q : Nat => s.heap.size ≤ q) s.heap H1 locs1 → lv_has ls1 7 [(0, .ref b), (1, .ref (a 0)), (2, .ref (am 0)), (3, .ref o), (4, .int (nI i))] → W p l e room_1 s m #[Value.ref b] below meth c H1 locs1 (cells + 7) (slots + 42) Q (F0 m 1176 ls1 [])) :
    W p l e room_1 s m #[Value.ref b] below meth c H locs cells slots Q (F0 m 246 ls []) := by
  obtain ⟨n, nd, f0, t0, hRl⟩ := hR
  have hn : v 5 = nI n := hRl.1.2.1
  have hn2 : n ≤ 200 := hRl.1.1
  have hy : y 1 = nI n := hRl.1.2.2
  have hnd : v 4 = nI nd := hRl.2.1.2.1
  have hnd2 : nd ≤ 6 := hRl.2.1.1
  have hyd : y 2 = nI nd := hRl.2.1.2.2
  refine lv_aload_n hx hb dL_law_246 rfl (lv_at hl 1 rfl) ?_
  refine lv_aload_n hx hb dL_law_247 rfl (lv_at hl 0 rfl) ?_
  refine lv_iload hx hb dL_law_248 (lv_at hl 4 rfl) ?_
  refine lv_iconst (v := 1) hx hb dL_law_250 (by decide) ?_
  refine lv_iadd hx hb dL_law_251 ?_
  refine lw_sld hx hb hX hbl hS (k := 1) rfl (by omega) hL dL_law_252 ?_
  refine lv_aload_n hx hb dL_law_253 rfl (lv_at hl 0 rfl) ?_
  refine lv_iload hx hb dL_law_254 (lv_at hl 4 rfl) ?_
  refine lv_iconst (v := 2) hx hb dL_law_256 (by decide) ?_
  refine lv_iadd hx hb dL_law_257 ?_
  refine lw_sld hx hb hX hbl hS (k := 2) rfl (by omega) hL dL_law_258 ?_
  refine lv_aload_n hx hb dL_law_259 rfl (lv_at hl 0 rfl) ?_
  refine lv_iload hx hb dL_law_260 (lv_at hl 4 rfl) ?_
  refine lv_iconst (v := 3) hx hb dL_law_262 (by decide) ?_
  refine lv_iadd hx hb dL_law_263 ?_
  refine lw_sld hx hb hX hbl hS (k := 3) rfl (by omega) hL dL_law_264 ?_
  have hPc := hP.sub (ws' := wA cI cZ a v g) [1, 2, 3, 4, 5, 6, 7, 8, 9, 10, 11, 12, 13, 14, 15, 16, 17, 18, 19, 20] rfl
  have hDc := hD.sub (ws' := wA cI cZ a v g) [1, 2, 3, 4, 5, 6, 7, 8, 9, 10, 11, 12, 13, 14, 15, 16, 17, 18, 19, 20] (by decide) rfl
  have hFc := va_free (wc := wA cI cZ a v g) hD hS (fun _ h => h) [1, 2, 3, 4, 5, 6, 7, 8, 9, 10, 11, 12, 13, 14, 15, 16, 17, 18, 19, 20] rfl
  refine va_calli (vx_runSW (As := [.ref (a 0), .int (xs (i + 1)), .int (xs (i + 2)), .int (xs (i + 3))]) (rest := []) ⟨hx, hb, hml, hown, hts⟩ (w_values l hl9 dC dI cI cZ cJ a tx v g H.size n hn hn2 (xs (i + 1)) (xs (i + 2)) (xs (i + 3))) (vx_cwSW 4 hts (gd_SW ml_L_L_values sm_L_values in_L kL_values) rfl rfl rfl (by decide +kernel) ⟨Nat.le_of_ble_eq_true rfl, Nat.le_of_ble_eq_true rfl⟩) ⟨fun _ U g mk q => by obtain ⟨q0, q1, qP, qK, qD, qZ, qC⟩ := q; exact ⟨q0, q1, qP, va_K.moved (u := U) (U := U.calling g mk _) (Vm.Alike.refl U.vm) qK, qD, ZX.calling qZ, ZC.moved (u := U) (U := U.calling g mk _) (Vm.Alike.refl U.vm) qC⟩, fun U hU hW => ⟨rfl, by rw [hU], by rw [hU]; exact hPc, va_K.moved hW.alike hK, hDc.weaken (fun _ _ _ _ => trivial), ZX.call hZ hS hFc hW hU, ZC.moved hW.alike hC⟩⟩ rfl rfl hl.1 rfl (lv_room (Nat.le_of_ble_eq_true rfl)) dL_law_265 ⟨by show _ ≤ 601024; omega, by show _ ≤ 7293034; omega⟩) hS (fun q _ h => hFc q h) hFc (fun r1 u1 t1 H1 locs1 ht1 hvm1 hw hB hz1 hk1 hS => ?_)
  obtain ⟨v1, g1⟩ := u1
  obtain ⟨hP1, hK1, hD1⟩ := hB
  rw [ht1] at hP1
  obtain ⟨hPj, hDj⟩ := va_join (wr := ((o, .inl (cJ, 1, .inr (.inl fo))) :: wM cI cZ am y z)) (w1 := wA cI cZ a v1 g1) hP hD [1, 2, 3, 4, 5, 6, 7, 8, 9, 10, 11, 12, 13, 14, 15, 16, 17, 18, 19, 20] [0, 21, 22, 23, 24, 25, 26, 27, 28, 29, 30, 31, 32, 33, 34, 35, 36, 37] rfl rfl (by decide) (by decide) hk1 hFc hP1 hD1
  have hP := hPj.sub (ws' := wW cI cZ cJ o fo a v1 g1 am y z) [0, 18, 19, 20, 21, 22, 23, 24, 25, 26, 27, 28, 29, 30, 31, 32, 33, 34, 35, 36, 37, 1, 2, 3, 4, 5, 6, 7, 8, 9, 10, 11, 12, 13, 14, 15, 16, 17] rfl
  have hD := hDj.sub (ws' := wW cI cZ cJ o fo a v1 g1 am y z) [0, 18, 19, 20, 21, 22, 23, 24, 25, 26, 27, 28, 29, 30, 31, 32, 33, 34, 35, 36, 37, 1, 2, 3, 4, 5, 6, 7, 8, 9, 10, 11, 12, 13, 14, 15, 16, 17] (by decide) rfl
  refine W.widen (k := cells + 7) (n := slots + 42) (by omega) (by omega) ?_
  refine lv_istore (lv' := [(5, .int r1), (0, .ref b), (1, .ref (a 0)), (2, .ref (am 0)), (3, .ref o), (4, .int (nI i))]) hx hb dL_law_268 hl (by decide) rfl (fun ls hl => ?_)
  refine lv_aload_n hx hb dL_law_270 rfl (lv_at hl 3 rfl) ?_
  refine lv_aload_n hx hb dL_law_271 rfl (lv_at hl 1 rfl) ?_
  refine lv_iload hx hb dL_law_272 (lv_at hl 5 rfl) ?_
  refine lv_iconst (v := 1) hx hb dL_law_274 (by decide) ?_
  refine lv_iadd hx hb dL_law_275 ?_
  refine lw_sld hx hb hX hbl hS (k := 1) rfl (by omega) hL dL_law_276 ?_
  refine lv_aload_n hx hb dL_law_277 rfl (lv_at hl 1 rfl) ?_
  refine lv_iload hx hb dL_law_278 (lv_at hl 5 rfl) ?_
  refine lv_iconst (v := 2) hx hb dL_law_280 (by decide) ?_
  refine lv_iadd hx hb dL_law_281 ?_
  refine lw_sld hx hb hX hbl hS (k := 2) rfl (by omega) hL dL_law_282 ?_
  refine lv_aload_n hx hb dL_law_283 rfl (lv_at hl 1 rfl) ?_
  refine lv_iload hx hb dL_law_284 (lv_at hl 5 rfl) ?_
  refine lv_iconst (v := 3) hx hb dL_law_286 (by decide) ?_
  refine lv_iadd hx hb dL_law_287 ?_
  refine lw_sld hx hb hX hbl hS (k := 3) rfl (by omega) hL dL_law_288 ?_
  have hPm := hP.sub (ws' := wM cI cZ am y z) [21, 22, 23, 24, 25, 26, 27, 28, 29, 30, 31, 32, 33, 34, 35, 36, 37] rfl
  have hDm := hD.sub (ws' := wM cI cZ am y z) [21, 22, 23, 24, 25, 26, 27, 28, 29, 30, 31, 32, 33, 34, 35, 36, 37] (by decide) rfl
  have hFm := va_free (wc := wM cI cZ am y z) hD hS (fun _ h => h) [21, 22, 23, 24, 25, 26, 27, 28, 29, 30, 31, 32, 33, 34, 35, 36, 37] rfl
  refine va_callv (va_runV (As := [.int (xs (i + 1)), .int (xs (i + 2)), .int (xs (i + 3))]) (rest := []) ⟨hx, hb, hml, hown, hts⟩ (m_values l dC dI cI cZ cJ am y z H1.size n hy hn2 (xs (i + 1)) (xs (i + 2)) (xs (i + 3))) (cwV 3 hts (gd_V ml_L_X5_values im_X5_values se_X5_values in_X5 kX5_values) rfl rfl rfl (by decide +kernel) ⟨Nat.le_of_ble_eq_true rfl, Nat.le_of_ble_eq_true rfl⟩) ⟨fun _ U g mk q => by obtain ⟨q0, q1, qP, qK, qD⟩ := q; exact ⟨q0, q1, qP, va_K.moved (u := U) (U := U.calling g mk _) (Vm.Alike.refl U.vm) qK, qD⟩, va_recv hK hPm (ci := 5) (q0 := 0) rfl rfl, fun U hU hW => ⟨rfl, by rw [hU], by rw [hU]; exact hPm, va_K.moved hW.alike hK, hDm.weaken (fun _ _ _ _ => trivial)⟩⟩ rfl rfl hl.1 rfl (lv_room (Nat.le_of_ble_eq_true rfl)) dL_law_289 ⟨by show _ ≤ 601024; omega, by show _ ≤ 7293034; omega⟩) hS (fun q _ h => hFm q h) hFm (fun u2 t2 H2 locs2 ht2 hvm2 hm hB2 hz2 hk2 hS => ?_)
  obtain ⟨y1, z1⟩ := u2
  obtain ⟨hP2, hK2, hD2⟩ := hB2
  rw [ht2] at hP2
  obtain ⟨hPj, hDj⟩ := va_join (wr := wL cI cZ cJ o fo a v1 g1) (w1 := wM cI cZ am y1 z1) hP hD [21, 22, 23, 24, 25, 26, 27, 28, 29, 30, 31, 32, 33, 34, 35, 36, 37] [0, 1, 2, 3, 4, 5, 6, 7, 8, 9, 10, 11, 12, 13, 14, 15, 16, 17, 18, 19, 20] rfl rfl (by decide) (by decide) hk2 hFm hP2 hD2
  have hP : va_P (dC, dI) clA (wW cI cZ cJ o fo a v1 g1 am y1 z1) H2 := hPj
  have hD : va_D (fun q : Nat => s.heap.size ≤ q) (wW cI cZ cJ o fo a v1 g1 am y1 z1) := hDj
  have st := st_values hRl hw hm
  have e1 : y1 0 = r1 := st.1
  have e3 : Rel v1 g1 y1 z1 := st.2
  refine lv_aload_n hx hb dL_law_292 rfl (lv_at hl 3 rfl) ?_
  have hPt := hP.sub (ws' := wM cI cZ am y1 z1) [21, 22, 23, 24, 25, 26, 27, 28, 29, 30, 31, 32, 33, 34, 35, 36, 37] rfl
  refine vp_callSi (W.runV (As := []) (rest := []) ⟨hx, hb, hml, hown, hts⟩ (m_thrown l dC dI cI cZ cJ am y1 z1) (cwV 0 hts (gd_V ml_L_X5_thrown im_X5_thrown se_X5_thrown in_X5 kX5_thrown) rfl rfl rfl (by decide +kernel) ⟨Nat.le_of_ble_eq_true rfl, Nat.le_of_ble_eq_true rfl⟩) ⟨fun _ U g mk q => by obtain ⟨q0, qP, qK⟩ := q; exact ⟨q0, qP, va_K.moved (u := U) (U := U.calling g mk _) (Vm.Alike.refl U.vm) qK⟩, va_recv hK hPt (ci := 5) (q0 := 0) rfl rfl, fun U hU hW => ⟨rfl, by rw [hU]; exact hPt, va_K.moved hW.alike hK⟩⟩ rfl rfl hl.1 rfl (lv_room (Nat.le_of_ble_eq_true rfl)) dL_law_293 ⟨by show _ ≤ 601024; omega, by show _ ≤ 7293034; omega⟩) (fun r9 hr9 => ?_)
  refine lv_iload hx hb dL_law_296 (lv_at hl 0 rfl) ?_
  refine lv_icmp_eq (tgt := 303) hx hb dL_law_298 (by decide) (fun c9 => ?_) (fun c9 => absurd (hr9.trans e1) c9)
  refine lv_goto (tgt := 1176) hx hb dL_law_303 (by decide) ?_
  exact kk v1 g1 y1 z1 fo _ _ _ e3 hP hD hS (lv_sub hl [1, 2, 3, 4, 5] rfl)
set_option maxHeartbeats 4000000 in
set_option maxRecDepth 100000 in
theorem law_define {p : Program} {l : Launch} {e : Env} {s : State} {m : MethodId} {below : List Frame} {meth : Method} {c : Code} {Q : State → Prop} {c0 : Cond} {b L : Nat} {xs : Nat → Int32} {dC : Nat → ClassId} {dI : Nat → Nat → Nat} {cI cZ cJ : ClassId} {a am : Nat → Nat} {o : Nat} {tx : Nat → Nat}
    (hl9 : l.stackTraces = false) (hx : p.tables.exec = Jvm.exec) (hb : c.code = code) (hml : c.maxLocals = 7) (hown : s.vm.findClass RL = some m.cls) (hts : ∀ w ∈ c0 :: allW, w.before #[Value.ref b] s = true) (hX : va_X b L xs s s.heap) (hbl : b < s.heap.size) (hK : va_K (dC, dI) clA (tyA cI cZ cJ) s) (hZ : ZX tx (fun q : Nat => s.heap.size ≤ q) s s.heap) (hC : ZC s)
    {i cells slots : Nat} (hi : i + 7 ≤ L) (hL : L ≤ 3584) (hce : cells + 7 ≤ 601024) (hsl : slots + 42 ≤ 7293034) {v : Nat → Int32} {g : Nat → Nat → Int32} {y : Nat → Int32} {z : Nat → Nat → Int32} {fo : Nat → Int64} {H : Heap} {locs : List Loc} {ls : Array Slot} (hR : Rel v g y z) (hP : va_P (dC, dI) clA (wW cI cZ cJ o fo a v g am y z) H) (hD : va_D (fun q : Nat => s.heap.size ≤ q) (wW cI cZ cJ o fo a v g am y z)) (hS : va_S (fun q : Nat => s.heap.size ≤ q) s.heap H locs) (hl : lv_has ls 7 [(0, .ref b), (1, .ref (a 0)), (2, .ref (am 0)), (3, .ref o), (4, .int (nI i))])
    (kk : ∀ (v1 : Nat → Int32) (g1 : Nat → Nat → Int32) (y1 : Nat → Int32) (z1 : Nat → Nat → Int32) (fo1 : Nat → Int64) (H1 : Heap) (locs1 : List Loc) (ls1 : Array Slot), Rel v1 g1 y1 z1 → va_P (dC, dI) clA (wW cI cZ cJ o fo1 a v1 g1 am y1 z1) H1 → va_D (fun q : Nat => s.heap.size ≤ q) (wW cI cZ cJ o fo1 a v1 g1 am y1 z1) → va_S (fun q : Nat => s.heap.size ≤ q) s.heap H1 locs1 → lv_has ls1 7 [(0, .ref b), (1, .ref (a 0)), (2, .ref (am 0)), (3, .ref o), (4, .int (nI i))] → W p l e room_1 s m #[Value.ref b] below meth c H1 locs1 (cells + 7) (slots + 42) Q (F0 m 1176 ls1 [])) :
    W p l e room_1 s m #[Value.ref b] below meth c H locs cells slots Q (F0 m 306 ls []) := by
  obtain ⟨n, nd, f0, t0, hRl⟩ := hR
  have hn : v 5 = nI n := hRl.1.2.1
  have hn2 : n ≤ 200 := hRl.1.1
  have hy : y 1 = nI n := hRl.1.2.2
  have hnd : v 4 = nI nd := hRl.2.1.2.1
  have hnd2 : nd ≤ 6 := hRl.2.1.1
  have hyd : y 2 = nI nd := hRl.2.1.2.2
  refine lv_aload_n hx hb dL_law_306 rfl (lv_at hl 1 rfl) ?_
  refine lv_aload_n hx hb dL_law_307 rfl (lv_at hl 0 rfl) ?_
  refine lv_iload hx hb dL_law_308 (lv_at hl 4 rfl) ?_
  refine lv_iconst (v := 1) hx hb dL_law_310 (by decide) ?_
  refine lv_iadd hx hb dL_law_311 ?_
  refine lw_sld hx hb hX hbl hS (k := 1) rfl (by omega) hL dL_law_312 ?_
  refine lv_aload_n hx hb dL_law_313 rfl (lv_at hl 0 rfl) ?_
  refine lv_iload hx hb dL_law_314 (lv_at hl 4 rfl) ?_
  refine lv_iconst (v := 2) hx hb dL_law_316 (by decide) ?_
  refine lv_iadd hx hb dL_law_317 ?_
  refine lw_sld hx hb hX hbl hS (k := 2) rfl (by omega) hL dL_law_318 ?_
  refine lv_aload_n hx hb dL_law_319 rfl (lv_at hl 3 rfl) ?_
  have hPc := hP.sub (ws' := wL cI cZ cJ o fo a v g) [0, 1, 2, 3, 4, 5, 6, 7, 8, 9, 10, 11, 12, 13, 14, 15, 16, 17, 18, 19, 20] rfl
  have hDc := hD.sub (ws' := wL cI cZ cJ o fo a v g) [0, 1, 2, 3, 4, 5, 6, 7, 8, 9, 10, 11, 12, 13, 14, 15, 16, 17, 18, 19, 20] (by decide) rfl
  have hFc := va_free (wc := wL cI cZ cJ o fo a v g) hD hS (fun _ h => h) [0, 1, 2, 3, 4, 5, 6, 7, 8, 9, 10, 11, 12, 13, 14, 15, 16, 17, 18, 19, 20] rfl
  refine va_calli (vx_runSW (As := [.ref (a 0), .int (xs (i + 1)), .int (xs (i + 2)), .ref o]) (rest := []) ⟨hx, hb, hml, hown, hts⟩ (w_define l hl9 dC dI cI cZ cJ a tx v g o fo H.size nd hnd hnd2 (xs (i + 1)) (xs (i + 2))) (vx_cwSW 4 hts (gd_SW ml_L_L_define sm_L_define in_L kL_define) rfl rfl rfl (by decide +kernel) ⟨Nat.le_of_ble_eq_true rfl, Nat.le_of_ble_eq_true rfl⟩) ⟨fun _ U g mk q => by obtain ⟨q0, q1, qP, qK, qD, qZ, qC⟩ := q; exact ⟨q0, q1, qP, va_K.moved (u := U) (U := U.calling g mk _) (Vm.Alike.refl U.vm) qK, qD, ZX.calling qZ, ZC.moved (u := U) (U := U.calling g mk _) (Vm.Alike.refl U.vm) qC⟩, fun U hU hW => ⟨rfl, by rw [hU], by rw [hU]; exact hPc, va_K.moved hW.alike hK, hDc.weaken (fun _ _ _ _ => trivial), ZX.call hZ hS hFc hW hU, ZC.moved hW.alike hC⟩⟩ rfl rfl hl.1 rfl (lv_room (Nat.le_of_ble_eq_true rfl)) dL_law_320 ⟨by show _ ≤ 601024; omega, by show _ ≤ 7293034; omega⟩) hS (fun q _ h => hFc q h) hFc (fun r1 u1 t1 H1 locs1 ht1 hvm1 hw hB hz1 hk1 hS => ?_)
  obtain ⟨⟨v1, g1⟩, fo1⟩ := u1
  obtain ⟨hP1, hK1, hD1⟩ := hB
  rw [ht1] at hP1
  obtain ⟨hPj, hDj⟩ := va_join (wr := wM cI cZ am y z) (w1 := wL cI cZ cJ o fo1 a v1 g1) hP hD [0, 1, 2, 3, 4, 5, 6, 7, 8, 9, 10, 11, 12, 13, 14, 15, 16, 17, 18, 19, 20] [21, 22, 23, 24, 25, 26, 27, 28, 29, 30, 31, 32, 33, 34, 35, 36, 37] rfl rfl (by decide) (by decide) hk1 hFc hP1 hD1
  have hP := hPj.sub (ws' := wW cI cZ cJ o fo1 a v1 g1 am y z) [17, 18, 19, 20, 21, 22, 23, 24, 25, 26, 27, 28, 29, 30, 31, 32, 33, 34, 35, 36, 37, 0, 1, 2, 3, 4, 5, 6, 7, 8, 9, 10, 11, 12, 13, 14, 15, 16] rfl
  have hD := hDj.sub (ws' := wW cI cZ cJ o fo1 a v1 g1 am y z) [17, 18, 19, 20, 21, 22, 23, 24, 25, 26, 27, 28, 29, 30, 31, 32, 33, 34, 35, 36, 37, 0, 1, 2, 3, 4, 5, 6, 7, 8, 9, 10, 11, 12, 13, 14, 15, 16] (by decide) rfl
  refine W.widen (k := cells + 7) (n := slots + 42) (by omega) (by omega) ?_
  refine lv_istore (lv' := [(5, .int r1), (0, .ref b), (1, .ref (a 0)), (2, .ref (am 0)), (3, .ref o), (4, .int (nI i))]) hx hb dL_law_323 hl (by decide) rfl (fun ls hl => ?_)
  refine lv_aload_n hx hb dL_law_325 rfl (lv_at hl 3 rfl) ?_
  refine lv_aload_n hx hb dL_law_326 rfl (lv_at hl 1 rfl) ?_
  refine lv_iload hx hb dL_law_327 (lv_at hl 5 rfl) ?_
  refine lv_iconst (v := 1) hx hb dL_law_329 (by decide) ?_
  refine lv_iadd hx hb dL_law_330 ?_
  refine lw_sld hx hb hX hbl hS (k := 1) rfl (by omega) hL dL_law_331 ?_
  refine lv_aload_n hx hb dL_law_332 rfl (lv_at hl 1 rfl) ?_
  refine lv_iload hx hb dL_law_333 (lv_at hl 5 rfl) ?_
  refine lv_iconst (v := 2) hx hb dL_law_335 (by decide) ?_
  refine lv_iadd hx hb dL_law_336 ?_
  refine lw_sld hx hb hX hbl hS (k := 2) rfl (by omega) hL dL_law_337 ?_
  have hPm := hP.sub (ws' := wM cI cZ am y z) [21, 22, 23, 24, 25, 26, 27, 28, 29, 30, 31, 32, 33, 34, 35, 36, 37] rfl
  have hDm := hD.sub (ws' := wM cI cZ am y z) [21, 22, 23, 24, 25, 26, 27, 28, 29, 30, 31, 32, 33, 34, 35, 36, 37] (by decide) rfl
  have hFm := va_free (wc := wM cI cZ am y z) hD hS (fun _ h => h) [21, 22, 23, 24, 25, 26, 27, 28, 29, 30, 31, 32, 33, 34, 35, 36, 37] rfl
  refine va_calli (va_runV (As := [.int (xs (i + 1)), .int (xs (i + 2))]) (rest := []) ⟨hx, hb, hml, hown, hts⟩ (m_define l dC dI cI cZ cJ am y z H1.size nd hyd hnd2 (xs (i + 1)) (xs (i + 2))) (cwV 2 hts (gd_V ml_L_X5_define im_X5_define se_X5_define in_X5 kX5_define) rfl rfl rfl (by decide +kernel) ⟨Nat.le_of_ble_eq_true rfl, Nat.le_of_ble_eq_true rfl⟩) ⟨fun _ U g mk q => by obtain ⟨q0, q1, qP, qK, qD⟩ := q; exact ⟨q0, q1, qP, va_K.moved (u := U) (U := U.calling g mk _) (Vm.Alike.refl U.vm) qK, qD⟩, va_recv hK hPm (ci := 5) (q0 := 0) rfl rfl, fun U hU hW => ⟨rfl, by rw [hU], by rw [hU]; exact hPm, va_K.moved hW.alike hK, hDm.weaken (fun _ _ _ _ => trivial)⟩⟩ rfl rfl hl.1 rfl (lv_room (Nat.le_of_ble_eq_true rfl)) dL_law_338 ⟨by show _ ≤ 601024; omega, by show _ ≤ 7293034; omega⟩) hS (fun q _ h => hFm q h) hFm (fun b2 u2 t2 H2 locs2 ht2 hvm2 hm hB2 hz2 hk2 hS => ?_)
  obtain ⟨y1, z1⟩ := u2
  obtain ⟨hP2, hK2, hD2⟩ := hB2
  rw [ht2] at hP2
  obtain ⟨hPj, hDj⟩ := va_join (wr := wL cI cZ cJ o fo1 a v1 g1) (w1 := wM cI cZ am y1 z1) hP hD [21, 22, 23, 24, 25, 26, 27, 28, 29, 30, 31, 32, 33, 34, 35, 36, 37] [0, 1, 2, 3, 4, 5, 6, 7, 8, 9, 10, 11, 12, 13, 14, 15, 16, 17, 18, 19, 20] rfl rfl (by decide) (by decide) hk2 hFm hP2 hD2
  have hP : va_P (dC, dI) clA (wW cI cZ cJ o fo1 a v1 g1 am y1 z1) H2 := hPj
  have hD : va_D (fun q : Nat => s.heap.size ≤ q) (wW cI cZ cJ o fo1 a v1 g1 am y1 z1) := hDj
  refine lv_istore (lv' := [(6, .int b2), (5, .int r1), (0, .ref b), (1, .ref (a 0)), (2, .ref (am 0)), (3, .ref o), (4, .int (nI i))]) hx hb dL_law_341 hl (by decide) rfl (fun ls hl => ?_)
  have st := st_define hRl hw hm
  have e1 : y1 0 = r1 := st.1
  have e2 : r1 = 0 → fo1 0 = b2.toInt64 := st.2.1
  have e3 : Rel v1 g1 y1 z1 := st.2.2
  refine lv_aload_n hx hb dL_law_343 rfl (lv_at hl 4 rfl) ?_
  have hPt := hP.sub (ws' := wM cI cZ am y1 z1) [21, 22, 23, 24, 25, 26, 27, 28, 29, 30, 31, 32, 33, 34, 35, 36, 37] rfl
  refine vp_callSi (W.runV (As := []) (rest := []) ⟨hx, hb, hml, hown, hts⟩ (m_thrown l dC dI cI cZ cJ am y1 z1) (cwV 0 hts (gd_V ml_L_X5_thrown im_X5_thrown se_X5_thrown in_X5 kX5_thrown) rfl rfl rfl (by decide +kernel) ⟨Nat.le_of_ble_eq_true rfl, Nat.le_of_ble_eq_true rfl⟩) ⟨fun _ U g mk q => by obtain ⟨q0, qP, qK⟩ := q; exact ⟨q0, qP, va_K.moved (u := U) (U := U.calling g mk _) (Vm.Alike.refl U.vm) qK⟩, va_recv hK hPt (ci := 5) (q0 := 0) rfl rfl, fun U hU hW => ⟨rfl, by rw [hU]; exact hPt, va_K.moved hW.alike hK⟩⟩ rfl rfl hl.1 rfl (lv_room (Nat.le_of_ble_eq_true rfl)) dL_law_344 ⟨by show _ ≤ 601024; omega, by show _ ≤ 7293034; omega⟩) (fun r9 hr9 => ?_)
  refine lv_iload hx hb dL_law_347 (lv_at hl 1 rfl) ?_
  refine lv_icmp_eq (tgt := 354) hx hb dL_law_349 (by decide) (fun c9 => ?_) (fun c9 => absurd (hr9.trans e1) c9)
  refine lv_iload hx hb dL_law_354 (lv_at hl 1 rfl) ?_
  refine lv_if_ne (tgt := 371) hx hb dL_law_356 (by decide) (fun c8 => ?_) (fun c8 => ?_)
  · refine lv_goto (tgt := 1176) hx hb dL_law_371 (by decide) ?_
    exact kk v1 g1 y1 z1 fo1 _ _ _ e3 hP hD hS (lv_sub hl [2, 3, 4, 5, 6] rfl)
  · refine lv_aload_n hx hb dL_law_359 rfl (lv_at hl 5 rfl) ?_
    refine lv_iconst (v := 0) hx hb dL_law_360 (by decide) ?_
    refine va_lald hx hb hK hP 0 2 rfl rfl (vp_in_nI (n := 0) (N := 1) (by decide) (by decide)) dL_law_361 ?_
    refine lv_iload hx hb dL_law_362 (lv_at hl 0 rfl) ?_
    refine lv_i2l (v := b2.toInt64) hx hb dL_law_364 rfl ?_
    refine W.lcmp hx hb dL_law_365 ?_
    refine lv_if_eq (tgt := 371) hx hb dL_law_366 (by decide) (fun c7 => ?_) (fun c7 => absurd (lw_eq (show fo1 (0 : Int32).toNatClampNeg = b2.toInt64 from e2 c8)) c7)
    refine lv_goto (tgt := 1176) hx hb dL_law_371 (by decide) ?_
    exact kk v1 g1 y1 z1 fo1 _ _ _ e3 hP hD hS (lv_sub hl [2, 3, 4, 5, 6] rfl)
set_option maxHeartbeats 4000000 in
set_option maxRecDepth 100000 in
theorem law_ask {p : Program} {l : Launch} {e : Env} {s : State} {m : MethodId} {below : List Frame} {meth : Method} {c : Code} {Q : State → Prop} {c0 : Cond} {b L : Nat} {xs : Nat → Int32} {dC : Nat → ClassId} {dI : Nat → Nat → Nat} {cI cZ cJ : ClassId} {a am : Nat → Nat} {o : Nat} {tx : Nat → Nat}
    (hl9 : l.stackTraces = false) (hx : p.tables.exec = Jvm.exec) (hb : c.code = code) (hml : c.maxLocals = 7) (hown : s.vm.findClass RL = some m.cls) (hts : ∀ w ∈ c0 :: allW, w.before #[Value.ref b] s = true) (hX : va_X b L xs s s.heap) (hbl : b < s.heap.size) (hK : va_K (dC, dI) clA (tyA cI cZ cJ) s) (hZ : ZX tx (fun q : Nat => s.heap.size ≤ q) s s.heap) (hC : ZC s)
    {i cells slots : Nat} (hi : i + 7 ≤ L) (hL : L ≤ 3584) (hce : cells + 7 ≤ 601024) (hsl : slots + 42 ≤ 7293034) {v : Nat → Int32} {g : Nat → Nat → Int32} {y : Nat → Int32} {z : Nat → Nat → Int32} {fo : Nat → Int64} {H : Heap} {locs : List Loc} {ls : Array Slot} (hR : Rel v g y z) (hP : va_P (dC, dI) clA (wW cI cZ cJ o fo a v g am y z) H) (hD : va_D (fun q : Nat => s.heap.size ≤ q) (wW cI cZ cJ o fo a v g am y z)) (hS : va_S (fun q : Nat => s.heap.size ≤ q) s.heap H locs) (hl : lv_has ls 7 [(0, .ref b), (1, .ref (a 0)), (2, .ref (am 0)), (3, .ref o), (4, .int (nI i))])
    (kk : ∀ (v1 : Nat → Int32) (g1 : Nat → Nat → Int32) (y1 : Nat → Int32) (z1 : Nat → Nat → Int32) (fo1 : Nat → Int64) (H1 : Heap) (locs1 : List Loc) (ls1 : Array Slot), Rel v1 g1 y1 z1 → va_P (dC, dI) clA (wW cI cZ cJ o fo1 a v1 g1 am y1 z1) H1 → va_D (fun q : Nat => s.heap.size ≤ q) (wW cI cZ cJ o fo1 a v1 g1 am y1 z1) → va_S (fun q : Nat => s.heap.size ≤ q) s.heap H1 locs1 → lv_has ls1 7 [(0, .ref b), (1, .ref (a 0)), (2, .ref (am 0)), (3, .ref o), (4, .int (nI i))] → W p l e room_1 s m #[Value.ref b] below meth c H1 locs1 (cells + 7) (slots + 42) Q (F0 m 1176 ls1 [])) :
    W p l e room_1 s m #[Value.ref b] below meth c H locs cells slots Q (F0 m 374 ls []) := by
  obtain ⟨n, nd, f0, t0, hRl⟩ := hR
  have hn : v 5 = nI n := hRl.1.2.1
  have hn2 : n ≤ 200 := hRl.1.1
  have hy : y 1 = nI n := hRl.1.2.2
  have hnd : v 4 = nI nd := hRl.2.1.2.1
  have hnd2 : nd ≤ 6 := hRl.2.1.1
  have hyd : y 2 = nI nd := hRl.2.1.2.2
  refine lv_aload_n hx hb dL_law_374 rfl (lv_at hl 1 rfl) ?_
  refine lv_aload_n hx hb dL_law_375 rfl (lv_at hl 0 rfl) ?_
  refine lv_iload hx hb dL_law_376 (lv_at hl 4 rfl) ?_
  refine lv_iconst (v := 1) hx hb dL_law_378 (by decide) ?_
  refine lv_iadd hx hb dL_law_379 ?_
  refine lw_sld hx hb hX hbl hS (k := 1) rfl (by omega) hL dL_law_380 ?_
  refine lv_aload_n hx hb dL_law_381 rfl (lv_at hl 0 rfl) ?_
  refine lv_iload hx hb dL_law_382 (lv_at hl 4 rfl) ?_
  refine lv_iconst (v := 2) hx hb dL_law_384 (by decide) ?_
  refine lv_iadd hx hb dL_law_385 ?_
  refine lw_sld hx hb hX hbl hS (k := 2) rfl (by omega) hL dL_law_386 ?_
  refine lv_aload_n hx hb dL_law_387 rfl (lv_at hl 0 rfl) ?_
  refine lv_iload hx hb dL_law_388 (lv_at hl 4 rfl) ?_
  refine lv_iconst (v := 3) hx hb dL_law_390 (by decide) ?_
  refine lv_iadd hx hb dL_law_391 ?_
  refine lw_sld hx hb hX hbl hS (k := 3) rfl (by omega) hL dL_law_392 ?_
  refine lv_aload_n hx hb dL_law_393 rfl (lv_at hl 0 rfl) ?_
  refine lv_iload hx hb dL_law_394 (lv_at hl 4 rfl) ?_
  refine lv_iconst (v := 4) hx hb dL_law_396 (by decide) ?_
  refine lv_iadd hx hb dL_law_397 ?_
  refine lw_sld hx hb hX hbl hS (k := 4) rfl (by omega) hL dL_law_398 ?_
  have hPc := hP.sub (ws' := wA cI cZ a v g) [1, 2, 3, 4, 5, 6, 7, 8, 9, 10, 11, 12, 13, 14, 15, 16, 17, 18, 19, 20] rfl
  have hDc := hD.sub (ws' := wA cI cZ a v g) [1, 2, 3, 4, 5, 6, 7, 8, 9, 10, 11, 12, 13, 14, 15, 16, 17, 18, 19, 20] (by decide) rfl
  have hFc := va_free (wc := wA cI cZ a v g) hD hS (fun _ h => h) [1, 2, 3, 4, 5, 6, 7, 8, 9, 10, 11, 12, 13, 14, 15, 16, 17, 18, 19, 20] rfl
  refine va_calli (vx_runSW (As := [.ref (a 0), .int (xs (i + 1)), .int (xs (i + 2)), .int (xs (i + 3)), .int (xs (i + 4))]) (rest := []) ⟨hx, hb, hml, hown, hts⟩ (w_ask l hl9 dC dI cI cZ cJ a tx v g H.size  (xs (i + 1)) (xs (i + 2)) (xs (i + 3)) (xs (i + 4))) (vx_cwSW 5 hts (gd_SW ml_L_L_ask sm_L_ask in_L kL_ask) rfl rfl rfl (by decide +kernel) ⟨Nat.le_of_ble_eq_true rfl, Nat.le_of_ble_eq_true rfl⟩) ⟨fun _ U g mk q => by obtain ⟨q0, q1, qP, qK, qD, qZ, qC⟩ := q; exact ⟨q0, q1, qP, va_K.moved (u := U) (U := U.calling g mk _) (Vm.Alike.refl U.vm) qK, qD, ZX.calling qZ, ZC.moved (u := U) (U := U.calling g mk _) (Vm.Alike.refl U.vm) qC⟩, fun U hU hW => ⟨rfl, by rw [hU], by rw [hU]; exact hPc, va_K.moved hW.alike hK, hDc.weaken (fun _ _ _ _ => trivial), ZX.call hZ hS hFc hW hU, ZC.moved hW.alike hC⟩⟩ rfl rfl hl.1 rfl (lv_room (Nat.le_of_ble_eq_true rfl)) dL_law_399 ⟨by show _ ≤ 601024; omega, by show _ ≤ 7293034; omega⟩) hS (fun q _ h => hFc q h) hFc (fun r1 u1 t1 H1 locs1 ht1 hvm1 hw hB hz1 hk1 hS => ?_)
  obtain ⟨v1, g1⟩ := u1
  obtain ⟨hP1, hK1, hD1⟩ := hB
  rw [ht1] at hP1
  obtain ⟨hPj, hDj⟩ := va_join (wr := ((o, .inl (cJ, 1, .inr (.inl fo))) :: wM cI cZ am y z)) (w1 := wA cI cZ a v1 g1) hP hD [1, 2, 3, 4, 5, 6, 7, 8, 9, 10, 11, 12, 13, 14, 15, 16, 17, 18, 19, 20] [0, 21, 22, 23, 24, 25, 26, 27, 28, 29, 30, 31, 32, 33, 34, 35, 36, 37] rfl rfl (by decide) (by decide) hk1 hFc hP1 hD1
  have hP := hPj.sub (ws' := wW cI cZ cJ o fo a v1 g1 am y z) [0, 18, 19, 20, 21, 22, 23, 24, 25, 26, 27, 28, 29, 30, 31, 32, 33, 34, 35, 36, 37, 1, 2, 3, 4, 5, 6, 7, 8, 9, 10, 11, 12, 13, 14, 15, 16, 17] rfl
  have hD := hDj.sub (ws' := wW cI cZ cJ o fo a v1 g1 am y z) [0, 18, 19, 20, 21, 22, 23, 24, 25, 26, 27, 28, 29, 30, 31, 32, 33, 34, 35, 36, 37, 1, 2, 3, 4, 5, 6, 7, 8, 9, 10, 11, 12, 13, 14, 15, 16, 17] (by decide) rfl
  refine W.widen (k := cells + 7) (n := slots + 42) (by omega) (by omega) ?_
  refine lv_istore (lv' := [(5, .int r1), (0, .ref b), (1, .ref (a 0)), (2, .ref (am 0)), (3, .ref o), (4, .int (nI i))]) hx hb dL_law_402 hl (by decide) rfl (fun ls hl => ?_)
  refine lv_aload_n hx hb dL_law_404 rfl (lv_at hl 3 rfl) ?_
  refine lv_aload_n hx hb dL_law_405 rfl (lv_at hl 1 rfl) ?_
  refine lv_iload hx hb dL_law_406 (lv_at hl 5 rfl) ?_
  refine lv_iconst (v := 1) hx hb dL_law_408 (by decide) ?_
  refine lv_iadd hx hb dL_law_409 ?_
  refine lw_sld hx hb hX hbl hS (k := 1) rfl (by omega) hL dL_law_410 ?_
  refine lv_aload_n hx hb dL_law_411 rfl (lv_at hl 1 rfl) ?_
  refine lv_iload hx hb dL_law_412 (lv_at hl 5 rfl) ?_
  refine lv_iconst (v := 2) hx hb dL_law_414 (by decide) ?_
  refine lv_iadd hx hb dL_law_415 ?_
  refine lw_sld hx hb hX hbl hS (k := 2) rfl (by omega) hL dL_law_416 ?_
  refine lv_aload_n hx hb dL_law_417 rfl (lv_at hl 1 rfl) ?_
  refine lv_iload hx hb dL_law_418 (lv_at hl 5 rfl) ?_
  refine lv_iconst (v := 3) hx hb dL_law_420 (by decide) ?_
  refine lv_iadd hx hb dL_law_421 ?_
  refine lw_sld hx hb hX hbl hS (k := 3) rfl (by omega) hL dL_law_422 ?_
  refine lv_aload_n hx hb dL_law_423 rfl (lv_at hl 1 rfl) ?_
  refine lv_iload hx hb dL_law_424 (lv_at hl 5 rfl) ?_
  refine lv_iconst (v := 4) hx hb dL_law_426 (by decide) ?_
  refine lv_iadd hx hb dL_law_427 ?_
  refine lw_sld hx hb hX hbl hS (k := 4) rfl (by omega) hL dL_law_428 ?_
  have hPm := hP.sub (ws' := wM cI cZ am y z) [21, 22, 23, 24, 25, 26, 27, 28, 29, 30, 31, 32, 33, 34, 35, 36, 37] rfl
  have hDm := hD.sub (ws' := wM cI cZ am y z) [21, 22, 23, 24, 25, 26, 27, 28, 29, 30, 31, 32, 33, 34, 35, 36, 37] (by decide) rfl
  have hFm := va_free (wc := wM cI cZ am y z) hD hS (fun _ h => h) [21, 22, 23, 24, 25, 26, 27, 28, 29, 30, 31, 32, 33, 34, 35, 36, 37] rfl
  refine va_callv (va_runV (As := [.int (xs (i + 1)), .int (xs (i + 2)), .int (xs (i + 3)), .int (xs (i + 4))]) (rest := []) ⟨hx, hb, hml, hown, hts⟩ (m_ask l dC dI cI cZ cJ am y z H1.size  (xs (i + 1)) (xs (i + 2)) (xs (i + 3)) (xs (i + 4))) (cwV 4 hts (gd_V ml_L_X5_ask im_X5_ask se_X5_ask in_X5 kX5_ask) rfl rfl rfl (by decide +kernel) ⟨Nat.le_of_ble_eq_true rfl, Nat.le_of_ble_eq_true rfl⟩) ⟨fun _ U g mk q => by obtain ⟨q0, q1, qP, qK, qD⟩ := q; exact ⟨q0, q1, qP, va_K.moved (u := U) (U := U.calling g mk _) (Vm.Alike.refl U.vm) qK, qD⟩, va_recv hK hPm (ci := 5) (q0 := 0) rfl rfl, fun U hU hW => ⟨rfl, by rw [hU], by rw [hU]; exact hPm, va_K.moved hW.alike hK, hDm.weaken (fun _ _ _ _ => trivial)⟩⟩ rfl rfl hl.1 rfl (lv_room (Nat.le_of_ble_eq_true rfl)) dL_law_429 ⟨by show _ ≤ 601024; omega, by show _ ≤ 7293034; omega⟩) hS (fun q _ h => hFm q h) hFm (fun u2 t2 H2 locs2 ht2 hvm2 hm hB2 hz2 hk2 hS => ?_)
  obtain ⟨y1, z1⟩ := u2
  obtain ⟨hP2, hK2, hD2⟩ := hB2
  rw [ht2] at hP2
  obtain ⟨hPj, hDj⟩ := va_join (wr := wL cI cZ cJ o fo a v1 g1) (w1 := wM cI cZ am y1 z1) hP hD [21, 22, 23, 24, 25, 26, 27, 28, 29, 30, 31, 32, 33, 34, 35, 36, 37] [0, 1, 2, 3, 4, 5, 6, 7, 8, 9, 10, 11, 12, 13, 14, 15, 16, 17, 18, 19, 20] rfl rfl (by decide) (by decide) hk2 hFm hP2 hD2
  have hP : va_P (dC, dI) clA (wW cI cZ cJ o fo a v1 g1 am y1 z1) H2 := hPj
  have hD : va_D (fun q : Nat => s.heap.size ≤ q) (wW cI cZ cJ o fo a v1 g1 am y1 z1) := hDj
  have st := st_ask hRl hw hm
  have e1 : y1 0 = r1 := st.1
  have e3 : Rel v1 g1 y1 z1 := st.2
  refine lv_aload_n hx hb dL_law_432 rfl (lv_at hl 3 rfl) ?_
  have hPt := hP.sub (ws' := wM cI cZ am y1 z1) [21, 22, 23, 24, 25, 26, 27, 28, 29, 30, 31, 32, 33, 34, 35, 36, 37] rfl
  refine vp_callSi (W.runV (As := []) (rest := []) ⟨hx, hb, hml, hown, hts⟩ (m_thrown l dC dI cI cZ cJ am y1 z1) (cwV 0 hts (gd_V ml_L_X5_thrown im_X5_thrown se_X5_thrown in_X5 kX5_thrown) rfl rfl rfl (by decide +kernel) ⟨Nat.le_of_ble_eq_true rfl, Nat.le_of_ble_eq_true rfl⟩) ⟨fun _ U g mk q => by obtain ⟨q0, qP, qK⟩ := q; exact ⟨q0, qP, va_K.moved (u := U) (U := U.calling g mk _) (Vm.Alike.refl U.vm) qK⟩, va_recv hK hPt (ci := 5) (q0 := 0) rfl rfl, fun U hU hW => ⟨rfl, by rw [hU]; exact hPt, va_K.moved hW.alike hK⟩⟩ rfl rfl hl.1 rfl (lv_room (Nat.le_of_ble_eq_true rfl)) dL_law_433 ⟨by show _ ≤ 601024; omega, by show _ ≤ 7293034; omega⟩) (fun r9 hr9 => ?_)
  refine lv_iload hx hb dL_law_436 (lv_at hl 0 rfl) ?_
  refine lv_icmp_eq (tgt := 443) hx hb dL_law_438 (by decide) (fun c9 => ?_) (fun c9 => absurd (hr9.trans e1) c9)
  refine lv_goto (tgt := 1176) hx hb dL_law_443 (by decide) ?_
  exact kk v1 g1 y1 z1 fo _ _ _ e3 hP hD hS (lv_sub hl [1, 2, 3, 4, 5] rfl)
set_option maxHeartbeats 4000000 in
set_option maxRecDepth 100000 in
theorem law_count {p : Program} {l : Launch} {e : Env} {s : State} {m : MethodId} {below : List Frame} {meth : Method} {c : Code} {Q : State → Prop} {c0 : Cond} {b L : Nat} {xs : Nat → Int32} {dC : Nat → ClassId} {dI : Nat → Nat → Nat} {cI cZ cJ : ClassId} {a am : Nat → Nat} {o : Nat} {tx : Nat → Nat}
    (hl9 : l.stackTraces = false) (hx : p.tables.exec = Jvm.exec) (hb : c.code = code) (hml : c.maxLocals = 7) (hown : s.vm.findClass RL = some m.cls) (hts : ∀ w ∈ c0 :: allW, w.before #[Value.ref b] s = true) (hX : va_X b L xs s s.heap) (hbl : b < s.heap.size) (hK : va_K (dC, dI) clA (tyA cI cZ cJ) s) (hZ : ZX tx (fun q : Nat => s.heap.size ≤ q) s s.heap) (hC : ZC s)
    {i cells slots : Nat} (hi : i + 7 ≤ L) (hL : L ≤ 3584) (hce : cells + 7 ≤ 601024) (hsl : slots + 42 ≤ 7293034) {v : Nat → Int32} {g : Nat → Nat → Int32} {y : Nat → Int32} {z : Nat → Nat → Int32} {fo : Nat → Int64} {H : Heap} {locs : List Loc} {ls : Array Slot} (hR : Rel v g y z) (hP : va_P (dC, dI) clA (wW cI cZ cJ o fo a v g am y z) H) (hD : va_D (fun q : Nat => s.heap.size ≤ q) (wW cI cZ cJ o fo a v g am y z)) (hS : va_S (fun q : Nat => s.heap.size ≤ q) s.heap H locs) (hl : lv_has ls 7 [(0, .ref b), (1, .ref (a 0)), (2, .ref (am 0)), (3, .ref o), (4, .int (nI i))])
    (kk : ∀ (v1 : Nat → Int32) (g1 : Nat → Nat → Int32) (y1 : Nat → Int32) (z1 : Nat → Nat → Int32) (fo1 : Nat → Int64) (H1 : Heap) (locs1 : List Loc) (ls1 : Array Slot), Rel v1 g1 y1 z1 → va_P (dC, dI) clA (wW cI cZ cJ o fo1 a v1 g1 am y1 z1) H1 → va_D (fun q : Nat => s.heap.size ≤ q) (wW cI cZ cJ o fo1 a v1 g1 am y1 z1) → va_S (fun q : Nat => s.heap.size ≤ q) s.heap H1 locs1 → lv_has ls1 7 [(0, .ref b), (1, .ref (a 0)), (2, .ref (am 0)), (3, .ref o), (4, .int (nI i))] → W p l e room_1 s m #[Value.ref b] below meth c H1 locs1 (cells + 7) (slots + 42) Q (F0 m 1176 ls1 [])) :
    W p l e room_1 s m #[Value.ref b] below meth c H locs cells slots Q (F0 m 446 ls []) := by
  obtain ⟨n, nd, f0, t0, hRl⟩ := hR
  have hn : v 5 = nI n := hRl.1.2.1
  have hn2 : n ≤ 200 := hRl.1.1
  have hy : y 1 = nI n := hRl.1.2.2
  have hnd : v 4 = nI nd := hRl.2.1.2.1
  have hnd2 : nd ≤ 6 := hRl.2.1.1
  have hyd : y 2 = nI nd := hRl.2.1.2.2
  refine lv_aload_n hx hb dL_law_446 rfl (lv_at hl 1 rfl) ?_
  refine lv_aload_n hx hb dL_law_447 rfl (lv_at hl 0 rfl) ?_
  refine lv_iload hx hb dL_law_448 (lv_at hl 4 rfl) ?_
  refine lv_iconst (v := 1) hx hb dL_law_450 (by decide) ?_
  refine lv_iadd hx hb dL_law_451 ?_
  refine lw_sld hx hb hX hbl hS (k := 1) rfl (by omega) hL dL_law_452 ?_
  refine lv_aload_n hx hb dL_law_453 rfl (lv_at hl 3 rfl) ?_
  have hPc := hP.sub (ws' := wL cI cZ cJ o fo a v g) [0, 1, 2, 3, 4, 5, 6, 7, 8, 9, 10, 11, 12, 13, 14, 15, 16, 17, 18, 19, 20] rfl
  have hDc := hD.sub (ws' := wL cI cZ cJ o fo a v g) [0, 1, 2, 3, 4, 5, 6, 7, 8, 9, 10, 11, 12, 13, 14, 15, 16, 17, 18, 19, 20] (by decide) rfl
  have hFc := va_free (wc := wL cI cZ cJ o fo a v g) hD hS (fun _ h => h) [0, 1, 2, 3, 4, 5, 6, 7, 8, 9, 10, 11, 12, 13, 14, 15, 16, 17, 18, 19, 20] rfl
  refine va_calli (vx_runSW (As := [.ref (a 0), .int (xs (i + 1)), .ref o]) (rest := []) ⟨hx, hb, hml, hown, hts⟩ (w_count l hl9 dC dI cI cZ cJ a tx v g o fo H.size n hn hn2 nd hnd hnd2 (xs (i + 1))) (vx_cwSW 3 hts (gd_SW ml_L_L_count sm_L_count in_L kL_count) rfl rfl rfl (by decide +kernel) ⟨Nat.le_of_ble_eq_true rfl, Nat.le_of_ble_eq_true rfl⟩) ⟨fun _ U g mk q => by obtain ⟨q0, q1, qP, qK, qD, qZ, qC⟩ := q; exact ⟨q0, q1, qP, va_K.moved (u := U) (U := U.calling g mk _) (Vm.Alike.refl U.vm) qK, qD, ZX.calling qZ, ZC.moved (u := U) (U := U.calling g mk _) (Vm.Alike.refl U.vm) qC⟩, fun U hU hW => ⟨rfl, by rw [hU], by rw [hU]; exact hPc, va_K.moved hW.alike hK, hDc.weaken (fun _ _ _ _ => trivial), ZX.call hZ hS hFc hW hU, ZC.moved hW.alike hC⟩⟩ rfl rfl hl.1 rfl (lv_room (Nat.le_of_ble_eq_true rfl)) dL_law_454 ⟨by show _ ≤ 601024; omega, by show _ ≤ 7293034; omega⟩) hS (fun q _ h => hFc q h) hFc (fun r1 u1 t1 H1 locs1 ht1 hvm1 hw hB hz1 hk1 hS => ?_)
  obtain ⟨⟨v1, g1⟩, fo1⟩ := u1
  obtain ⟨hP1, hK1, hD1⟩ := hB
  rw [ht1] at hP1
  obtain ⟨hPj, hDj⟩ := va_join (wr := wM cI cZ am y z) (w1 := wL cI cZ cJ o fo1 a v1 g1) hP hD [0, 1, 2, 3, 4, 5, 6, 7, 8, 9, 10, 11, 12, 13, 14, 15, 16, 17, 18, 19, 20] [21, 22, 23, 24, 25, 26, 27, 28, 29, 30, 31, 32, 33, 34, 35, 36, 37] rfl rfl (by decide) (by decide) hk1 hFc hP1 hD1
  have hP := hPj.sub (ws' := wW cI cZ cJ o fo1 a v1 g1 am y z) [17, 18, 19, 20, 21, 22, 23, 24, 25, 26, 27, 28, 29, 30, 31, 32, 33, 34, 35, 36, 37, 0, 1, 2, 3, 4, 5, 6, 7, 8, 9, 10, 11, 12, 13, 14, 15, 16] rfl
  have hD := hDj.sub (ws' := wW cI cZ cJ o fo1 a v1 g1 am y z) [17, 18, 19, 20, 21, 22, 23, 24, 25, 26, 27, 28, 29, 30, 31, 32, 33, 34, 35, 36, 37, 0, 1, 2, 3, 4, 5, 6, 7, 8, 9, 10, 11, 12, 13, 14, 15, 16] (by decide) rfl
  refine W.widen (k := cells + 7) (n := slots + 42) (by omega) (by omega) ?_
  refine lv_istore (lv' := [(5, .int r1), (0, .ref b), (1, .ref (a 0)), (2, .ref (am 0)), (3, .ref o), (4, .int (nI i))]) hx hb dL_law_457 hl (by decide) rfl (fun ls hl => ?_)
  refine lv_aload_n hx hb dL_law_459 rfl (lv_at hl 3 rfl) ?_
  refine lv_aload_n hx hb dL_law_460 rfl (lv_at hl 1 rfl) ?_
  refine lv_iload hx hb dL_law_461 (lv_at hl 5 rfl) ?_
  refine lv_iconst (v := 1) hx hb dL_law_463 (by decide) ?_
  refine lv_iadd hx hb dL_law_464 ?_
  refine lw_sld hx hb hX hbl hS (k := 1) rfl (by omega) hL dL_law_465 ?_
  have hPm := hP.sub (ws' := wM cI cZ am y z) [21, 22, 23, 24, 25, 26, 27, 28, 29, 30, 31, 32, 33, 34, 35, 36, 37] rfl
  have hDm := hD.sub (ws' := wM cI cZ am y z) [21, 22, 23, 24, 25, 26, 27, 28, 29, 30, 31, 32, 33, 34, 35, 36, 37] (by decide) rfl
  have hFm := va_free (wc := wM cI cZ am y z) hD hS (fun _ h => h) [21, 22, 23, 24, 25, 26, 27, 28, 29, 30, 31, 32, 33, 34, 35, 36, 37] rfl
  refine va_calli (va_runV (As := [.int (xs (i + 1))]) (rest := []) ⟨hx, hb, hml, hown, hts⟩ (m_count l dC dI cI cZ cJ am y z H1.size n hy hn2 nd hyd hnd2 (xs (i + 1))) (cwV 1 hts (gd_V ml_L_X5_count im_X5_count se_X5_count in_X5 kX5_count) rfl rfl rfl (by decide +kernel) ⟨Nat.le_of_ble_eq_true rfl, Nat.le_of_ble_eq_true rfl⟩) ⟨fun _ U g mk q => by obtain ⟨q0, q1, qP, qK, qD⟩ := q; exact ⟨q0, q1, qP, va_K.moved (u := U) (U := U.calling g mk _) (Vm.Alike.refl U.vm) qK, qD⟩, va_recv hK hPm (ci := 5) (q0 := 0) rfl rfl, fun U hU hW => ⟨rfl, by rw [hU], by rw [hU]; exact hPm, va_K.moved hW.alike hK, hDm.weaken (fun _ _ _ _ => trivial)⟩⟩ rfl rfl hl.1 rfl (lv_room (Nat.le_of_ble_eq_true rfl)) dL_law_466 ⟨by show _ ≤ 601024; omega, by show _ ≤ 7293034; omega⟩) hS (fun q _ h => hFm q h) hFm (fun b2 u2 t2 H2 locs2 ht2 hvm2 hm hB2 hz2 hk2 hS => ?_)
  obtain ⟨y1, z1⟩ := u2
  obtain ⟨hP2, hK2, hD2⟩ := hB2
  rw [ht2] at hP2
  obtain ⟨hPj, hDj⟩ := va_join (wr := wL cI cZ cJ o fo1 a v1 g1) (w1 := wM cI cZ am y1 z1) hP hD [21, 22, 23, 24, 25, 26, 27, 28, 29, 30, 31, 32, 33, 34, 35, 36, 37] [0, 1, 2, 3, 4, 5, 6, 7, 8, 9, 10, 11, 12, 13, 14, 15, 16, 17, 18, 19, 20] rfl rfl (by decide) (by decide) hk2 hFm hP2 hD2
  have hP : va_P (dC, dI) clA (wW cI cZ cJ o fo1 a v1 g1 am y1 z1) H2 := hPj
  have hD : va_D (fun q : Nat => s.heap.size ≤ q) (wW cI cZ cJ o fo1 a v1 g1 am y1 z1) := hDj
  refine lv_istore (lv' := [(6, .int b2), (5, .int r1), (0, .ref b), (1, .ref (a 0)), (2, .ref (am 0)), (3, .ref o), (4, .int (nI i))]) hx hb dL_law_469 hl (by decide) rfl (fun ls hl => ?_)
  have st := st_count hRl hw hm
  have e1 : y1 0 = r1 := st.1
  have e2 : r1 = 0 → fo1 0 = b2.toInt64 := st.2.1
  have e3 : Rel v1 g1 y1 z1 := st.2.2
  refine lv_aload_n hx hb dL_law_471 rfl (lv_at hl 4 rfl) ?_
  have hPt := hP.sub (ws' := wM cI cZ am y1 z1) [21, 22, 23, 24, 25, 26, 27, 28, 29, 30, 31, 32, 33, 34, 35, 36, 37] rfl
  refine vp_callSi (W.runV (As := []) (rest := []) ⟨hx, hb, hml, hown, hts⟩ (m_thrown l dC dI cI cZ cJ am y1 z1) (cwV 0 hts (gd_V ml_L_X5_thrown im_X5_thrown se_X5_thrown in_X5 kX5_thrown) rfl rfl rfl (by decide +kernel) ⟨Nat.le_of_ble_eq_true rfl, Nat.le_of_ble_eq_true rfl⟩) ⟨fun _ U g mk q => by obtain ⟨q0, qP, qK⟩ := q; exact ⟨q0, qP, va_K.moved (u := U) (U := U.calling g mk _) (Vm.Alike.refl U.vm) qK⟩, va_recv hK hPt (ci := 5) (q0 := 0) rfl rfl, fun U hU hW => ⟨rfl, by rw [hU]; exact hPt, va_K.moved hW.alike hK⟩⟩ rfl rfl hl.1 rfl (lv_room (Nat.le_of_ble_eq_true rfl)) dL_law_472 ⟨by show _ ≤ 601024; omega, by show _ ≤ 7293034; omega⟩) (fun r9 hr9 => ?_)
  refine lv_iload hx hb dL_law_475 (lv_at hl 1 rfl) ?_
  refine lv_icmp_eq (tgt := 482) hx hb dL_law_477 (by decide) (fun c9 => ?_) (fun c9 => absurd (hr9.trans e1) c9)
  refine lv_iload hx hb dL_law_482 (lv_at hl 1 rfl) ?_
  refine lv_if_ne (tgt := 499) hx hb dL_law_484 (by decide) (fun c8 => ?_) (fun c8 => ?_)
  · refine lv_goto (tgt := 1176) hx hb dL_law_499 (by decide) ?_
    exact kk v1 g1 y1 z1 fo1 _ _ _ e3 hP hD hS (lv_sub hl [2, 3, 4, 5, 6] rfl)
  · refine lv_aload_n hx hb dL_law_487 rfl (lv_at hl 5 rfl) ?_
    refine lv_iconst (v := 0) hx hb dL_law_488 (by decide) ?_
    refine va_lald hx hb hK hP 0 2 rfl rfl (vp_in_nI (n := 0) (N := 1) (by decide) (by decide)) dL_law_489 ?_
    refine lv_iload hx hb dL_law_490 (lv_at hl 0 rfl) ?_
    refine lv_i2l (v := b2.toInt64) hx hb dL_law_492 rfl ?_
    refine W.lcmp hx hb dL_law_493 ?_
    refine lv_if_eq (tgt := 499) hx hb dL_law_494 (by decide) (fun c7 => ?_) (fun c7 => absurd (lw_eq (show fo1 (0 : Int32).toNatClampNeg = b2.toInt64 from e2 c8)) c7)
    refine lv_goto (tgt := 1176) hx hb dL_law_499 (by decide) ?_
    exact kk v1 g1 y1 z1 fo1 _ _ _ e3 hP hD hS (lv_sub hl [2, 3, 4, 5, 6] rfl)
set_option maxHeartbeats 4000000 in
set_option maxRecDepth 100000 in
theorem law_hour {p : Program} {l : Launch} {e : Env} {s : State} {m : MethodId} {below : List Frame} {meth : Method} {c : Code} {Q : State → Prop} {c0 : Cond} {b L : Nat} {xs : Nat → Int32} {dC : Nat → ClassId} {dI : Nat → Nat → Nat} {cI cZ cJ : ClassId} {a am : Nat → Nat} {o : Nat} {tx : Nat → Nat}
    (hl9 : l.stackTraces = false) (hx : p.tables.exec = Jvm.exec) (hb : c.code = code) (hml : c.maxLocals = 7) (hown : s.vm.findClass RL = some m.cls) (hts : ∀ w ∈ c0 :: allW, w.before #[Value.ref b] s = true) (hX : va_X b L xs s s.heap) (hbl : b < s.heap.size) (hK : va_K (dC, dI) clA (tyA cI cZ cJ) s) (hZ : ZX tx (fun q : Nat => s.heap.size ≤ q) s s.heap) (hC : ZC s)
    {i cells slots : Nat} (hi : i + 7 ≤ L) (hL : L ≤ 3584) (hce : cells + 7 ≤ 601024) (hsl : slots + 42 ≤ 7293034) {v : Nat → Int32} {g : Nat → Nat → Int32} {y : Nat → Int32} {z : Nat → Nat → Int32} {fo : Nat → Int64} {H : Heap} {locs : List Loc} {ls : Array Slot} (hR : Rel v g y z) (hP : va_P (dC, dI) clA (wW cI cZ cJ o fo a v g am y z) H) (hD : va_D (fun q : Nat => s.heap.size ≤ q) (wW cI cZ cJ o fo a v g am y z)) (hS : va_S (fun q : Nat => s.heap.size ≤ q) s.heap H locs) (hl : lv_has ls 7 [(0, .ref b), (1, .ref (a 0)), (2, .ref (am 0)), (3, .ref o), (4, .int (nI i))])
    (kk : ∀ (v1 : Nat → Int32) (g1 : Nat → Nat → Int32) (y1 : Nat → Int32) (z1 : Nat → Nat → Int32) (fo1 : Nat → Int64) (H1 : Heap) (locs1 : List Loc) (ls1 : Array Slot), Rel v1 g1 y1 z1 → va_P (dC, dI) clA (wW cI cZ cJ o fo1 a v1 g1 am y1 z1) H1 → va_D (fun q : Nat => s.heap.size ≤ q) (wW cI cZ cJ o fo1 a v1 g1 am y1 z1) → va_S (fun q : Nat => s.heap.size ≤ q) s.heap H1 locs1 → lv_has ls1 7 [(0, .ref b), (1, .ref (a 0)), (2, .ref (am 0)), (3, .ref o), (4, .int (nI i))] → W p l e room_1 s m #[Value.ref b] below meth c H1 locs1 (cells + 7) (slots + 42) Q (F0 m 1176 ls1 [])) :
    W p l e room_1 s m #[Value.ref b] below meth c H locs cells slots Q (F0 m 502 ls []) := by
  obtain ⟨n, nd, f0, t0, hRl⟩ := hR
  have hn : v 5 = nI n := hRl.1.2.1
  have hn2 : n ≤ 200 := hRl.1.1
  have hy : y 1 = nI n := hRl.1.2.2
  have hnd : v 4 = nI nd := hRl.2.1.2.1
  have hnd2 : nd ≤ 6 := hRl.2.1.1
  have hyd : y 2 = nI nd := hRl.2.1.2.2
  refine lv_aload_n hx hb dL_law_502 rfl (lv_at hl 1 rfl) ?_
  refine lv_aload_n hx hb dL_law_503 rfl (lv_at hl 0 rfl) ?_
  refine lv_iload hx hb dL_law_504 (lv_at hl 4 rfl) ?_
  refine lv_iconst (v := 1) hx hb dL_law_506 (by decide) ?_
  refine lv_iadd hx hb dL_law_507 ?_
  refine lw_sld hx hb hX hbl hS (k := 1) rfl (by omega) hL dL_law_508 ?_
  refine lv_aload_n hx hb dL_law_509 rfl (lv_at hl 3 rfl) ?_
  have hPc := hP.sub (ws' := wL cI cZ cJ o fo a v g) [0, 1, 2, 3, 4, 5, 6, 7, 8, 9, 10, 11, 12, 13, 14, 15, 16, 17, 18, 19, 20] rfl
  have hDc := hD.sub (ws' := wL cI cZ cJ o fo a v g) [0, 1, 2, 3, 4, 5, 6, 7, 8, 9, 10, 11, 12, 13, 14, 15, 16, 17, 18, 19, 20] (by decide) rfl
  have hFc := va_free (wc := wL cI cZ cJ o fo a v g) hD hS (fun _ h => h) [0, 1, 2, 3, 4, 5, 6, 7, 8, 9, 10, 11, 12, 13, 14, 15, 16, 17, 18, 19, 20] rfl
  refine va_calli (vx_runSW (As := [.ref (a 0), .int (xs (i + 1)), .ref o]) (rest := []) ⟨hx, hb, hml, hown, hts⟩ (w_hour l hl9 dC dI cI cZ cJ a tx v g o fo H.size n hn hn2 (xs (i + 1))) (vx_cwSW 3 hts (gd_SW ml_L_L_hour sm_L_hour in_L kL_hour) rfl rfl rfl (by decide +kernel) ⟨Nat.le_of_ble_eq_true rfl, Nat.le_of_ble_eq_true rfl⟩) ⟨fun _ U g mk q => by obtain ⟨q0, q1, qP, qK, qD, qZ, qC⟩ := q; exact ⟨q0, q1, qP, va_K.moved (u := U) (U := U.calling g mk _) (Vm.Alike.refl U.vm) qK, qD, ZX.calling qZ, ZC.moved (u := U) (U := U.calling g mk _) (Vm.Alike.refl U.vm) qC⟩, fun U hU hW => ⟨rfl, by rw [hU], by rw [hU]; exact hPc, va_K.moved hW.alike hK, hDc.weaken (fun _ _ _ _ => trivial), ZX.call hZ hS hFc hW hU, ZC.moved hW.alike hC⟩⟩ rfl rfl hl.1 rfl (lv_room (Nat.le_of_ble_eq_true rfl)) dL_law_510 ⟨by show _ ≤ 601024; omega, by show _ ≤ 7293034; omega⟩) hS (fun q _ h => hFc q h) hFc (fun r1 u1 t1 H1 locs1 ht1 hvm1 hw hB hz1 hk1 hS => ?_)
  obtain ⟨⟨v1, g1⟩, fo1⟩ := u1
  obtain ⟨hP1, hK1, hD1⟩ := hB
  rw [ht1] at hP1
  obtain ⟨hPj, hDj⟩ := va_join (wr := wM cI cZ am y z) (w1 := wL cI cZ cJ o fo1 a v1 g1) hP hD [0, 1, 2, 3, 4, 5, 6, 7, 8, 9, 10, 11, 12, 13, 14, 15, 16, 17, 18, 19, 20] [21, 22, 23, 24, 25, 26, 27, 28, 29, 30, 31, 32, 33, 34, 35, 36, 37] rfl rfl (by decide) (by decide) hk1 hFc hP1 hD1
  have hP := hPj.sub (ws' := wW cI cZ cJ o fo1 a v1 g1 am y z) [17, 18, 19, 20, 21, 22, 23, 24, 25, 26, 27, 28, 29, 30, 31, 32, 33, 34, 35, 36, 37, 0, 1, 2, 3, 4, 5, 6, 7, 8, 9, 10, 11, 12, 13, 14, 15, 16] rfl
  have hD := hDj.sub (ws' := wW cI cZ cJ o fo1 a v1 g1 am y z) [17, 18, 19, 20, 21, 22, 23, 24, 25, 26, 27, 28, 29, 30, 31, 32, 33, 34, 35, 36, 37, 0, 1, 2, 3, 4, 5, 6, 7, 8, 9, 10, 11, 12, 13, 14, 15, 16] (by decide) rfl
  refine W.widen (k := cells + 7) (n := slots + 42) (by omega) (by omega) ?_
  refine lv_istore (lv' := [(5, .int r1), (0, .ref b), (1, .ref (a 0)), (2, .ref (am 0)), (3, .ref o), (4, .int (nI i))]) hx hb dL_law_513 hl (by decide) rfl (fun ls hl => ?_)
  refine lv_aload_n hx hb dL_law_515 rfl (lv_at hl 3 rfl) ?_
  refine lv_aload_n hx hb dL_law_516 rfl (lv_at hl 1 rfl) ?_
  refine lv_iload hx hb dL_law_517 (lv_at hl 5 rfl) ?_
  refine lv_iconst (v := 1) hx hb dL_law_519 (by decide) ?_
  refine lv_iadd hx hb dL_law_520 ?_
  refine lw_sld hx hb hX hbl hS (k := 1) rfl (by omega) hL dL_law_521 ?_
  have hPm := hP.sub (ws' := wM cI cZ am y z) [21, 22, 23, 24, 25, 26, 27, 28, 29, 30, 31, 32, 33, 34, 35, 36, 37] rfl
  have hDm := hD.sub (ws' := wM cI cZ am y z) [21, 22, 23, 24, 25, 26, 27, 28, 29, 30, 31, 32, 33, 34, 35, 36, 37] (by decide) rfl
  have hFm := va_free (wc := wM cI cZ am y z) hD hS (fun _ h => h) [21, 22, 23, 24, 25, 26, 27, 28, 29, 30, 31, 32, 33, 34, 35, 36, 37] rfl
  refine va_calli (va_runV (As := [.int (xs (i + 1))]) (rest := []) ⟨hx, hb, hml, hown, hts⟩ (m_hour l dC dI cI cZ cJ am y z H1.size n hy hn2 (xs (i + 1))) (cwV 1 hts (gd_V ml_L_X5_hour im_X5_hour se_X5_hour in_X5 kX5_hour) rfl rfl rfl (by decide +kernel) ⟨Nat.le_of_ble_eq_true rfl, Nat.le_of_ble_eq_true rfl⟩) ⟨fun _ U g mk q => by obtain ⟨q0, q1, qP, qK, qD⟩ := q; exact ⟨q0, q1, qP, va_K.moved (u := U) (U := U.calling g mk _) (Vm.Alike.refl U.vm) qK, qD⟩, va_recv hK hPm (ci := 5) (q0 := 0) rfl rfl, fun U hU hW => ⟨rfl, by rw [hU], by rw [hU]; exact hPm, va_K.moved hW.alike hK, hDm.weaken (fun _ _ _ _ => trivial)⟩⟩ rfl rfl hl.1 rfl (lv_room (Nat.le_of_ble_eq_true rfl)) dL_law_522 ⟨by show _ ≤ 601024; omega, by show _ ≤ 7293034; omega⟩) hS (fun q _ h => hFm q h) hFm (fun b2 u2 t2 H2 locs2 ht2 hvm2 hm hB2 hz2 hk2 hS => ?_)
  obtain ⟨y1, z1⟩ := u2
  obtain ⟨hP2, hK2, hD2⟩ := hB2
  rw [ht2] at hP2
  obtain ⟨hPj, hDj⟩ := va_join (wr := wL cI cZ cJ o fo1 a v1 g1) (w1 := wM cI cZ am y1 z1) hP hD [21, 22, 23, 24, 25, 26, 27, 28, 29, 30, 31, 32, 33, 34, 35, 36, 37] [0, 1, 2, 3, 4, 5, 6, 7, 8, 9, 10, 11, 12, 13, 14, 15, 16, 17, 18, 19, 20] rfl rfl (by decide) (by decide) hk2 hFm hP2 hD2
  have hP : va_P (dC, dI) clA (wW cI cZ cJ o fo1 a v1 g1 am y1 z1) H2 := hPj
  have hD : va_D (fun q : Nat => s.heap.size ≤ q) (wW cI cZ cJ o fo1 a v1 g1 am y1 z1) := hDj
  refine lv_istore (lv' := [(6, .int b2), (5, .int r1), (0, .ref b), (1, .ref (a 0)), (2, .ref (am 0)), (3, .ref o), (4, .int (nI i))]) hx hb dL_law_525 hl (by decide) rfl (fun ls hl => ?_)
  have st := st_hour hRl hw hm
  have e1 : y1 0 = r1 := st.1
  have e2 : r1 = 0 → fo1 0 = b2.toInt64 := st.2.1
  have e3 : Rel v1 g1 y1 z1 := st.2.2
  refine lv_aload_n hx hb dL_law_527 rfl (lv_at hl 4 rfl) ?_
  have hPt := hP.sub (ws' := wM cI cZ am y1 z1) [21, 22, 23, 24, 25, 26, 27, 28, 29, 30, 31, 32, 33, 34, 35, 36, 37] rfl
  refine vp_callSi (W.runV (As := []) (rest := []) ⟨hx, hb, hml, hown, hts⟩ (m_thrown l dC dI cI cZ cJ am y1 z1) (cwV 0 hts (gd_V ml_L_X5_thrown im_X5_thrown se_X5_thrown in_X5 kX5_thrown) rfl rfl rfl (by decide +kernel) ⟨Nat.le_of_ble_eq_true rfl, Nat.le_of_ble_eq_true rfl⟩) ⟨fun _ U g mk q => by obtain ⟨q0, qP, qK⟩ := q; exact ⟨q0, qP, va_K.moved (u := U) (U := U.calling g mk _) (Vm.Alike.refl U.vm) qK⟩, va_recv hK hPt (ci := 5) (q0 := 0) rfl rfl, fun U hU hW => ⟨rfl, by rw [hU]; exact hPt, va_K.moved hW.alike hK⟩⟩ rfl rfl hl.1 rfl (lv_room (Nat.le_of_ble_eq_true rfl)) dL_law_528 ⟨by show _ ≤ 601024; omega, by show _ ≤ 7293034; omega⟩) (fun r9 hr9 => ?_)
  refine lv_iload hx hb dL_law_531 (lv_at hl 1 rfl) ?_
  refine lv_icmp_eq (tgt := 538) hx hb dL_law_533 (by decide) (fun c9 => ?_) (fun c9 => absurd (hr9.trans e1) c9)
  refine lv_iload hx hb dL_law_538 (lv_at hl 1 rfl) ?_
  refine lv_if_ne (tgt := 555) hx hb dL_law_540 (by decide) (fun c8 => ?_) (fun c8 => ?_)
  · refine lv_goto (tgt := 1176) hx hb dL_law_555 (by decide) ?_
    exact kk v1 g1 y1 z1 fo1 _ _ _ e3 hP hD hS (lv_sub hl [2, 3, 4, 5, 6] rfl)
  · refine lv_aload_n hx hb dL_law_543 rfl (lv_at hl 5 rfl) ?_
    refine lv_iconst (v := 0) hx hb dL_law_544 (by decide) ?_
    refine va_lald hx hb hK hP 0 2 rfl rfl (vp_in_nI (n := 0) (N := 1) (by decide) (by decide)) dL_law_545 ?_
    refine lv_iload hx hb dL_law_546 (lv_at hl 0 rfl) ?_
    refine lv_i2l (v := b2.toInt64) hx hb dL_law_548 rfl ?_
    refine W.lcmp hx hb dL_law_549 ?_
    refine lv_if_eq (tgt := 555) hx hb dL_law_550 (by decide) (fun c7 => ?_) (fun c7 => absurd (lw_eq (show fo1 (0 : Int32).toNatClampNeg = b2.toInt64 from e2 c8)) c7)
    refine lv_goto (tgt := 1176) hx hb dL_law_555 (by decide) ?_
    exact kk v1 g1 y1 z1 fo1 _ _ _ e3 hP hD hS (lv_sub hl [2, 3, 4, 5, 6] rfl)
set_option maxHeartbeats 4000000 in
set_option maxRecDepth 100000 in
theorem law_share {p : Program} {l : Launch} {e : Env} {s : State} {m : MethodId} {below : List Frame} {meth : Method} {c : Code} {Q : State → Prop} {c0 : Cond} {b L : Nat} {xs : Nat → Int32} {dC : Nat → ClassId} {dI : Nat → Nat → Nat} {cI cZ cJ : ClassId} {a am : Nat → Nat} {o : Nat} {tx : Nat → Nat}
    (hl9 : l.stackTraces = false) (hx : p.tables.exec = Jvm.exec) (hb : c.code = code) (hml : c.maxLocals = 7) (hown : s.vm.findClass RL = some m.cls) (hts : ∀ w ∈ c0 :: allW, w.before #[Value.ref b] s = true) (hX : va_X b L xs s s.heap) (hbl : b < s.heap.size) (hK : va_K (dC, dI) clA (tyA cI cZ cJ) s) (hZ : ZX tx (fun q : Nat => s.heap.size ≤ q) s s.heap) (hC : ZC s)
    {i cells slots : Nat} (hi : i + 7 ≤ L) (hL : L ≤ 3584) (hce : cells + 7 ≤ 601024) (hsl : slots + 42 ≤ 7293034) {v : Nat → Int32} {g : Nat → Nat → Int32} {y : Nat → Int32} {z : Nat → Nat → Int32} {fo : Nat → Int64} {H : Heap} {locs : List Loc} {ls : Array Slot} (hR : Rel v g y z) (hP : va_P (dC, dI) clA (wW cI cZ cJ o fo a v g am y z) H) (hD : va_D (fun q : Nat => s.heap.size ≤ q) (wW cI cZ cJ o fo a v g am y z)) (hS : va_S (fun q : Nat => s.heap.size ≤ q) s.heap H locs) (hl : lv_has ls 7 [(0, .ref b), (1, .ref (a 0)), (2, .ref (am 0)), (3, .ref o), (4, .int (nI i))])
    (kk : ∀ (v1 : Nat → Int32) (g1 : Nat → Nat → Int32) (y1 : Nat → Int32) (z1 : Nat → Nat → Int32) (fo1 : Nat → Int64) (H1 : Heap) (locs1 : List Loc) (ls1 : Array Slot), Rel v1 g1 y1 z1 → va_P (dC, dI) clA (wW cI cZ cJ o fo1 a v1 g1 am y1 z1) H1 → va_D (fun q : Nat => s.heap.size ≤ q) (wW cI cZ cJ o fo1 a v1 g1 am y1 z1) → va_S (fun q : Nat => s.heap.size ≤ q) s.heap H1 locs1 → lv_has ls1 7 [(0, .ref b), (1, .ref (a 0)), (2, .ref (am 0)), (3, .ref o), (4, .int (nI i))] → W p l e room_1 s m #[Value.ref b] below meth c H1 locs1 (cells + 7) (slots + 42) Q (F0 m 1176 ls1 [])) :
    W p l e room_1 s m #[Value.ref b] below meth c H locs cells slots Q (F0 m 558 ls []) := by
  obtain ⟨n, nd, f0, t0, hRl⟩ := hR
  have hn : v 5 = nI n := hRl.1.2.1
  have hn2 : n ≤ 200 := hRl.1.1
  have hy : y 1 = nI n := hRl.1.2.2
  have hnd : v 4 = nI nd := hRl.2.1.2.1
  have hnd2 : nd ≤ 6 := hRl.2.1.1
  have hyd : y 2 = nI nd := hRl.2.1.2.2
  refine lv_aload_n hx hb dL_law_558 rfl (lv_at hl 1 rfl) ?_
  refine lv_aload_n hx hb dL_law_559 rfl (lv_at hl 0 rfl) ?_
  refine lv_iload hx hb dL_law_560 (lv_at hl 4 rfl) ?_
  refine lv_iconst (v := 1) hx hb dL_law_562 (by decide) ?_
  refine lv_iadd hx hb dL_law_563 ?_
  refine lw_sld hx hb hX hbl hS (k := 1) rfl (by omega) hL dL_law_564 ?_
  refine lv_aload_n hx hb dL_law_565 rfl (lv_at hl 3 rfl) ?_
  have hPc := hP.sub (ws' := wL cI cZ cJ o fo a v g) [0, 1, 2, 3, 4, 5, 6, 7, 8, 9, 10, 11, 12, 13, 14, 15, 16, 17, 18, 19, 20] rfl
  have hDc := hD.sub (ws' := wL cI cZ cJ o fo a v g) [0, 1, 2, 3, 4, 5, 6, 7, 8, 9, 10, 11, 12, 13, 14, 15, 16, 17, 18, 19, 20] (by decide) rfl
  have hFc := va_free (wc := wL cI cZ cJ o fo a v g) hD hS (fun _ h => h) [0, 1, 2, 3, 4, 5, 6, 7, 8, 9, 10, 11, 12, 13, 14, 15, 16, 17, 18, 19, 20] rfl
  refine va_calli (vx_runSW (As := [.ref (a 0), .int (xs (i + 1)), .ref o]) (rest := []) ⟨hx, hb, hml, hown, hts⟩ (w_share l hl9 dC dI cI cZ cJ a tx v g o fo H.size n hn hn2 nd hnd hnd2 (xs (i + 1))) (vx_cwSW 3 hts (gd_SW ml_L_L_share sm_L_share in_L kL_share) rfl rfl rfl (by decide +kernel) ⟨Nat.le_of_ble_eq_true rfl, Nat.le_of_ble_eq_true rfl⟩) ⟨fun _ U g mk q => by obtain ⟨q0, q1, qP, qK, qD, qZ, qC⟩ := q; exact ⟨q0, q1, qP, va_K.moved (u := U) (U := U.calling g mk _) (Vm.Alike.refl U.vm) qK, qD, ZX.calling qZ, ZC.moved (u := U) (U := U.calling g mk _) (Vm.Alike.refl U.vm) qC⟩, fun U hU hW => ⟨rfl, by rw [hU], by rw [hU]; exact hPc, va_K.moved hW.alike hK, hDc.weaken (fun _ _ _ _ => trivial), ZX.call hZ hS hFc hW hU, ZC.moved hW.alike hC⟩⟩ rfl rfl hl.1 rfl (lv_room (Nat.le_of_ble_eq_true rfl)) dL_law_566 ⟨by show _ ≤ 601024; omega, by show _ ≤ 7293034; omega⟩) hS (fun q _ h => hFc q h) hFc (fun r1 u1 t1 H1 locs1 ht1 hvm1 hw hB hz1 hk1 hS => ?_)
  obtain ⟨⟨v1, g1⟩, fo1⟩ := u1
  obtain ⟨hP1, hK1, hD1⟩ := hB
  rw [ht1] at hP1
  obtain ⟨hPj, hDj⟩ := va_join (wr := wM cI cZ am y z) (w1 := wL cI cZ cJ o fo1 a v1 g1) hP hD [0, 1, 2, 3, 4, 5, 6, 7, 8, 9, 10, 11, 12, 13, 14, 15, 16, 17, 18, 19, 20] [21, 22, 23, 24, 25, 26, 27, 28, 29, 30, 31, 32, 33, 34, 35, 36, 37] rfl rfl (by decide) (by decide) hk1 hFc hP1 hD1
  have hP := hPj.sub (ws' := wW cI cZ cJ o fo1 a v1 g1 am y z) [17, 18, 19, 20, 21, 22, 23, 24, 25, 26, 27, 28, 29, 30, 31, 32, 33, 34, 35, 36, 37, 0, 1, 2, 3, 4, 5, 6, 7, 8, 9, 10, 11, 12, 13, 14, 15, 16] rfl
  have hD := hDj.sub (ws' := wW cI cZ cJ o fo1 a v1 g1 am y z) [17, 18, 19, 20, 21, 22, 23, 24, 25, 26, 27, 28, 29, 30, 31, 32, 33, 34, 35, 36, 37, 0, 1, 2, 3, 4, 5, 6, 7, 8, 9, 10, 11, 12, 13, 14, 15, 16] (by decide) rfl
  refine W.widen (k := cells + 7) (n := slots + 42) (by omega) (by omega) ?_
  refine lv_istore (lv' := [(5, .int r1), (0, .ref b), (1, .ref (a 0)), (2, .ref (am 0)), (3, .ref o), (4, .int (nI i))]) hx hb dL_law_569 hl (by decide) rfl (fun ls hl => ?_)
  refine lv_aload_n hx hb dL_law_571 rfl (lv_at hl 3 rfl) ?_
  refine lv_aload_n hx hb dL_law_572 rfl (lv_at hl 1 rfl) ?_
  refine lv_iload hx hb dL_law_573 (lv_at hl 5 rfl) ?_
  refine lv_iconst (v := 1) hx hb dL_law_575 (by decide) ?_
  refine lv_iadd hx hb dL_law_576 ?_
  refine lw_sld hx hb hX hbl hS (k := 1) rfl (by omega) hL dL_law_577 ?_
  have hPm := hP.sub (ws' := wM cI cZ am y z) [21, 22, 23, 24, 25, 26, 27, 28, 29, 30, 31, 32, 33, 34, 35, 36, 37] rfl
  have hDm := hD.sub (ws' := wM cI cZ am y z) [21, 22, 23, 24, 25, 26, 27, 28, 29, 30, 31, 32, 33, 34, 35, 36, 37] (by decide) rfl
  have hFm := va_free (wc := wM cI cZ am y z) hD hS (fun _ h => h) [21, 22, 23, 24, 25, 26, 27, 28, 29, 30, 31, 32, 33, 34, 35, 36, 37] rfl
  refine va_calli (va_runV (As := [.int (xs (i + 1))]) (rest := []) ⟨hx, hb, hml, hown, hts⟩ (m_share l dC dI cI cZ cJ am y z H1.size n hy hn2 nd hyd hnd2 (xs (i + 1))) (cwV 1 hts (gd_V ml_L_X5_share im_X5_share se_X5_share in_X5 kX5_share) rfl rfl rfl (by decide +kernel) ⟨Nat.le_of_ble_eq_true rfl, Nat.le_of_ble_eq_true rfl⟩) ⟨fun _ U g mk q => by obtain ⟨q0, q1, qP, qK, qD⟩ := q; exact ⟨q0, q1, qP, va_K.moved (u := U) (U := U.calling g mk _) (Vm.Alike.refl U.vm) qK, qD⟩, va_recv hK hPm (ci := 5) (q0 := 0) rfl rfl, fun U hU hW => ⟨rfl, by rw [hU], by rw [hU]; exact hPm, va_K.moved hW.alike hK, hDm.weaken (fun _ _ _ _ => trivial)⟩⟩ rfl rfl hl.1 rfl (lv_room (Nat.le_of_ble_eq_true rfl)) dL_law_578 ⟨by show _ ≤ 601024; omega, by show _ ≤ 7293034; omega⟩) hS (fun q _ h => hFm q h) hFm (fun b2 u2 t2 H2 locs2 ht2 hvm2 hm hB2 hz2 hk2 hS => ?_)
  obtain ⟨y1, z1⟩ := u2
  obtain ⟨hP2, hK2, hD2⟩ := hB2
  rw [ht2] at hP2
  obtain ⟨hPj, hDj⟩ := va_join (wr := wL cI cZ cJ o fo1 a v1 g1) (w1 := wM cI cZ am y1 z1) hP hD [21, 22, 23, 24, 25, 26, 27, 28, 29, 30, 31, 32, 33, 34, 35, 36, 37] [0, 1, 2, 3, 4, 5, 6, 7, 8, 9, 10, 11, 12, 13, 14, 15, 16, 17, 18, 19, 20] rfl rfl (by decide) (by decide) hk2 hFm hP2 hD2
  have hP : va_P (dC, dI) clA (wW cI cZ cJ o fo1 a v1 g1 am y1 z1) H2 := hPj
  have hD : va_D (fun q : Nat => s.heap.size ≤ q) (wW cI cZ cJ o fo1 a v1 g1 am y1 z1) := hDj
  refine lv_istore (lv' := [(6, .int b2), (5, .int r1), (0, .ref b), (1, .ref (a 0)), (2, .ref (am 0)), (3, .ref o), (4, .int (nI i))]) hx hb dL_law_581 hl (by decide) rfl (fun ls hl => ?_)
  have st := st_share hRl hw hm
  have e1 : y1 0 = r1 := st.1
  have e2 : r1 = 0 → fo1 0 = b2.toInt64 := st.2.1
  have e3 : Rel v1 g1 y1 z1 := st.2.2
  refine lv_aload_n hx hb dL_law_583 rfl (lv_at hl 4 rfl) ?_
  have hPt := hP.sub (ws' := wM cI cZ am y1 z1) [21, 22, 23, 24, 25, 26, 27, 28, 29, 30, 31, 32, 33, 34, 35, 36, 37] rfl
  refine vp_callSi (W.runV (As := []) (rest := []) ⟨hx, hb, hml, hown, hts⟩ (m_thrown l dC dI cI cZ cJ am y1 z1) (cwV 0 hts (gd_V ml_L_X5_thrown im_X5_thrown se_X5_thrown in_X5 kX5_thrown) rfl rfl rfl (by decide +kernel) ⟨Nat.le_of_ble_eq_true rfl, Nat.le_of_ble_eq_true rfl⟩) ⟨fun _ U g mk q => by obtain ⟨q0, qP, qK⟩ := q; exact ⟨q0, qP, va_K.moved (u := U) (U := U.calling g mk _) (Vm.Alike.refl U.vm) qK⟩, va_recv hK hPt (ci := 5) (q0 := 0) rfl rfl, fun U hU hW => ⟨rfl, by rw [hU]; exact hPt, va_K.moved hW.alike hK⟩⟩ rfl rfl hl.1 rfl (lv_room (Nat.le_of_ble_eq_true rfl)) dL_law_584 ⟨by show _ ≤ 601024; omega, by show _ ≤ 7293034; omega⟩) (fun r9 hr9 => ?_)
  refine lv_iload hx hb dL_law_587 (lv_at hl 1 rfl) ?_
  refine lv_icmp_eq (tgt := 594) hx hb dL_law_589 (by decide) (fun c9 => ?_) (fun c9 => absurd (hr9.trans e1) c9)
  refine lv_iload hx hb dL_law_594 (lv_at hl 1 rfl) ?_
  refine lv_if_ne (tgt := 611) hx hb dL_law_596 (by decide) (fun c8 => ?_) (fun c8 => ?_)
  · refine lv_goto (tgt := 1176) hx hb dL_law_611 (by decide) ?_
    exact kk v1 g1 y1 z1 fo1 _ _ _ e3 hP hD hS (lv_sub hl [2, 3, 4, 5, 6] rfl)
  · refine lv_aload_n hx hb dL_law_599 rfl (lv_at hl 5 rfl) ?_
    refine lv_iconst (v := 0) hx hb dL_law_600 (by decide) ?_
    refine va_lald hx hb hK hP 0 2 rfl rfl (vp_in_nI (n := 0) (N := 1) (by decide) (by decide)) dL_law_601 ?_
    refine lv_iload hx hb dL_law_602 (lv_at hl 0 rfl) ?_
    refine lv_i2l (v := b2.toInt64) hx hb dL_law_604 rfl ?_
    refine W.lcmp hx hb dL_law_605 ?_
    refine lv_if_eq (tgt := 611) hx hb dL_law_606 (by decide) (fun c7 => ?_) (fun c7 => absurd (lw_eq (show fo1 (0 : Int32).toNatClampNeg = b2.toInt64 from e2 c8)) c7)
    refine lv_goto (tgt := 1176) hx hb dL_law_611 (by decide) ?_
    exact kk v1 g1 y1 z1 fo1 _ _ _ e3 hP hD hS (lv_sub hl [2, 3, 4, 5, 6] rfl)
set_option maxHeartbeats 4000000 in
set_option maxRecDepth 100000 in
theorem law_placed {p : Program} {l : Launch} {e : Env} {s : State} {m : MethodId} {below : List Frame} {meth : Method} {c : Code} {Q : State → Prop} {c0 : Cond} {b L : Nat} {xs : Nat → Int32} {dC : Nat → ClassId} {dI : Nat → Nat → Nat} {cI cZ cJ : ClassId} {a am : Nat → Nat} {o : Nat} {tx : Nat → Nat}
    (hl9 : l.stackTraces = false) (hx : p.tables.exec = Jvm.exec) (hb : c.code = code) (hml : c.maxLocals = 7) (hown : s.vm.findClass RL = some m.cls) (hts : ∀ w ∈ c0 :: allW, w.before #[Value.ref b] s = true) (hX : va_X b L xs s s.heap) (hbl : b < s.heap.size) (hK : va_K (dC, dI) clA (tyA cI cZ cJ) s) (hZ : ZX tx (fun q : Nat => s.heap.size ≤ q) s s.heap) (hC : ZC s)
    {i cells slots : Nat} (hi : i + 7 ≤ L) (hL : L ≤ 3584) (hce : cells + 7 ≤ 601024) (hsl : slots + 42 ≤ 7293034) {v : Nat → Int32} {g : Nat → Nat → Int32} {y : Nat → Int32} {z : Nat → Nat → Int32} {fo : Nat → Int64} {H : Heap} {locs : List Loc} {ls : Array Slot} (hR : Rel v g y z) (hP : va_P (dC, dI) clA (wW cI cZ cJ o fo a v g am y z) H) (hD : va_D (fun q : Nat => s.heap.size ≤ q) (wW cI cZ cJ o fo a v g am y z)) (hS : va_S (fun q : Nat => s.heap.size ≤ q) s.heap H locs) (hl : lv_has ls 7 [(0, .ref b), (1, .ref (a 0)), (2, .ref (am 0)), (3, .ref o), (4, .int (nI i))])
    (kk : ∀ (v1 : Nat → Int32) (g1 : Nat → Nat → Int32) (y1 : Nat → Int32) (z1 : Nat → Nat → Int32) (fo1 : Nat → Int64) (H1 : Heap) (locs1 : List Loc) (ls1 : Array Slot), Rel v1 g1 y1 z1 → va_P (dC, dI) clA (wW cI cZ cJ o fo1 a v1 g1 am y1 z1) H1 → va_D (fun q : Nat => s.heap.size ≤ q) (wW cI cZ cJ o fo1 a v1 g1 am y1 z1) → va_S (fun q : Nat => s.heap.size ≤ q) s.heap H1 locs1 → lv_has ls1 7 [(0, .ref b), (1, .ref (a 0)), (2, .ref (am 0)), (3, .ref o), (4, .int (nI i))] → W p l e room_1 s m #[Value.ref b] below meth c H1 locs1 (cells + 7) (slots + 42) Q (F0 m 1176 ls1 [])) :
    W p l e room_1 s m #[Value.ref b] below meth c H locs cells slots Q (F0 m 614 ls []) := by
  obtain ⟨n, nd, f0, t0, hRl⟩ := hR
  have hn : v 5 = nI n := hRl.1.2.1
  have hn2 : n ≤ 200 := hRl.1.1
  have hy : y 1 = nI n := hRl.1.2.2
  have hnd : v 4 = nI nd := hRl.2.1.2.1
  have hnd2 : nd ≤ 6 := hRl.2.1.1
  have hyd : y 2 = nI nd := hRl.2.1.2.2
  refine lv_aload_n hx hb dL_law_614 rfl (lv_at hl 1 rfl) ?_
  refine lv_aload_n hx hb dL_law_615 rfl (lv_at hl 0 rfl) ?_
  refine lv_iload hx hb dL_law_616 (lv_at hl 4 rfl) ?_
  refine lv_iconst (v := 1) hx hb dL_law_618 (by decide) ?_
  refine lv_iadd hx hb dL_law_619 ?_
  refine lw_sld hx hb hX hbl hS (k := 1) rfl (by omega) hL dL_law_620 ?_
  refine lv_aload_n hx hb dL_law_621 rfl (lv_at hl 3 rfl) ?_
  have hPc := hP.sub (ws' := wL cI cZ cJ o fo a v g) [0, 1, 2, 3, 4, 5, 6, 7, 8, 9, 10, 11, 12, 13, 14, 15, 16, 17, 18, 19, 20] rfl
  have hDc := hD.sub (ws' := wL cI cZ cJ o fo a v g) [0, 1, 2, 3, 4, 5, 6, 7, 8, 9, 10, 11, 12, 13, 14, 15, 16, 17, 18, 19, 20] (by decide) rfl
  have hFc := va_free (wc := wL cI cZ cJ o fo a v g) hD hS (fun _ h => h) [0, 1, 2, 3, 4, 5, 6, 7, 8, 9, 10, 11, 12, 13, 14, 15, 16, 17, 18, 19, 20] rfl
  refine va_calli (vx_runSW (As := [.ref (a 0), .int (xs (i + 1)), .ref o]) (rest := []) ⟨hx, hb, hml, hown, hts⟩ (w_placed l hl9 dC dI cI cZ cJ a tx v g o fo H.size n hn hn2 (xs (i + 1))) (vx_cwSW 3 hts (gd_SW ml_L_L_placed sm_L_placed in_L kL_placed) rfl rfl rfl (by decide +kernel) ⟨Nat.le_of_ble_eq_true rfl, Nat.le_of_ble_eq_true rfl⟩) ⟨fun _ U g mk q => by obtain ⟨q0, q1, qP, qK, qD, qZ, qC⟩ := q; exact ⟨q0, q1, qP, va_K.moved (u := U) (U := U.calling g mk _) (Vm.Alike.refl U.vm) qK, qD, ZX.calling qZ, ZC.moved (u := U) (U := U.calling g mk _) (Vm.Alike.refl U.vm) qC⟩, fun U hU hW => ⟨rfl, by rw [hU], by rw [hU]; exact hPc, va_K.moved hW.alike hK, hDc.weaken (fun _ _ _ _ => trivial), ZX.call hZ hS hFc hW hU, ZC.moved hW.alike hC⟩⟩ rfl rfl hl.1 rfl (lv_room (Nat.le_of_ble_eq_true rfl)) dL_law_622 ⟨by show _ ≤ 601024; omega, by show _ ≤ 7293034; omega⟩) hS (fun q _ h => hFc q h) hFc (fun r1 u1 t1 H1 locs1 ht1 hvm1 hw hB hz1 hk1 hS => ?_)
  obtain ⟨⟨v1, g1⟩, fo1⟩ := u1
  obtain ⟨hP1, hK1, hD1⟩ := hB
  rw [ht1] at hP1
  obtain ⟨hPj, hDj⟩ := va_join (wr := wM cI cZ am y z) (w1 := wL cI cZ cJ o fo1 a v1 g1) hP hD [0, 1, 2, 3, 4, 5, 6, 7, 8, 9, 10, 11, 12, 13, 14, 15, 16, 17, 18, 19, 20] [21, 22, 23, 24, 25, 26, 27, 28, 29, 30, 31, 32, 33, 34, 35, 36, 37] rfl rfl (by decide) (by decide) hk1 hFc hP1 hD1
  have hP := hPj.sub (ws' := wW cI cZ cJ o fo1 a v1 g1 am y z) [17, 18, 19, 20, 21, 22, 23, 24, 25, 26, 27, 28, 29, 30, 31, 32, 33, 34, 35, 36, 37, 0, 1, 2, 3, 4, 5, 6, 7, 8, 9, 10, 11, 12, 13, 14, 15, 16] rfl
  have hD := hDj.sub (ws' := wW cI cZ cJ o fo1 a v1 g1 am y z) [17, 18, 19, 20, 21, 22, 23, 24, 25, 26, 27, 28, 29, 30, 31, 32, 33, 34, 35, 36, 37, 0, 1, 2, 3, 4, 5, 6, 7, 8, 9, 10, 11, 12, 13, 14, 15, 16] (by decide) rfl
  refine W.widen (k := cells + 7) (n := slots + 42) (by omega) (by omega) ?_
  refine lv_istore (lv' := [(5, .int r1), (0, .ref b), (1, .ref (a 0)), (2, .ref (am 0)), (3, .ref o), (4, .int (nI i))]) hx hb dL_law_625 hl (by decide) rfl (fun ls hl => ?_)
  refine lv_aload_n hx hb dL_law_627 rfl (lv_at hl 3 rfl) ?_
  refine lv_aload_n hx hb dL_law_628 rfl (lv_at hl 1 rfl) ?_
  refine lv_iload hx hb dL_law_629 (lv_at hl 5 rfl) ?_
  refine lv_iconst (v := 1) hx hb dL_law_631 (by decide) ?_
  refine lv_iadd hx hb dL_law_632 ?_
  refine lw_sld hx hb hX hbl hS (k := 1) rfl (by omega) hL dL_law_633 ?_
  have hPm := hP.sub (ws' := wM cI cZ am y z) [21, 22, 23, 24, 25, 26, 27, 28, 29, 30, 31, 32, 33, 34, 35, 36, 37] rfl
  have hDm := hD.sub (ws' := wM cI cZ am y z) [21, 22, 23, 24, 25, 26, 27, 28, 29, 30, 31, 32, 33, 34, 35, 36, 37] (by decide) rfl
  have hFm := va_free (wc := wM cI cZ am y z) hD hS (fun _ h => h) [21, 22, 23, 24, 25, 26, 27, 28, 29, 30, 31, 32, 33, 34, 35, 36, 37] rfl
  refine va_calli (va_runV (As := [.int (xs (i + 1))]) (rest := []) ⟨hx, hb, hml, hown, hts⟩ (m_placed l dC dI cI cZ cJ am y z H1.size n hy hn2 (xs (i + 1))) (cwV 1 hts (gd_V ml_L_X5_placed im_X5_placed se_X5_placed in_X5 kX5_placed) rfl rfl rfl (by decide +kernel) ⟨Nat.le_of_ble_eq_true rfl, Nat.le_of_ble_eq_true rfl⟩) ⟨fun _ U g mk q => by obtain ⟨q0, q1, qP, qK, qD⟩ := q; exact ⟨q0, q1, qP, va_K.moved (u := U) (U := U.calling g mk _) (Vm.Alike.refl U.vm) qK, qD⟩, va_recv hK hPm (ci := 5) (q0 := 0) rfl rfl, fun U hU hW => ⟨rfl, by rw [hU], by rw [hU]; exact hPm, va_K.moved hW.alike hK, hDm.weaken (fun _ _ _ _ => trivial)⟩⟩ rfl rfl hl.1 rfl (lv_room (Nat.le_of_ble_eq_true rfl)) dL_law_634 ⟨by show _ ≤ 601024; omega, by show _ ≤ 7293034; omega⟩) hS (fun q _ h => hFm q h) hFm (fun b2 u2 t2 H2 locs2 ht2 hvm2 hm hB2 hz2 hk2 hS => ?_)
  obtain ⟨y1, z1⟩ := u2
  obtain ⟨hP2, hK2, hD2⟩ := hB2
  rw [ht2] at hP2
  obtain ⟨hPj, hDj⟩ := va_join (wr := wL cI cZ cJ o fo1 a v1 g1) (w1 := wM cI cZ am y1 z1) hP hD [21, 22, 23, 24, 25, 26, 27, 28, 29, 30, 31, 32, 33, 34, 35, 36, 37] [0, 1, 2, 3, 4, 5, 6, 7, 8, 9, 10, 11, 12, 13, 14, 15, 16, 17, 18, 19, 20] rfl rfl (by decide) (by decide) hk2 hFm hP2 hD2
  have hP : va_P (dC, dI) clA (wW cI cZ cJ o fo1 a v1 g1 am y1 z1) H2 := hPj
  have hD : va_D (fun q : Nat => s.heap.size ≤ q) (wW cI cZ cJ o fo1 a v1 g1 am y1 z1) := hDj
  refine lv_istore (lv' := [(6, .int b2), (5, .int r1), (0, .ref b), (1, .ref (a 0)), (2, .ref (am 0)), (3, .ref o), (4, .int (nI i))]) hx hb dL_law_637 hl (by decide) rfl (fun ls hl => ?_)
  have st := st_placed hRl hw hm
  have e1 : y1 0 = r1 := st.1
  have e2 : r1 = 0 → fo1 0 = b2.toInt64 := st.2.1
  have e3 : Rel v1 g1 y1 z1 := st.2.2
  refine lv_aload_n hx hb dL_law_639 rfl (lv_at hl 4 rfl) ?_
  have hPt := hP.sub (ws' := wM cI cZ am y1 z1) [21, 22, 23, 24, 25, 26, 27, 28, 29, 30, 31, 32, 33, 34, 35, 36, 37] rfl
  refine vp_callSi (W.runV (As := []) (rest := []) ⟨hx, hb, hml, hown, hts⟩ (m_thrown l dC dI cI cZ cJ am y1 z1) (cwV 0 hts (gd_V ml_L_X5_thrown im_X5_thrown se_X5_thrown in_X5 kX5_thrown) rfl rfl rfl (by decide +kernel) ⟨Nat.le_of_ble_eq_true rfl, Nat.le_of_ble_eq_true rfl⟩) ⟨fun _ U g mk q => by obtain ⟨q0, qP, qK⟩ := q; exact ⟨q0, qP, va_K.moved (u := U) (U := U.calling g mk _) (Vm.Alike.refl U.vm) qK⟩, va_recv hK hPt (ci := 5) (q0 := 0) rfl rfl, fun U hU hW => ⟨rfl, by rw [hU]; exact hPt, va_K.moved hW.alike hK⟩⟩ rfl rfl hl.1 rfl (lv_room (Nat.le_of_ble_eq_true rfl)) dL_law_640 ⟨by show _ ≤ 601024; omega, by show _ ≤ 7293034; omega⟩) (fun r9 hr9 => ?_)
  refine lv_iload hx hb dL_law_643 (lv_at hl 1 rfl) ?_
  refine lv_icmp_eq (tgt := 650) hx hb dL_law_645 (by decide) (fun c9 => ?_) (fun c9 => absurd (hr9.trans e1) c9)
  refine lv_iload hx hb dL_law_650 (lv_at hl 1 rfl) ?_
  refine lv_if_ne (tgt := 667) hx hb dL_law_652 (by decide) (fun c8 => ?_) (fun c8 => ?_)
  · refine lv_goto (tgt := 1176) hx hb dL_law_667 (by decide) ?_
    exact kk v1 g1 y1 z1 fo1 _ _ _ e3 hP hD hS (lv_sub hl [2, 3, 4, 5, 6] rfl)
  · refine lv_aload_n hx hb dL_law_655 rfl (lv_at hl 5 rfl) ?_
    refine lv_iconst (v := 0) hx hb dL_law_656 (by decide) ?_
    refine va_lald hx hb hK hP 0 2 rfl rfl (vp_in_nI (n := 0) (N := 1) (by decide) (by decide)) dL_law_657 ?_
    refine lv_iload hx hb dL_law_658 (lv_at hl 0 rfl) ?_
    refine lv_i2l (v := b2.toInt64) hx hb dL_law_660 rfl ?_
    refine W.lcmp hx hb dL_law_661 ?_
    refine lv_if_eq (tgt := 667) hx hb dL_law_662 (by decide) (fun c7 => ?_) (fun c7 => absurd (lw_eq (show fo1 (0 : Int32).toNatClampNeg = b2.toInt64 from e2 c8)) c7)
    refine lv_goto (tgt := 1176) hx hb dL_law_667 (by decide) ?_
    exact kk v1 g1 y1 z1 fo1 _ _ _ e3 hP hD hS (lv_sub hl [2, 3, 4, 5, 6] rfl)
set_option maxHeartbeats 4000000 in
set_option maxRecDepth 100000 in
theorem law_splits {p : Program} {l : Launch} {e : Env} {s : State} {m : MethodId} {below : List Frame} {meth : Method} {c : Code} {Q : State → Prop} {c0 : Cond} {b L : Nat} {xs : Nat → Int32} {dC : Nat → ClassId} {dI : Nat → Nat → Nat} {cI cZ cJ : ClassId} {a am : Nat → Nat} {o : Nat} {tx : Nat → Nat}
    (hl9 : l.stackTraces = false) (hx : p.tables.exec = Jvm.exec) (hb : c.code = code) (hml : c.maxLocals = 7) (hown : s.vm.findClass RL = some m.cls) (hts : ∀ w ∈ c0 :: allW, w.before #[Value.ref b] s = true) (hX : va_X b L xs s s.heap) (hbl : b < s.heap.size) (hK : va_K (dC, dI) clA (tyA cI cZ cJ) s) (hZ : ZX tx (fun q : Nat => s.heap.size ≤ q) s s.heap) (hC : ZC s)
    {i cells slots : Nat} (hi : i + 7 ≤ L) (hL : L ≤ 3584) (hce : cells + 7 ≤ 601024) (hsl : slots + 42 ≤ 7293034) {v : Nat → Int32} {g : Nat → Nat → Int32} {y : Nat → Int32} {z : Nat → Nat → Int32} {fo : Nat → Int64} {H : Heap} {locs : List Loc} {ls : Array Slot} (hR : Rel v g y z) (hP : va_P (dC, dI) clA (wW cI cZ cJ o fo a v g am y z) H) (hD : va_D (fun q : Nat => s.heap.size ≤ q) (wW cI cZ cJ o fo a v g am y z)) (hS : va_S (fun q : Nat => s.heap.size ≤ q) s.heap H locs) (hl : lv_has ls 7 [(0, .ref b), (1, .ref (a 0)), (2, .ref (am 0)), (3, .ref o), (4, .int (nI i))])
    (kk : ∀ (v1 : Nat → Int32) (g1 : Nat → Nat → Int32) (y1 : Nat → Int32) (z1 : Nat → Nat → Int32) (fo1 : Nat → Int64) (H1 : Heap) (locs1 : List Loc) (ls1 : Array Slot), Rel v1 g1 y1 z1 → va_P (dC, dI) clA (wW cI cZ cJ o fo1 a v1 g1 am y1 z1) H1 → va_D (fun q : Nat => s.heap.size ≤ q) (wW cI cZ cJ o fo1 a v1 g1 am y1 z1) → va_S (fun q : Nat => s.heap.size ≤ q) s.heap H1 locs1 → lv_has ls1 7 [(0, .ref b), (1, .ref (a 0)), (2, .ref (am 0)), (3, .ref o), (4, .int (nI i))] → W p l e room_1 s m #[Value.ref b] below meth c H1 locs1 (cells + 7) (slots + 42) Q (F0 m 1176 ls1 [])) :
    W p l e room_1 s m #[Value.ref b] below meth c H locs cells slots Q (F0 m 670 ls []) := by
  obtain ⟨n, nd, f0, t0, hRl⟩ := hR
  have hn : v 5 = nI n := hRl.1.2.1
  have hn2 : n ≤ 200 := hRl.1.1
  have hy : y 1 = nI n := hRl.1.2.2
  have hnd : v 4 = nI nd := hRl.2.1.2.1
  have hnd2 : nd ≤ 6 := hRl.2.1.1
  have hyd : y 2 = nI nd := hRl.2.1.2.2
  refine lv_aload_n hx hb dL_law_670 rfl (lv_at hl 1 rfl) ?_
  have hPc := hP.sub (ws' := wA cI cZ a v g) [1, 2, 3, 4, 5, 6, 7, 8, 9, 10, 11, 12, 13, 14, 15, 16, 17, 18, 19, 20] rfl
  have hDc := hD.sub (ws' := wA cI cZ a v g) [1, 2, 3, 4, 5, 6, 7, 8, 9, 10, 11, 12, 13, 14, 15, 16, 17, 18, 19, 20] (by decide) rfl
  have hFc := va_free (wc := wA cI cZ a v g) hD hS (fun _ h => h) [1, 2, 3, 4, 5, 6, 7, 8, 9, 10, 11, 12, 13, 14, 15, 16, 17, 18, 19, 20] rfl
  refine vp_callSi (W.runV (As := []) (rest := []) ⟨hx, hb, hml, hown, hts⟩ (c_splits l dC dI cI cZ cJ a v g nd hnd hnd2) (cwV 0 hts (gd_V ml_L_X4_splits im_X4_splits se_X4_splits in_X4 kX4_splits) rfl rfl rfl (by decide +kernel) ⟨Nat.le_of_ble_eq_true rfl, Nat.le_of_ble_eq_true rfl⟩) ⟨fun _ U g mk q => by obtain ⟨q0, qP, qK⟩ := q; exact ⟨q0, qP, va_K.moved (u := U) (U := U.calling g mk _) (Vm.Alike.refl U.vm) qK⟩, va_recv hK hPc (ci := 4) (q0 := 0) rfl rfl, fun U hU hW => ⟨rfl, by rw [hU]; exact hPc, va_K.moved hW.alike hK⟩⟩ rfl rfl hl.1 rfl (lv_room (Nat.le_of_ble_eq_true rfl)) dL_law_671 ⟨by show _ ≤ 601024; omega, by show _ ≤ 7293034; omega⟩) (fun r1 hr1 => ?_)
  refine lv_aload_n hx hb dL_law_674 rfl (lv_at hl 2 rfl) ?_
  have hPm := hP.sub (ws' := wM cI cZ am y z) [21, 22, 23, 24, 25, 26, 27, 28, 29, 30, 31, 32, 33, 34, 35, 36, 37] rfl
  have hDm := hD.sub (ws' := wM cI cZ am y z) [21, 22, 23, 24, 25, 26, 27, 28, 29, 30, 31, 32, 33, 34, 35, 36, 37] (by decide) rfl
  have hFm := va_free (wc := wM cI cZ am y z) hD hS (fun _ h => h) [21, 22, 23, 24, 25, 26, 27, 28, 29, 30, 31, 32, 33, 34, 35, 36, 37] rfl
  refine va_calli (va_runV (As := []) (rest := [.int r1]) ⟨hx, hb, hml, hown, hts⟩ (m_splits l dC dI cI cZ cJ am y z H.size nd hyd hnd2 f0 t0 hRl.2.2.1.2.1 hRl.2.2.1.2.2.2.1 hRl.2.2.1.2.2.2.2.1 hRl.2.2.1.2.2.2.2.2 ) (cwV 0 hts (gd_V ml_L_X5_splits im_X5_splits se_X5_splits in_X5 kX5_splits) rfl rfl rfl (by decide +kernel) ⟨Nat.le_of_ble_eq_true rfl, Nat.le_of_ble_eq_true rfl⟩) ⟨fun _ U g mk q => by obtain ⟨q0, q1, qP, qK, qD⟩ := q; exact ⟨q0, q1, qP, va_K.moved (u := U) (U := U.calling g mk _) (Vm.Alike.refl U.vm) qK, qD⟩, va_recv hK hPm (ci := 5) (q0 := 0) rfl rfl, fun U hU hW => ⟨rfl, by rw [hU], by rw [hU]; exact hPm, va_K.moved hW.alike hK, hDm.weaken (fun _ _ _ _ => trivial)⟩⟩ rfl rfl hl.1 rfl (lv_room (Nat.le_of_ble_eq_true rfl)) dL_law_675 ⟨by show _ ≤ 601024; omega, by show _ ≤ 7293034; omega⟩) hS (fun q _ h => hFm q h) hFm (fun b2 u2 t2 H2 locs2 ht2 hvm2 hm hB2 hz2 hk2 hS => ?_)
  obtain ⟨y1, z1⟩ := u2
  obtain ⟨hP2, hK2, hD2⟩ := hB2
  rw [ht2] at hP2
  obtain ⟨hPj, hDj⟩ := va_join (wr := wL cI cZ cJ o fo a v g) (w1 := wM cI cZ am y1 z1) hP hD [21, 22, 23, 24, 25, 26, 27, 28, 29, 30, 31, 32, 33, 34, 35, 36, 37] [0, 1, 2, 3, 4, 5, 6, 7, 8, 9, 10, 11, 12, 13, 14, 15, 16, 17, 18, 19, 20] rfl rfl (by decide) (by decide) hk2 hFm hP2 hD2
  have hP : va_P (dC, dI) clA (wW cI cZ cJ o fo a v g am y1 z1) H2 := hPj
  have hD : va_D (fun q : Nat => s.heap.size ≤ q) (wW cI cZ cJ o fo a v g am y1 z1) := hDj
  refine W.widen (k := cells + 7) (n := slots + 42) (by omega) (by omega) ?_
  obtain ⟨m1, m2⟩ := hm
  cases m2
  have e1 : r1 = b2 := by rw [hr1, m1]; exact st_splits hRl
  have e3 : Rel v g (upd y 0 0) z := ⟨n, nd, f0, t0, Rl_y0 hRl⟩
  refine lv_icmp_eq (tgt := 1176) hx hb dL_law_678 (by decide) (fun c9 => ?_) (fun c9 => absurd e1 c9)
  exact kk v g _ _ fo _ _ _ e3 hP hD hS (lv_sub hl [0, 1, 2, 3, 4] rfl)
