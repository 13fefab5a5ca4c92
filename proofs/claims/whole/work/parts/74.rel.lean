/-! the calls that read -/
theorem w_nI {w : Int32} {k : Nat} (hk : k < 2 ^ 31) (h : inU w (nI k)) : ∃ j, j < k ∧ w = nI j := inU_n hk h
theorem st_count {n nd f0 t0 : Nat} {v : Nat → Int32} {g : Nat → Nat → Int32} {y : Nat → Int32} {z : Nat → Nat → Int32} (h : Rl n nd f0 t0 v g y z) {fo : Nat → Int64} {w r b : Int32} {u : StA × (Nat → Int64)} {u2 : StA}
    (h1 : (r = 0 ∧ (inU w 5) ∧ u = ((v, g), vp_updL fo 0 (totI g n nd w (v 0) (v 1) (v 2) (v 3)).toInt64)) ∨ (trc r (¬ inU w 5) (False) (False) ∧ u = ((v, g), fo)))
    (h2 : b = (if 0 < thI (bI (!(inB w 0 4))) 0 0 then 0 else isum (fun i => if fitB z i (y 3) (y 4) (y 5) (y 6) = true then cM z nd w i else 0) n) ∧ u2 = (upd y 0 (thI (bI (!(inB w 0 4))) 0 0), z)) :
    u2.1 0 = r ∧ (r = 0 → u.2 0 = b.toInt64) ∧ Rel u.1.1 u.1.2 u2.1 u2.2 := by
  have c1 := nB (inU_B (x := w) (y := 5) (k := 4) (by decide))
  obtain ⟨hb, rfl⟩ := h2
  have h0 := h
  obtain ⟨-, ⟨hnd, -, -⟩, ⟨q1, q2, q3, q4, -, -⟩, ⟨q5, q6, k1, k2⟩, -, -, i7, i8⟩ := h0
  rcases h1 with ⟨rfl, a1, rfl⟩ | ⟨ht, rfl⟩
  · have tz := th_0 (b_f c1 (by simp [a1])) (b2 := false) rfl (b3 := false) rfl
    rw [bI_f] at tz
    rw [tz, if_neg (by decide)] at hb
    refine ⟨by simp [upd, tz], fun _ => ?_, n, nd, f0, t0, Rl_y0 h⟩
    dsimp only
    obtain ⟨j, hj, rfl⟩ := inU_n (m := 5) (by decide) a1
    rw [upL_0, hb, rel_count hnd i7 i8 hj k1 k2, q1, q3, q2, q4, q5, q6]
  · have tt := trc_th _ false false ht c1 (fun _ => fB) fB
    rw [bI_f] at tt
    obtain ⟨e1, e2, e3⟩ := tt
    exact ⟨by simp [upd, e1], fun c => absurd c e3, n, nd, f0, t0, Rl_y0 h⟩
theorem st_hour {n nd f0 t0 : Nat} {v : Nat → Int32} {g : Nat → Nat → Int32} {y : Nat → Int32} {z : Nat → Nat → Int32} (h : Rl n nd f0 t0 v g y z) {fo : Nat → Int64} {ho r b : Int32} {u : StA × (Nat → Int64)} {u2 : StA}
    (h1 : (r = 0 ∧ (inR ho 0 23) ∧ u = ((v, g), vp_updL fo 0 (cnt (fun i => askB g i (v 0) (v 1) (v 2) (v 3) && decide (g 4 i = ho)) n).toInt64)) ∨ (trc r (¬ inR ho 0 23) (False) (False) ∧ u = ((v, g), fo)))
    (h2 : b = (if 0 < thI (bI (!(inB ho 0 23))) 0 0 then 0 else cnt (fun i => fitB z i (y 3) (y 4) (y 5) (y 6) && decide (z 1 i = ho)) n) ∧ u2 = (upd y 0 (thI (bI (!(inB ho 0 23))) 0 0), z)) :
    u2.1 0 = r ∧ (r = 0 → u.2 0 = b.toInt64) ∧ Rel u.1.1 u.1.2 u2.1 u2.2 := by
  have c1 := nB (inR_B (x := ho) (y := 0) (k := 23))
  obtain ⟨hb, rfl⟩ := h2
  have h0 := h
  obtain ⟨-, ⟨hnd, -, -⟩, ⟨q1, q2, q3, q4, -, -⟩, ⟨q5, q6, k1, k2⟩, -, -, i7, i8⟩ := h0
  rcases h1 with ⟨rfl, a1, rfl⟩ | ⟨ht, rfl⟩
  · have tz := th_0 (b_f c1 (by simp [a1])) (b2 := false) rfl (b3 := false) rfl
    rw [bI_f] at tz
    rw [tz, if_neg (by decide)] at hb
    refine ⟨by simp [upd, tz], fun _ => ?_, n, nd, f0, t0, Rl_y0 h⟩
    dsimp only
    rw [upL_0, hb, rel_hour i8 k1 k2, q1, q3, q2, q4, q5, q6]
  · have tt := trc_th _ false false ht c1 (fun _ => fB) fB
    rw [bI_f] at tt
    obtain ⟨e1, e2, e3⟩ := tt
    exact ⟨by simp [upd, e1], fun c => absurd c e3, n, nd, f0, t0, Rl_y0 h⟩
theorem cnt_pos {P : Nat → Bool} {n : Nat} (hn : n ≤ 200) : 0 < cnt P n ↔ ¬ cnt P n = 0 := by
  have h := cntN_le P n
  rw [cnt_nI, show (0 : Int32) = nI 0 from rfl, nI_ltI (by decide) (by omega), nI_eq (by omega) (by decide)]
  omega
theorem st_share {n nd f0 t0 : Nat} {v : Nat → Int32} {g : Nat → Nat → Int32} {y : Nat → Int32} {z : Nat → Nat → Int32} (h : Rl n nd f0 t0 v g y z) {fo : Nat → Int64} {w r b : Int32} {u : StA × (Nat → Int64)} {u2 : StA}
    (h1 : (r = 0 ∧ (inU w 2 ∧ 0 < totI g n nd 0 (v 0) (v 1) (v 2) (v 3) - totI g n nd 3 (v 0) (v 1) (v 2) (v 3)) ∧ u = ((v, g), vp_updL fo 0 (lowT (if w = 0 then totI g n nd 2 (v 0) (v 1) (v 2) (v 3) else totI g n nd 0 (v 0) (v 1) (v 2) (v 3) - totI g n nd 3 (v 0) (v 1) (v 2) (v 3)) (totI g n nd 2 (v 0) (v 1) (v 2) (v 3)) (totI g n nd 0 (v 0) (v 1) (v 2) (v 3) - totI g n nd 3 (v 0) (v 1) (v 2) (v 3))).toInt64)) ∨ (trc r (¬ inU w 2) (¬ 0 < totI g n nd 0 (v 0) (v 1) (v 2) (v 3) - totI g n nd 3 (v 0) (v 1) (v 2) (v 3)) (False) ∧ u = ((v, g), fo)))
    (h2 : b = (if 0 < thI (bI (!(inB w 0 1))) (bI (decide (cnt (fun i => shM z nd (y 3) (y 4) (y 5) (y 6) 1 i) n = 0))) 0 then 0 else (if w = 0 then cnt (fun i => shM z nd (y 3) (y 4) (y 5) (y 6) 0 i) n else cnt (fun i => shM z nd (y 3) (y 4) (y 5) (y 6) 1 i) n) / nI (Nat.gcd (cntN (fun i => shM z nd (y 3) (y 4) (y 5) (y 6) 0 i) n) (cntN (fun i => shM z nd (y 3) (y 4) (y 5) (y 6) 1 i) n))) ∧ u2 = (upd y 0 (thI (bI (!(inB w 0 1))) (bI (decide (cnt (fun i => shM z nd (y 3) (y 4) (y 5) (y 6) 1 i) n = 0))) 0), z)) :
    u2.1 0 = r ∧ (r = 0 → u.2 0 = b.toInt64) ∧ Rel u.1.1 u.1.2 u2.1 u2.2 := by
  have c1 := nB (inU_B (x := w) (y := 2) (k := 1) (by decide))
  obtain ⟨hb, rfl⟩ := h2
  have h0 := h
  obtain ⟨⟨hn, -, -⟩, ⟨hnd, -, -⟩, ⟨q1, q2, q3, q4, -, -⟩, ⟨q5, q6, k1, k2⟩, -, -, i7, i8⟩ := h0
  rw [rel_told hnd i7 i8 k1 k2, rel_within hnd i7 i8 k1 k2, q1, q3, q5, q6] at h1
  rw [q2, q4] at hb ⊢
  have c2 : ¬ 0 < cnt (fun i => shM z nd (nI f0) (nI t0) (y 5) (y 6) 1 i) n ↔ decide (cnt (fun i => shM z nd (nI f0) (nI t0) (y 5) (y 6) 1 i) n = 0) = true := by
    rw [cnt_pos hn, decide_eq_true_iff]; exact Classical.not_not
  rcases h1 with ⟨rfl, ⟨a1, a2⟩, rfl⟩ | ⟨ht, rfl⟩
  · have tz := th_0 (b_f c1 (by simp [a1])) (b_f c2 (by simp [a2])) (b3 := false) rfl
    rw [bI_f] at tz
    rw [tz, if_neg (by decide)] at hb
    refine ⟨by simp [upd, tz], fun _ => ?_, n, nd, f0, t0, Rl_y0 h⟩
    dsimp only
    have l1 := cntN_le (fun i => shM z nd (nI f0) (nI t0) (y 5) (y 6) 0 i) n
    have l2 := cntN_le (fun i => shM z nd (nI f0) (nI t0) (y 5) (y 6) 1 i) n
    have p2 : 0 < cntN (fun i => shM z nd (nI f0) (nI t0) (y 5) (y 6) 1 i) n := by
      rw [cnt_nI, show (0 : Int32) = nI 0 from rfl, nI_ltI (by decide) (by omega)] at a2
      exact a2
    rw [upL_0, hb]
    rw [cnt_nI (fun i => shM z nd (nI f0) (nI t0) (y 5) (y 6) 0 i), cnt_nI (fun i => shM z nd (nI f0) (nI t0) (y 5) (y 6) 1 i), lowT_N (by omega) (by omega) p2]
  · have tt := trc_th _ _ false ht c1 (fun _ => c2) fB
    rw [bI_f] at tt
    obtain ⟨e1, e2, e3⟩ := tt
    exact ⟨by simp [upd, e1], fun c => absurd c e3, n, nd, f0, t0, Rl_y0 h⟩
theorem st_rank {n nd f0 t0 : Nat} {v : Nat → Int32} {g : Nat → Nat → Int32} {y : Nat → Int32} {z : Nat → Nat → Int32} (h : Rl n nd f0 t0 v g y z) {fo : Nat → Int64} {ar r b : Int32} {u : StA × (Nat → Int64)} {u2 : StA}
    (h1 : (r = 0 ∧ (inU ar 10) ∧ u = ((v, g), vp_updL fo 0 (1 + rkI g v n ar n10).toInt64)) ∨ (trc r (¬ inU ar 10) (False) (False) ∧ u = ((v, g), fo)))
    (h2 : b = (if 0 < thI (bI (!(inB ar 0 9))) 0 0 then 0 else 1 + rkM z y n ar n10) ∧ u2 = (upd y 0 (thI (bI (!(inB ar 0 9))) 0 0), z)) :
    u2.1 0 = r ∧ (r = 0 → u.2 0 = b.toInt64) ∧ Rel u.1.1 u.1.2 u2.1 u2.2 := by
  have c1 := nB (inU_B (x := ar) (y := 10) (k := 9) (by decide))
  obtain ⟨hb, rfl⟩ := h2
  have h0 := h
  obtain ⟨-, ⟨hnd, -, -⟩, ⟨q1, q2, q3, q4, -, -⟩, ⟨q5, q6, k1, k2⟩, -, -, i7, i8⟩ := h0
  rcases h1 with ⟨rfl, a1, rfl⟩ | ⟨ht, rfl⟩
  · have tz := th_0 (b_f c1 (by simp [a1])) (b2 := false) rfl (b3 := false) rfl
    rw [bI_f] at tz
    rw [tz, if_neg (by decide)] at hb
    refine ⟨by simp [upd, tz], fun _ => ?_, n, nd, f0, t0, Rl_y0 h⟩
    dsimp only
    obtain ⟨j, hj, rfl⟩ := inU_n (m := 10) (by decide) a1
    rw [upL_0, hb, rel_rank i8 (q1.trans q2.symm) (q3.trans q4.symm) q5 k1 (okA_n (by omega)) (m := n10) (by rw [n10_eq]; decide)]
  · have tt := trc_th _ false false ht c1 (fun _ => fB) fB
    rw [bI_f] at tt
    obtain ⟨e1, e2, e3⟩ := tt
    exact ⟨by simp [upd, e1], fun c => absurd c e3, n, nd, f0, t0, Rl_y0 h⟩
theorem st_work {n nd f0 t0 : Nat} {v : Nat → Int32} {g : Nat → Nat → Int32} {y : Nat → Int32} {z : Nat → Nat → Int32} (h : Rl n nd f0 t0 v g y z) {fo : Nat → Int64} {st w r b : Int32} {u : StA × (Nat → Int64)} {u2 : StA}
    (h1 : (r = 0 ∧ (inU st 6 ∧ inU w 2) ∧ u = ((v, g), vp_updL fo 0 ((if w = 0 then cnt (fun i => workB g i st (v 0) (v 1)) n else isum (fun i => if workB g i st (v 0) (v 1) = true then secs (g 9 i) + secs (g 10 i) else 0) n)).toInt64)) ∨ (trc r (¬ inU st 6 ∨ ¬ inU w 2) (False) (False) ∧ u = ((v, g), fo)))
    (h2 : b = (if 0 < thI (bI (!(inB st 0 5) || !(inB w 0 1))) 0 0 then 0 else isum (wkM z y st w) n) ∧ u2 = (upd y 0 (thI (bI (!(inB st 0 5) || !(inB w 0 1))) 0 0), z)) :
    u2.1 0 = r ∧ (r = 0 → u.2 0 = b.toInt64) ∧ Rel u.1.1 u.1.2 u2.1 u2.2 := by
  have c1 := oB (nB (inU_B (x := st) (y := 6) (k := 5) (by decide))) (nB (inU_B (x := w) (y := 2) (k := 1) (by decide)))
  obtain ⟨hb, rfl⟩ := h2
  have h0 := h
  obtain ⟨-, ⟨hnd, -, -⟩, ⟨q1, q2, q3, q4, -, -⟩, ⟨q5, q6, k1, k2⟩, -, -, i7, i8⟩ := h0
  rcases h1 with ⟨rfl, a1, rfl⟩ | ⟨ht, rfl⟩
  · have tz := th_0 (b_f c1 (by simp [a1])) (b2 := false) rfl (b3 := false) rfl
    rw [bI_f] at tz
    rw [tz, if_neg (by decide)] at hb
    refine ⟨by simp [upd, tz], fun _ => ?_, n, nd, f0, t0, Rl_y0 h⟩
    dsimp only
    rw [upL_0, hb, rel_work i8 (q1.trans q2.symm) (q3.trans q4.symm)]
  · have tt := trc_th _ false false ht c1 (fun _ => fB) fB
    rw [bI_f] at tt
    obtain ⟨e1, e2, e3⟩ := tt
    exact ⟨by simp [upd, e1], fun c => absurd c e3, n, nd, f0, t0, Rl_y0 h⟩
theorem st_perT {n nd f0 t0 : Nat} {v : Nat → Int32} {g : Nat → Nat → Int32} {y : Nat → Int32} {z : Nat → Nat → Int32} (h : Rl n nd f0 t0 v g y z) {fo : Nat → Int64} {ar r b : Int32} {u : StA × (Nat → Int64)} {u2 : StA}
    (h1 : (r = 0 ∧ (inU ar 10 ∧ 0 < g 0 ar.toNatClampNeg) ∧ u = ((v, g), vp_updL fo 0 (1000 * cnt (fun i => askB g i (v 0) (v 1) (v 2) ar) n / g 0 ar.toNatClampNeg).toInt64)) ∨ (trc r (¬ inU ar 10) (¬ 0 < g 0 ar.toNatClampNeg) (False) ∧ u = ((v, g), fo)))
    (h2 : b = (if 0 < thI (bI (!(inB ar 0 9))) (bI (inB ar 0 9 && decide (z 11 ar.toNatClampNeg = 0))) 0 then 0 else 1000 * cnt (fun i => fitB z i (y 3) (y 4) (y 5) ar) n / z 11 ar.toNatClampNeg) ∧ u2 = (upd y 0 (thI (bI (!(inB ar 0 9))) (bI (inB ar 0 9 && decide (z 11 ar.toNatClampNeg = 0))) 0), z)) :
    u2.1 0 = r ∧ (r = 0 → u.2 0 = b.toInt64) ∧ Rel u.1.1 u.1.2 u2.1 u2.2 := by
  have c0 := inU_B (x := ar) (y := 10) (k := 9) (by decide)
  have c1 := nB c0
  obtain ⟨hb, rfl⟩ := h2
  have h0 := h
  obtain ⟨-, ⟨hnd, -, -⟩, ⟨q1, q2, q3, q4, -, -⟩, ⟨q5, q6, k1, k2⟩, -, i6, i7, i8⟩ := h0
  have c2 : ¬ ¬ inU ar 10 → (¬ 0 < g 0 ar.toNatClampNeg ↔ (inB ar 0 9 && decide (z 11 ar.toNatClampNeg = 0)) = true) := by
    intro c
    have c' := Classical.not_not.mp c
    rw [c0.mp c', Bool.true_and, decide_eq_true_iff]
    obtain ⟨j, hj, rfl⟩ := inU_n (m := 10) (by decide) c'
    rw [nI_clamp (by omega)]
    obtain ⟨e, r1, r2⟩ := i6 j hj
    rw [← e]
    rw [Int32.lt_iff_toInt_lt, ← Int32.toInt_inj]
    have z0 : (0 : Int32).toInt = 0 := by decide
    omega
  rcases h1 with ⟨rfl, ⟨a1, a2⟩, rfl⟩ | ⟨ht, rfl⟩
  · have tz := th_0 (b_f c1 (by simp [a1])) (b_f (c2 (by simp [a1])) (by simp [a2])) (b3 := false) rfl
    rw [bI_f] at tz
    rw [tz, if_neg (by decide)] at hb
    refine ⟨by simp [upd, tz], fun _ => ?_, n, nd, f0, t0, Rl_y0 h⟩
    dsimp only
    obtain ⟨j, hj, rfl⟩ := inU_n (m := 10) (by decide) a1
    have e : g 0 (nI j).toNatClampNeg = z 11 (nI j).toNatClampNeg := by
      rw [nI_clamp (by omega)]; exact (i6 j hj).1
    rw [upL_0, hb, rel_rows i8 k1 (okA_n (by omega)), e, q1, q3, q2, q4, q5]
  · have tt := trc_th _ _ false ht c1 c2 fB
    rw [bI_f] at tt
    obtain ⟨e1, e2, e3⟩ := tt
    exact ⟨by simp [upd, e1], fun c => absurd c e3, n, nd, f0, t0, Rl_y0 h⟩
theorem lg0 {P : Nat → Bool} {n : Nat} (hn : n ≤ 200) : lg_cmp (cnt P n).toInt64 0 = 0 ↔ ¬ 0 < cnt P n := by
  have h := cntN_le P n
  rw [cnt_pos hn, cnt_nI, nI_l (by omega), show (0 : Int64) = lN 0 from rfl, show (0 : Int32) = nI 0 from rfl, nI_eq (by omega) (by decide)]
  rcases Nat.eq_zero_or_pos (cntN P n) with q | q
  · rw [q]; simp [lg_cmp, nI_0]
  · have h3 : lN 0 < lN (cntN P n) := (lN_lt (by decide) (by omega)).mpr q
    have e : lg_cmp (lN (cntN P n)) (lN 0) = 1 := by simp [lg_cmp, h3]
    rw [e]
    simp [nI_0]
    omega
theorem st_compare {n nd f0 t0 : Nat} {v : Nat → Int32} {g : Nat → Nat → Int32} {y : Nat → Int32} {z : Nat → Nat → Int32} (h : Rl n nd f0 t0 v g y z) {fo : Nat → Int64} {f t r b : Int32} {u : StA × (Nat → Int64)} {u2 : StA}
    (h1 : (r = 0 ∧ ((inR f 0 9999 ∧ inR t f 9999) ∧ 0 < totI g n nd 0 (v 0) (v 1) (v 2) (v 3) - totI g n nd 3 (v 0) (v 1) (v 2) (v 3) ∧ 0 < totI g n nd 0 f t (v 2) (v 3) - totI g n nd 3 f t (v 2) (v 3)) ∧ u = ((v, g), vp_updL fo 0 (icmp (totI g n nd 2 (v 0) (v 1) (v 2) (v 3) * (totI g n nd 0 f t (v 2) (v 3) - totI g n nd 3 f t (v 2) (v 3))) (totI g n nd 2 f t (v 2) (v 3) * (totI g n nd 0 (v 0) (v 1) (v 2) (v 3) - totI g n nd 3 (v 0) (v 1) (v 2) (v 3)))).toInt64)) ∨ (trc r (¬ (inR f 0 9999 ∧ inR t f 9999)) (¬ 0 < totI g n nd 0 (v 0) (v 1) (v 2) (v 3) - totI g n nd 3 (v 0) (v 1) (v 2) (v 3) ∨ ¬ 0 < totI g n nd 0 f t (v 2) (v 3) - totI g n nd 3 f t (v 2) (v 3)) (False) ∧ u = ((v, g), fo)))
    (h2 : b = (if 0 < thI (bI (rgM f t)) (bI (decide (lg_cmp ((cnt (fun i => shM z nd (y 3) (y 4) (y 5) (y 6) 1 i) n).toInt64) 0 = 0) || decide (lg_cmp (if (rgM f t) = true then 0 else ((cnt (fun i => shM z nd f t (y 5) (y 6) 1 i) n).toInt64)) 0 = 0))) 0 then 0 else (if 0 < (lg_cmp (((cnt (fun i => shM z nd (y 3) (y 4) (y 5) (y 6) 0 i) n).toInt64) * (if (rgM f t) = true then 0 else ((cnt (fun i => shM z nd f t (y 5) (y 6) 1 i) n).toInt64))) ((if (rgM f t) = true then 0 else ((cnt (fun i => shM z nd f t (y 5) (y 6) 0 i) n).toInt64)) * ((cnt (fun i => shM z nd (y 3) (y 4) (y 5) (y 6) 1 i) n).toInt64))) then 1 else if (lg_cmp (((cnt (fun i => shM z nd (y 3) (y 4) (y 5) (y 6) 0 i) n).toInt64) * (if (rgM f t) = true then 0 else ((cnt (fun i => shM z nd f t (y 5) (y 6) 1 i) n).toInt64))) ((if (rgM f t) = true then 0 else ((cnt (fun i => shM z nd f t (y 5) (y 6) 0 i) n).toInt64)) * ((cnt (fun i => shM z nd (y 3) (y 4) (y 5) (y 6) 1 i) n).toInt64))) < 0 then -1 else 0)) ∧ u2 = (upd y 0 (thI (bI (rgM f t)) (bI (decide (lg_cmp ((cnt (fun i => shM z nd (y 3) (y 4) (y 5) (y 6) 1 i) n).toInt64) 0 = 0) || decide (lg_cmp (if (rgM f t) = true then 0 else ((cnt (fun i => shM z nd f t (y 5) (y 6) 1 i) n).toInt64)) 0 = 0))) 0), z)) :
    u2.1 0 = r ∧ (r = 0 → u.2 0 = b.toInt64) ∧ Rel u.1.1 u.1.2 u2.1 u2.2 := by
  have c1 := nrg_B (f := f) (t := t)
  obtain ⟨hb, rfl⟩ := h2
  have h0 := h
  obtain ⟨⟨hn, -, -⟩, ⟨hnd, -, -⟩, ⟨q1, q2, q3, q4, -, -⟩, ⟨q5, q6, k1, k2⟩, -, -, i7, i8⟩ := h0
  rw [rel_told hnd i7 i8 k1 k2, rel_within hnd i7 i8 k1 k2, rel_told hnd i7 i8 k1 k2, rel_within hnd i7 i8 k1 k2, q1, q3, q5, q6] at h1
  rw [q2, q4] at hb ⊢
  have c2 : ¬ ¬ (inR f 0 9999 ∧ inR t f 9999) → ((¬ 0 < cnt (fun i => shM z nd (nI f0) (nI t0) (y 5) (y 6) 1 i) n ∨ ¬ 0 < cnt (fun i => shM z nd f t (y 5) (y 6) 1 i) n) ↔ (decide (lg_cmp ((cnt (fun i => shM z nd (nI f0) (nI t0) (y 5) (y 6) 1 i) n).toInt64) 0 = 0) || decide (lg_cmp (if (rgM f t) = true then 0 else ((cnt (fun i => shM z nd f t (y 5) (y 6) 1 i) n).toInt64)) 0 = 0)) = true) := by
    intro c
    have c' : rgM f t = false := b_f c1 c
    rw [c', if_neg (by decide), Bool.or_eq_true, decide_eq_true_iff, decide_eq_true_iff, lg0 hn, lg0 hn]
  rcases h1 with ⟨rfl, ⟨a1, a2, a3⟩, rfl⟩ | ⟨ht, rfl⟩
  · have cr : rgM f t = false := b_f c1 (by simp [a1])
    have tz := th_0 cr (b_f (c2 (by simp [a1])) (by simp [a2, a3])) (b3 := false) rfl
    rw [bI_f] at tz
    rw [tz, if_neg (by decide)] at hb
    refine ⟨by simp [upd, tz], fun _ => ?_, n, nd, f0, t0, Rl_y0 h⟩
    dsimp only
    rw [upL_0, hb, cr]
    simp only [Bool.false_eq_true, if_false]
    rw [cmp_cnt _ _ _ _ hn]
  · have tt := trc_th _ _ false ht c1 c2 fB
    rw [bI_f] at tt
    obtain ⟨e1, e2, e3⟩ := tt
    exact ⟨by simp [upd, e1], fun c => absurd c e3, n, nd, f0, t0, Rl_y0 h⟩
