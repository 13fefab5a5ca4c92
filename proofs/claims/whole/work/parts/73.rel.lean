/-! the relation of both states, and what keeps it -/
def Rl (n nd f0 t0 : Nat) (v : Nat → Int32) (g : Nat → Nat → Int32) (y : Nat → Int32) (z : Nat → Nat → Int32) : Prop :=
  (n ≤ 200 ∧ v 5 = nI n ∧ y 1 = nI n) ∧ (nd ≤ 6 ∧ v 4 = nI nd ∧ y 2 = nI nd) ∧ (v 0 = nI f0 ∧ y 3 = nI f0 ∧ v 1 = nI t0 ∧ y 4 = nI t0 ∧ f0 ≤ t0 ∧ t0 ≤ 9999) ∧ (v 2 = y 5 ∧ v 3 = y 6 ∧ okA (v 2) ∧ okA (v 3)) ∧ (v 7 = y 7 ∧ rng (v 7) 1 100) ∧ (∀ i, i < 10 → g 0 i = z 11 i ∧ rng (g 0 i) 0 1000000) ∧ (∀ i, i < nd → relD g z i) ∧ (∀ i, i < n → relR g z i)
def Rel (v : Nat → Int32) (g : Nat → Nat → Int32) (y : Nat → Int32) (z : Nat → Nat → Int32) : Prop := ∃ n nd f0 t0, Rl n nd f0 t0 v g y z
theorem Rl_keep {n nd f0 t0 : Nat} {v v' : Nat → Int32} {g g' : Nat → Nat → Int32} {y y' : Nat → Int32} {z z' : Nat → Nat → Int32} (h : Rl n nd f0 t0 v g y z) (hv : ∀ k, k < 6 ∨ k = 7 → v' k = v k) (hy : ∀ k, 1 ≤ k → k ≤ 7 → y' k = y k) (hg : ∀ c, c < 11 → g' c = g c) (hz : ∀ c, c ≤ 11 → z' c = z c) : Rl n nd f0 t0 v' g' y' z' := by
  unfold Rl relD relR at *
  simp only [hv 0 (by omega), hv 1 (by omega), hv 2 (by omega), hv 3 (by omega), hv 4 (by omega), hv 5 (by omega), hv 7 (by omega), hy 1 (by omega) (by omega), hy 2 (by omega) (by omega), hy 3 (by omega) (by omega), hy 4 (by omega) (by omega), hy 5 (by omega) (by omega), hy 6 (by omega) (by omega), hy 7 (by omega) (by omega), hg 0 (by omega), hg 1 (by omega), hg 2 (by omega), hg 3 (by omega), hg 4 (by omega), hg 5 (by omega), hg 6 (by omega), hg 7 (by omega), hg 8 (by omega), hg 9 (by omega), hg 10 (by omega), hz 0 (by omega), hz 1 (by omega), hz 2 (by omega), hz 3 (by omega), hz 4 (by omega), hz 5 (by omega), hz 6 (by omega), hz 7 (by omega), hz 8 (by omega), hz 9 (by omega), hz 10 (by omega), hz 11 (by omega)]
  exact h
theorem upd_0 {y : Nat → Int32} {x : Int32} : ∀ k, 1 ≤ k → k ≤ 7 → upd y 0 x k = y k := fun k h _ => by simp [upd, show ¬ k = 0 by omega]
theorem Rl_y0 {n nd f0 t0 : Nat} {v : Nat → Int32} {g : Nat → Nat → Int32} {y : Nat → Int32} {z : Nat → Nat → Int32} {x : Int32} (h : Rl n nd f0 t0 v g y z) : Rl n nd f0 t0 v g (upd y 0 x) z := Rl_keep h (fun _ _ => rfl) upd_0 (fun _ _ => rfl) (fun _ _ => rfl)
/-! refusals -/
theorem trc_th {r : Int32} {B1 B2 B3 : Prop} (b1 b2 b3 : Bool) (h : trc r B1 B2 B3) (h1 : B1 ↔ b1 = true) (h2 : ¬ B1 → (B2 ↔ b2 = true)) (h3 : B3 ↔ b3 = true) : thI (bI b1) (bI b2) (bI b3) = r ∧ 0 < r ∧ ¬ r = 0 := by
  rcases h with ⟨rfl, c⟩ | ⟨rfl, c, d⟩ | ⟨rfl, c, d, e⟩
  · rw [h1.mp c]
    exact ⟨by simp [thI, bI], by decide, by decide⟩
  · have e1 : b1 = false := by cases b1 with
      | false => rfl
      | true => exact absurd (h1.mpr rfl) c
    rw [e1, (h2 c).mp d]
    exact ⟨by simp [thI, bI], by decide, by decide⟩
  · have e1 : b1 = false := by cases b1 with
      | false => rfl
      | true => exact absurd (h1.mpr rfl) c
    have e2 : b2 = false := by cases b2 with
      | false => rfl
      | true => exact absurd ((h2 c).mpr rfl) d
    rw [e1, e2, h3.mp e]
    exact ⟨by simp [thI, bI], by decide, by decide⟩
theorem th_0 {b1 b2 b3 : Bool} (h1 : b1 = false) (h2 : b2 = false) (h3 : b3 = false) : thI (bI b1) (bI b2) (bI b3) = 0 := by
  rw [h1, h2, h3]; simp [thI, bI]
theorem inU_B {x y k : Int32} (h : y.toInt = k.toInt + 1) : inU x y ↔ inB x 0 k = true := by
  rw [inU, inB, Bool.and_eq_true, decide_eq_true_iff, decide_eq_true_iff, Int32.lt_iff_toInt_lt, Int32.le_iff_toInt_le (x := x) (y := k), h]
  exact and_congr_right (fun _ => by omega)
theorem inR_B {x y k : Int32} : inR x y k ↔ inB x y k = true := by
  rw [inR, inB, Bool.and_eq_true, decide_eq_true_iff, decide_eq_true_iff]
theorem nB {b : Bool} {P : Prop} (h : P ↔ b = true) : ¬ P ↔ (!b) = true := by rw [h]; cases b <;> simp
theorem oB {b c : Bool} {P Q : Prop} (h : P ↔ b = true) (h2 : Q ↔ c = true) : P ∨ Q ↔ (b || c) = true := by rw [h, h2]; cases b <;> cases c <;> simp
theorem oB3 {b c d : Bool} {P Q R : Prop} (h : P ↔ b = true) (h2 : Q ↔ c = true) (h3 : R ↔ d = true) : P ∨ Q ∨ R ↔ (b || c || d) = true := by rw [h, h2, h3]; cases b <;> cases c <;> cases d <;> simp
theorem fB : False ↔ (false : Bool) = true := by simp
theorem b_f {b : Bool} {P : Prop} (h : P ↔ b = true) (n : ¬ P) : b = false := by cases b with
  | false => rfl
  | true => exact absurd (h.mpr rfl) n
theorem inR_rng {x a b : Int32} (h : inR x a b) : rng x a.toInt b.toInt := ⟨Int32.le_iff_toInt_le.mp h.1, Int32.le_iff_toInt_le.mp h.2⟩
theorem inU_n {x : Int32} {m : Nat} (hm : m < 2 ^ 31) (h : inU x (nI m)) : ∃ j, j < m ∧ x = nI j := by
  obtain ⟨j, hj, rfl⟩ := nI_of (Int32.not_lt.mpr h.1)
  exact ⟨j, (nI_ltI hj hm).mp h.2, rfl⟩
theorem inR_n {x : Int32} {m : Nat} (hm : m < 2 ^ 31) (h : inR x 0 (nI m)) : ∃ j, j ≤ m ∧ x = nI j := by
  obtain ⟨j, hj, rfl⟩ := nI_of (Int32.not_lt.mpr h.1)
  exact ⟨j, (nI_leI hj hm).mp h.2, rfl⟩
theorem upL_0 (fo : Nat → Int64) (x : Int64) : vp_updL fo 0 x 0 = x := by simp [vp_updL]
/-! the calls -/
theorem st_row {n nd f0 t0 : Nat} {v : Nat → Int32} {g : Nat → Nat → Int32} {y : Nat → Int32} {z : Nat → Nat → Int32} (h : Rl n nd f0 t0 v g y z) {fo : Nat → Int64} {d ho kd ar st mk r b : Int32} {u : StA × (Nat → Int64)} {u2 : StA}
    (h1 : (r = 0 ∧ (inU kd 5 ∧ inU ar 10 ∧ inU st 6 ∧ inR d 0 9999 ∧ inR ho 0 23 ∧ inR mk 0 3 ∧ n < 200) ∧ u = ((upd v 5 (v 5 + 1), upg (upg (upg (upg (upg (upg (upg (upg g 3 n d) 4 n ho) 5 n kd) 6 n ar) 7 n st) 8 n mk) 9 n (-1)) 10 n (-1)), vp_updL fo 0 (v 5).toInt64)) ∨ (trc r (¬ inU kd 5 ∨ ¬ inU ar 10 ∨ ¬ inU st 6) (¬ inR d 0 9999 ∨ ¬ inR ho 0 23 ∨ ¬ inR mk 0 3) (n = 200) ∧ u = ((v, g), fo)))
    (h2 : b = (if 0 < thI (bI (!(inB kd 0 4) || !(inB ar 0 9) || !(inB st 0 5))) (bI (!(inB d 0 9999) || !(inB ho 0 23) || !(inB mk 0 3))) (bI (decide (y 1 = 200))) then 0 else y 1 + 1 - 1) ∧ u2 = (if 0 < thI (bI (!(inB kd 0 4) || !(inB ar 0 9) || !(inB st 0 5))) (bI (!(inB d 0 9999) || !(inB ho 0 23) || !(inB mk 0 3))) (bI (decide (y 1 = 200))) then upd y 0 (thI (bI (!(inB kd 0 4) || !(inB ar 0 9) || !(inB st 0 5))) (bI (!(inB d 0 9999) || !(inB ho 0 23) || !(inB mk 0 3))) (bI (decide (y 1 = 200)))) else upd (upd y 0 (thI (bI (!(inB kd 0 4) || !(inB ar 0 9) || !(inB st 0 5))) (bI (!(inB d 0 9999) || !(inB ho 0 23) || !(inB mk 0 3))) (bI (decide (y 1 = 200))))) 1 (y 1 + 1), if 0 < thI (bI (!(inB kd 0 4) || !(inB ar 0 9) || !(inB st 0 5))) (bI (!(inB d 0 9999) || !(inB ho 0 23) || !(inB mk 0 3))) (bI (decide (y 1 = 200))) then z else (upg (upg (upg (upg (upg (upg (upg (upg (upg z 0 n d) 1 n ho) 2 n kd) 3 n ar) 4 n st) 5 n (bI (decide (mk - mk / 2 * 2 = 1)))) 6 n (bI (decide (1 < mk)))) 7 n (-1)) 8 n (-1)))) :
    u2.1 0 = r ∧ (r = 0 → u.2 0 = b.toInt64) ∧ Rel u.1.1 u.1.2 u2.1 u2.2 := by
  have hn : n ≤ 200 := h.1.1
  have hv5 : v 5 = nI n := h.1.2.1
  have hy1 : y 1 = nI n := h.1.2.2
  have c1 := oB3 (nB (inU_B (x := kd) (y := 5) (k := 4) (by decide))) (nB (inU_B (x := ar) (y := 10) (k := 9) (by decide))) (nB (inU_B (x := st) (y := 6) (k := 5) (by decide)))
  have c2 := oB3 (nB (inR_B (x := d) (y := 0) (k := 9999))) (nB (inR_B (x := ho) (y := 0) (k := 23))) (nB (inR_B (x := mk) (y := 0) (k := 3)))
  have c3 : n = 200 ↔ decide (y 1 = 200) = true := by
    rw [decide_eq_true_iff, hy1]
    exact (nI_eq (by omega) (by decide)).symm
  obtain ⟨hb, hu2⟩ := h2
  rcases h1 with ⟨rfl, ⟨a1, a2, a3, a4, a5, a6, a7⟩, rfl⟩ | ⟨ht, rfl⟩
  · have tz := th_0 (b_f c1 (by simp [a1, a2, a3])) (b_f c2 (by simp [a4, a5, a6])) (b_f c3 (by omega))
    rw [tz, if_neg (by decide)] at hb
    rw [tz, if_neg (by decide), if_neg (by decide)] at hu2
    subst hu2
    refine ⟨by simp [upd], fun _ => ?_, ?_⟩
    · dsimp only
      rw [upL_0, hb, hv5, hy1, nI_1, nI_pred]
    · refine ⟨n + 1, nd, f0, t0, ⟨by omega, by simp [upd, hv5, nI_1], by simp [upd, hy1, nI_1]⟩, ?_⟩
      obtain ⟨-, i2, i3, i4, i5, i6, i7, i8⟩ := h
      refine ⟨by simpa [upd] using i2, by simpa [upd] using i3, by simpa [upd] using i4, by simpa [upd] using i5, ?_, ?_, ?_⟩
      · intro i hi
        have := i6 i hi
        simpa [upg] using this
      · intro i hi
        have := i7 i hi
        simpa [upg, relD] using this
      · intro i hi
        by_cases c : i = n
        · subst c
          obtain ⟨m, hm, rfl⟩ := inR_n (m := 3) (by decide) a6
          have r4 := inR_rng a4
          simp only [relR, upg, upd, if_true, reduceIte, Nat.reduceEqDiff, if_false]
          refine ⟨trivial, trivial, trivial, trivial, trivial, ⟨m, by omega, rfl⟩, trivial, trivial, trivial, trivial, ?_, ?_, ?_⟩
          · exact r4
          · exact ⟨by decide, by decide⟩
          · exact ⟨by decide, by decide⟩
        · have := i8 i (by omega)
          simpa [relR, upg, upd, c] using this
  · obtain ⟨e1, e2, e3⟩ := trc_th _ _ _ ht c1 (fun _ => c2) c3
    rw [e1, if_pos e2] at hb
    rw [e1, if_pos e2, if_pos e2] at hu2
    subst hu2
    exact ⟨by simp [upd], fun c => absurd c e3, n, nd, f0, t0, Rl_y0 h⟩
theorem st_values {n nd f0 t0 : Nat} {v : Nat → Int32} {g : Nat → Nat → Int32} {y : Nat → Int32} {z : Nat → Nat → Int32} (h : Rl n nd f0 t0 v g y z) {rw x x2 r : Int32} {u u2 : StA}
    (h1 : (r = 0 ∧ (inU rw (v 5) ∧ inR x (-1) 9999 ∧ inR x2 (-1) 9999) ∧ u = (v, upg (upg g 9 rw.toNatClampNeg x) 10 rw.toNatClampNeg x2)) ∨ (trc r (¬ inU rw (v 5)) (¬ inR x (-1) 9999 ∨ ¬ inR x2 (-1) 9999) (False) ∧ u = (v, g)))
    (h2 : u2 = (if 0 < thI (bI (!(inB rw 0 (y 1 - 1)))) (bI (!(inB x (-1) 9999) || !(inB x2 (-1) 9999))) 0 then upd y 0 (thI (bI (!(inB rw 0 (y 1 - 1)))) (bI (!(inB x (-1) 9999) || !(inB x2 (-1) 9999))) 0) else upd y 0 (thI (bI (!(inB rw 0 (y 1 - 1)))) (bI (!(inB x (-1) 9999) || !(inB x2 (-1) 9999))) 0), if 0 < thI (bI (!(inB rw 0 (y 1 - 1)))) (bI (!(inB x (-1) 9999) || !(inB x2 (-1) 9999))) 0 then z else (upg (upg z 7 rw.toNatClampNeg x) 8 rw.toNatClampNeg x2))) :
    u2.1 0 = r ∧ Rel u.1 u.2 u2.1 u2.2 := by
  have hn : n ≤ 200 := h.1.1
  have hv5 : v 5 = nI n := h.1.2.1
  have hy1 : y 1 = nI n := h.1.2.2
  have e5 : (v 5).toInt = (y 1 - 1).toInt + 1 := by
    rw [hv5, hy1, nI_toInt (by omega), show (1 : Int32) = nI 1 from rfl, pk_sub_toInt (by omega) (by decide)]
    omega
  have c1 := nB (inU_B (x := rw) e5)
  have c2 := oB (nB (inR_B (x := x) (y := -1) (k := 9999))) (nB (inR_B (x := x2) (y := -1) (k := 9999)))
  rcases h1 with ⟨rfl, ⟨a1, a2, a3⟩, rfl⟩ | ⟨ht, rfl⟩
  · have tz := th_0 (b_f c1 (by simp [a1])) (b_f c2 (by simp [a2, a3])) (b3 := false) rfl
    rw [bI_f] at tz
    rw [tz, if_neg (by decide), if_neg (by decide)] at h2
    subst h2
    refine ⟨by simp [upd], n, nd, f0, t0, ?_⟩
    rw [hv5] at a1
    obtain ⟨j, hj, rfl⟩ := inU_n (by omega) a1
    rw [nI_clamp (by omega)]
    have h3 := Rl_y0 (x := 0) h
    obtain ⟨i1, i2, i3, i4, i5, i6, i7, i8⟩ := h3
    refine ⟨i1, i2, i3, i4, i5, ?_, ?_, ?_⟩
    · intro i hi
      have := i6 i hi
      simpa [upg] using this
    · intro i hi
      have := i7 i hi
      simpa [upg, relD] using this
    · intro i hi
      have q := i8 i hi
      by_cases c : i = j
      · subst c
        obtain ⟨q1, q2, q3, q4, q5, q6, q7, q8, -, -, q11, -, -⟩ := q
        have r9 := inR_rng a2
        have r10 := inR_rng a3
        simp only [relR, upg, upd, if_true, reduceIte, Nat.reduceEqDiff, if_false]
        exact ⟨q1, q2, q3, q4, q5, q6, q7, q8, trivial, trivial, q11, r9, r10⟩
      · simpa [relR, upg, upd, c] using q
  · have tt := trc_th _ _ false ht c1 (fun _ => c2) fB
    rw [bI_f] at tt
    obtain ⟨e1, e2, e3⟩ := tt
    rw [e1, if_pos e2, if_pos e2] at h2
    subst h2
    exact ⟨by simp [upd], n, nd, f0, t0, Rl_y0 h⟩
theorem st_define {n nd f0 t0 : Nat} {v : Nat → Int32} {g : Nat → Nat → Int32} {y : Nat → Int32} {z : Nat → Nat → Int32} (h : Rl n nd f0 t0 v g y z) {fo : Nat → Int64} {d mk r b : Int32} {u : StA × (Nat → Int64)} {u2 : StA}
    (h1 : (r = 0 ∧ (inR d 0 9999 ∧ inR mk 0 20000 ∧ nd < 6) ∧ u = ((upd v 4 (v 4 + 1), upg (upg g 1 nd d) 2 nd mk), vp_updL fo 0 (v 4 + 1).toInt64)) ∨ (trc r (¬ inR d 0 9999 ∨ ¬ inR mk 0 20000) (nd = 6) (False) ∧ u = ((v, g), fo)))
    (h2 : b = (if 0 < thI (bI (!(inB d 0 9999) || !(inB mk 0 20000))) (bI (decide (y 2 = 6))) 0 then 0 else y 2 + 1) ∧ u2 = (if 0 < thI (bI (!(inB d 0 9999) || !(inB mk 0 20000))) (bI (decide (y 2 = 6))) 0 then upd y 0 (thI (bI (!(inB d 0 9999) || !(inB mk 0 20000))) (bI (decide (y 2 = 6))) 0) else upd (upd y 0 (thI (bI (!(inB d 0 9999) || !(inB mk 0 20000))) (bI (decide (y 2 = 6))) 0)) 2 (y 2 + 1), if 0 < thI (bI (!(inB d 0 9999) || !(inB mk 0 20000))) (bI (decide (y 2 = 6))) 0 then z else (upg (upg z 9 nd d) 10 nd mk))) :
    u2.1 0 = r ∧ (r = 0 → u.2 0 = b.toInt64) ∧ Rel u.1.1 u.1.2 u2.1 u2.2 := by
  have hn : nd ≤ 6 := h.2.1.1
  have hv5 : v 4 = nI nd := h.2.1.2.1
  have hy1 : y 2 = nI nd := h.2.1.2.2
  have c1 := oB (nB (inR_B (x := d) (y := 0) (k := 9999))) (nB (inR_B (x := mk) (y := 0) (k := 20000)))
  have c2 : nd = 6 ↔ decide (y 2 = 6) = true := by
    rw [decide_eq_true_iff, hy1]
    exact (nI_eq (by omega) (by decide)).symm
  obtain ⟨hb, hu2⟩ := h2
  rcases h1 with ⟨rfl, ⟨a1, a2, a3⟩, rfl⟩ | ⟨ht, rfl⟩
  · have tz := th_0 (b_f c1 (by simp [a1, a2])) (b_f c2 (by omega)) (b3 := false) rfl
    rw [bI_f] at tz
    rw [tz, if_neg (by decide)] at hb
    rw [tz, if_neg (by decide), if_neg (by decide)] at hu2
    subst hu2
    refine ⟨by simp [upd], fun _ => ?_, ?_⟩
    · dsimp only
      rw [upL_0, hb, hv5, hy1]
    · obtain ⟨i1, -, i3, i4, i5, i6, i7, i8⟩ := h
      refine ⟨n, nd + 1, f0, t0, by simpa [upd] using i1, ⟨by omega, by simp [upd, hv5, nI_1], by simp [upd, hy1, nI_1]⟩, by simpa [upd] using i3, by simpa [upd] using i4, by simpa [upd] using i5, ?_, ?_, ?_⟩
      · intro i hi
        have := i6 i hi
        simpa [upg] using this
      · intro i hi
        by_cases c : i = nd
        · subst c
          have r1 := inR_rng a1
          have r2 := inR_rng a2
          simp only [relD, upg, upd, if_true, reduceIte, Nat.reduceEqDiff, if_false]
          exact ⟨trivial, trivial, r1, r2⟩
        · have := i7 i (by omega)
          simpa [relD, upg, upd, c] using this
      · intro i hi
        have := i8 i hi
        simpa [upg, relR] using this
  · have tt := trc_th _ _ false ht c1 (fun _ => c2) fB
    rw [bI_f] at tt
    obtain ⟨e1, e2, e3⟩ := tt
    rw [e1, if_pos e2] at hb
    rw [e1, if_pos e2, if_pos e2] at hu2
    subst hu2
    exact ⟨by simp [upd], fun c => absurd c e3, n, nd, f0, t0, Rl_y0 h⟩
theorem rg_B {f t : Int32} : (inR f 0 9999 ∧ inR t f 9999) ↔ (!(rgM f t)) = true := by
  have e : (inR f 0 9999 ∧ inR t f 9999) ↔ (0 ≤ f ∧ f ≤ 9999 ∧ 0 ≤ t ∧ t ≤ 9999 ∧ f ≤ t) := by
    unfold inR
    constructor
    · rintro ⟨⟨a, b⟩, c, d⟩; exact ⟨a, b, Int32.le_trans a c, d, c⟩
    · rintro ⟨a, b, c, d, e⟩; exact ⟨⟨a, b⟩, e, d⟩
  rw [e, rgM, inB, inB]
  simp only [Bool.not_or, Bool.not_not, Bool.and_eq_true, decide_eq_true_iff, Bool.not_eq_true', decide_eq_false_iff_not, Int32.not_lt]
  constructor
  · rintro ⟨a, b, c, d, e⟩; exact ⟨⟨⟨a, b⟩, c, d⟩, e⟩
  · rintro ⟨⟨⟨a, b⟩, c, d⟩, e⟩; exact ⟨a, b, c, d, e⟩
theorem nrg_B {f t : Int32} : ¬ (inR f 0 9999 ∧ inR t f 9999) ↔ rgM f t = true := by
  rw [rg_B]; cases rgM f t <;> simp
theorem m1_B {x y k : Int32} (h : y.toInt = k.toInt + 1) (hk : 0 ≤ k) : (x = -1 ∨ inU x y) ↔ inB x (-1) k = true := by
  have e : (-1 : Int32).toInt = -1 := by decide
  have z : (0 : Int32).toInt = 0 := by decide
  have hk2 := Int32.le_iff_toInt_le.mp hk
  rw [inU, inB, Bool.and_eq_true, decide_eq_true_iff, decide_eq_true_iff, Int32.lt_iff_toInt_lt, Int32.le_iff_toInt_le (x := x) (y := k), Int32.le_iff_toInt_le (x := 0) (y := x), Int32.le_iff_toInt_le (x := -1) (y := x), h, ← Int32.toInt_inj, e, z]
  rw [z] at hk2
  omega
theorem st_ask {n nd f0 t0 : Nat} {v : Nat → Int32} {g : Nat → Nat → Int32} {y : Nat → Int32} {z : Nat → Nat → Int32} (h : Rl n nd f0 t0 v g y z) {f t kd ar r : Int32} {u u2 : StA}
    (h1 : (r = 0 ∧ ((kd = -1 ∨ inU kd 5) ∧ (ar = -1 ∨ inU ar 10) ∧ (inR f 0 9999 ∧ inR t f 9999)) ∧ u = (upd (upd (upd (upd v 0 f) 1 t) 2 kd) 3 ar, g)) ∨ (trc r (¬ (kd = -1 ∨ inU kd 5) ∨ ¬ (ar = -1 ∨ inU ar 10)) (¬ (inR f 0 9999 ∧ inR t f 9999)) (False) ∧ u = (v, g)))
    (h2 : u2 = (if 0 < thI (bI (!(inB kd (-1) 4) || !(inB ar (-1) 9))) (bI (!(inB f 0 9999) || !(inB t 0 9999) || decide (t < f))) 0 then upd y 0 (thI (bI (!(inB kd (-1) 4) || !(inB ar (-1) 9))) (bI (!(inB f 0 9999) || !(inB t 0 9999) || decide (t < f))) 0) else upd (upd (upd (upd (upd y 0 (thI (bI (!(inB kd (-1) 4) || !(inB ar (-1) 9))) (bI (!(inB f 0 9999) || !(inB t 0 9999) || decide (t < f))) 0)) 3 f) 4 t) 5 kd) 6 ar, z)) :
    u2.1 0 = r ∧ Rel u.1 u.2 u2.1 u2.2 := by
  have c1 := oB (nB (m1_B (x := kd) (y := 5) (k := 4) (by decide) (by decide))) (nB (m1_B (x := ar) (y := 10) (k := 9) (by decide) (by decide)))
  have c2 := nrg_B (f := f) (t := t)
  rw [rgM] at c2
  rcases h1 with ⟨rfl, ⟨a1, a2, a3⟩, rfl⟩ | ⟨ht, rfl⟩
  · have tz := th_0 (b_f c1 (by simp [a1, a2])) (b_f c2 (by simp [a3])) (b3 := false) rfl
    rw [bI_f] at tz
    rw [tz, if_neg (by decide)] at h2
    subst h2
    obtain ⟨i1, i2, -, -, i5, i6, i7, i8⟩ := h
    obtain ⟨j1, hj1, rfl⟩ := inR_n (m := 9999) (by decide) a3.1
    obtain ⟨j2, hj2, rfl⟩ := inR_n (m := 9999) (by decide) ⟨Int32.le_trans a3.1.1 a3.2.1, a3.2.2⟩
    have hj := (nI_leI (by omega) (by omega)).mp a3.2.1
    refine ⟨by simp [upd], n, nd, j1, j2, by simpa [upd] using i1, by simpa [upd] using i2, by simpa [upd] using ⟨hj, hj2⟩, ?_, by simpa [upd] using i5, i6, i7, i8⟩
    refine ⟨by simp [upd], by simp [upd], ?_, ?_⟩
    · simp only [upd, if_true, reduceIte, Nat.reduceEqDiff, if_false]
      rcases a1 with rfl | a1
      · exact okA_m
      · obtain ⟨j, hj, rfl⟩ := inU_n (m := 5) (by decide) a1
        exact okA_n (by omega)
    · simp only [upd, if_true, reduceIte, Nat.reduceEqDiff, if_false]
      rcases a2 with rfl | a2
      · exact okA_m
      · obtain ⟨j, hj, rfl⟩ := inU_n (m := 10) (by decide) a2
        exact okA_n (by omega)
  · have tt := trc_th _ _ false ht c1 (fun _ => c2) fB
    rw [bI_f] at tt
    obtain ⟨e1, e2, e3⟩ := tt
    rw [e1, if_pos e2] at h2
    subst h2
    exact ⟨by simp [upd], n, nd, f0, t0, Rl_y0 h⟩
theorem st_people {n nd f0 t0 : Nat} {v : Nat → Int32} {g : Nat → Nat → Int32} {y : Nat → Int32} {z : Nat → Nat → Int32} (h : Rl n nd f0 t0 v g y z) {ar x r : Int32} {u u2 : StA}
    (h1 : (r = 0 ∧ (inU ar 10 ∧ inR x 0 1000000) ∧ u = (v, upg g 0 ar.toNatClampNeg x)) ∨ (trc r (¬ inU ar 10) (¬ inR x 0 1000000) (False) ∧ u = (v, g)))
    (h2 : u2 = (if 0 < thI (bI (!(inB ar 0 9))) (bI (!(inB x 0 1000000))) 0 then upd y 0 (thI (bI (!(inB ar 0 9))) (bI (!(inB x 0 1000000))) 0) else upd y 0 (thI (bI (!(inB ar 0 9))) (bI (!(inB x 0 1000000))) 0), if 0 < thI (bI (!(inB ar 0 9))) (bI (!(inB x 0 1000000))) 0 then z else (upg z 11 ar.toNatClampNeg x))) :
    u2.1 0 = r ∧ Rel u.1 u.2 u2.1 u2.2 := by
  have c1 := nB (inU_B (x := ar) (y := 10) (k := 9) (by decide))
  have c2 := nB (inR_B (x := x) (y := 0) (k := 1000000))
  rcases h1 with ⟨rfl, ⟨a1, a2⟩, rfl⟩ | ⟨ht, rfl⟩
  · have tz := th_0 (b_f c1 (by simp [a1])) (b_f c2 (by simp [a2])) (b3 := false) rfl
    rw [bI_f] at tz
    rw [tz, if_neg (by decide), if_neg (by decide)] at h2
    subst h2
    refine ⟨by simp [upd], n, nd, f0, t0, ?_⟩
    obtain ⟨j, hj, rfl⟩ := inU_n (m := 10) (by decide) a1
    rw [nI_clamp (by omega)]
    have h3 := Rl_y0 (x := 0) h
    obtain ⟨i1, i2, i3, i4, i5, i6, i7, i8⟩ := h3
    refine ⟨i1, i2, i3, i4, i5, ?_, ?_, ?_⟩
    · intro i hi
      have q := i6 i hi
      by_cases c : i = j
      · subst c
        have r2 := inR_rng a2
        simp only [upg, upd, if_true, reduceIte]
        exact ⟨trivial, r2⟩
      · simpa [upg, upd, c] using q
    · intro i hi
      have := i7 i hi
      simpa [upg, relD] using this
    · intro i hi
      have := i8 i hi
      simpa [upg, relR] using this
  · have tt := trc_th _ _ false ht c1 (fun _ => c2) fB
    rw [bI_f] at tt
    obtain ⟨e1, e2, e3⟩ := tt
    rw [e1, if_pos e2, if_pos e2] at h2
    subst h2
    exact ⟨by simp [upd], n, nd, f0, t0, Rl_y0 h⟩
theorem st_least {n nd f0 t0 : Nat} {v : Nat → Int32} {g : Nat → Nat → Int32} {y : Nat → Int32} {z : Nat → Nat → Int32} (h : Rl n nd f0 t0 v g y z) {x r : Int32} {u u2 : StA}
    (h1 : (r = 0 ∧ (inR x 1 100) ∧ u = (upd v 7 x, g)) ∨ (trc r (¬ inR x 1 100) (False) (False) ∧ u = (v, g)))
    (h2 : u2 = (if 0 < thI (bI (!(inB x 1 100))) 0 0 then upd y 0 (thI (bI (!(inB x 1 100))) 0 0) else upd (upd y 0 (thI (bI (!(inB x 1 100))) 0 0)) 7 x, z)) :
    u2.1 0 = r ∧ Rel u.1 u.2 u2.1 u2.2 := by
  have c1 := nB (inR_B (x := x) (y := 1) (k := 100))
  rcases h1 with ⟨rfl, a1, rfl⟩ | ⟨ht, rfl⟩
  · have tz := th_0 (b_f c1 (by simp [a1])) (b2 := false) rfl (b3 := false) rfl
    rw [bI_f] at tz
    rw [tz, if_neg (by decide)] at h2
    subst h2
    obtain ⟨i1, i2, i3, i4, i5, i6, i7, i8⟩ := h
    have r1 := inR_rng a1
    refine ⟨by simp [upd], n, nd, f0, t0, by simpa [upd] using i1, by simpa [upd] using i2, by simpa [upd] using i3, by simpa [upd] using i4, ⟨by simp [upd], ?_⟩, i6, i7, i8⟩
    simp only [upd, if_true, reduceIte]
    exact r1
  · have tt := trc_th _ false false ht c1 (fun _ => fB) fB
    rw [bI_f] at tt
    obtain ⟨e1, e2, e3⟩ := tt
    rw [e1, if_pos e2] at h2
    subst h2
    exact ⟨by simp [upd], n, nd, f0, t0, Rl_y0 h⟩
