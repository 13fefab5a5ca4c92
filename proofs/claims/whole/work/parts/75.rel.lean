/-! placed -/
theorem askB_cong {g g' : Nat → Nat → Int32} (h : ∀ c, c < 11 → g' c = g c) {i : Nat} {f t kd ar : Int32} : askB g' i f t kd ar = askB g i f t kd ar := by
  simp only [askB, hidB, spanB, h 8 (by omega), h 3 (by omega), h 5 (by omega), h 6 (by omega)]
theorem bothB_cong {g g' : Nat → Nat → Int32} (h : ∀ c, c < 11 → g' c = g c) {i : Nat} : bothB g' i = bothB g i := by
  simp only [bothB, h 9 (by omega), h 10 (by omega)]
theorem fitB_cong {z z' : Nat → Nat → Int32} (h : ∀ c, c ≤ 11 → z' c = z c) {i : Nat} {f t kd ar : Int32} : fitB z' i f t kd ar = fitB z i f t kd ar := by
  simp only [fitB, h 6 (by omega), h 0 (by omega), h 2 (by omega), h 3 (by omega)]
theorem hasB_cong {z z' : Nat → Nat → Int32} (h : ∀ c, c ≤ 11 → z' c = z c) {i : Nat} : hasB z' i = hasB z i := by
  simp only [hasB, h 7 (by omega), h 8 (by omega)]
theorem sp_rel {n : Nat} {g z : Nat → Nat → Int32} {y : Nat → Int32} (hr : ∀ i, i < n → relR g z i) (k1 : okA (y 5)) (k2 : okA (y 6)) : ∀ k, k ≤ n →
    (spS g (y 3) (y 4) (y 5) (y 6) k).1 = cntN (fun i => fitB z i (y 3) (y 4) (y 5) (y 6) && hasB z i) k ∧ (spT z y k).1 = cntN (fun i => fitB z i (y 3) (y 4) (y 5) (y 6) && hasB z i) k ∧ (∀ c, c < 11 → (spS g (y 3) (y 4) (y 5) (y 6) k).2 c = g c) ∧ (∀ c, c ≤ 11 → (spT z y k).2 c = z c) ∧ (∀ j, j < cntN (fun i => fitB z i (y 3) (y 4) (y 5) (y 6) && hasB z i) k → (spS g (y 3) (y 4) (y 5) (y 6) k).2 11 j = (spT z y k).2 14 j) := by
  intro k
  induction k with
  | zero => intro _; exact ⟨rfl, rfl, fun _ _ => rfl, fun _ _ => rfl, fun j hj => absurd hj (Nat.not_lt_zero j)⟩
  | succ k ih =>
    intro hk
    obtain ⟨i1, i2, i3, i4, i5⟩ := ih (by omega)
    have R := hr k (by omega)
    have e9 : g 9 k = z 7 k := R.2.2.2.2.2.2.2.2.1
    have e10 : g 10 k = z 8 k := R.2.2.2.2.2.2.2.2.2.1
    rw [spS, spT, cntN, askB_cong i3, bothB_cong i3, fitB_cong i4, hasB_cong i4, rel_ask R k1 k2, rel_both R, i1, i2, i3 9 (by omega), i3 10 (by omega), i4 7 (by omega), i4 8 (by omega), e9, e10]
    by_cases c : fitB z k (y 3) (y 4) (y 5) (y 6) = true ∧ hasB z k = true
    · rw [if_pos c, if_pos c, if_pos (by rw [c.1, c.2]; rfl)]
      obtain ⟨j1, j2, j3⟩ := ins_rel (x := z 7 k + z 8 k) _ _ _ i5
      refine ⟨rfl, rfl, fun c hc => ?_, fun c hc => ?_, j1⟩
      · show insG _ _ _ c = g c
        rw [j2 c (by omega), i3 c hc]
      · show insM _ _ _ c = z c
        rw [j3 c (by omega), i4 c hc]
    · have c2 : ¬ (fitB z k (y 3) (y 4) (y 5) (y 6) && hasB z k) = true := by rw [Bool.and_eq_true]; exact c
      rw [if_neg c, if_neg c, if_neg c2]
      exact ⟨i1, i2, i3, i4, i5⟩
theorem pl_ix {p m : Nat} (hp : 1 ≤ p) (hp2 : p ≤ 100) (hm : m ≤ 200) : (nI p * nI m + 100 - 1) / 100 = nI ((p * m + 99) / 100) ∧ (nI p * nI m + 99) / 100 = nI ((p * m + 99) / 100) ∧ (0 < m → 1 ≤ (p * m + 99) / 100) ∧ (p * m + 99) / 100 ≤ m := by
  have h1 : p * m ≤ 100 * 200 := Nat.mul_le_mul hp2 hm
  have h2 : p * m ≤ 100 * m := Nat.mul_le_mul_right m hp2
  have h3 : 1 * m ≤ p * m := Nat.mul_le_mul_right m hp
  refine ⟨?_, ?_, ?_, ?_⟩
  · rw [pk_mul, show (100 : Int32) = nI 100 from rfl, nI_add, show (1 : Int32) = nI 1 from rfl, pk_sub (by omega), pk_div (by omega) (by decide) (by decide)]
    rfl
  · rw [pk_mul, show (99 : Int32) = nI 99 from rfl, show (100 : Int32) = nI 100 from rfl, nI_add, pk_div (by omega) (by decide) (by decide)]
  · intro h; omega
  · omega
theorem st_placed {n nd f0 t0 : Nat} {v : Nat → Int32} {g : Nat → Nat → Int32} {y : Nat → Int32} {z : Nat → Nat → Int32} (h : Rl n nd f0 t0 v g y z) {fo : Nat → Int64} {pp r b : Int32} {u : StA × (Nat → Int64)} {u2 : StA}
    (h1 : (r = 0 ∧ (inR pp 1 100) ∧ u = ((v, (spS g (v 0) (v 1) (v 2) (v 3) n).2), vp_updL fo 0 (plI (spS g (v 0) (v 1) (v 2) (v 3) n).2 pp (spS g (v 0) (v 1) (v 2) (v 3) n).1).toInt64)) ∨ (trc r (¬ inR pp 1 100) (False) (False) ∧ u = ((v, g), fo)))
    (h2 : b = (if 0 < thI (bI (!(inB pp 1 100))) 0 0 then 0 else (if cnt (fun i => fitB z i (y 3) (y 4) (y 5) (y 6) && hasB z i) n = 0 then -1 else (spT z y n).2 14 ((pp * cnt (fun i => fitB z i (y 3) (y 4) (y 5) (y 6) && hasB z i) n + 99) / 100 - 1).toNatClampNeg)) ∧ u2 = (upd y 0 (thI (bI (!(inB pp 1 100))) 0 0), if 0 < thI (bI (!(inB pp 1 100))) 0 0 then z else (if cnt (fun i => fitB z i (y 3) (y 4) (y 5) (y 6) && hasB z i) n = 0 then z else (spT z y n).2))) :
    u2.1 0 = r ∧ (r = 0 → u.2 0 = b.toInt64) ∧ Rel u.1.1 u.1.2 u2.1 u2.2 := by
  have c1 := nB (inR_B (x := pp) (y := 1) (k := 100))
  obtain ⟨hb, hu2⟩ := h2
  have h0 := h
  obtain ⟨⟨hn, -, -⟩, ⟨hnd, -, -⟩, ⟨q1, q2, q3, q4, -, -⟩, ⟨q5, q6, k1, k2⟩, -, -, i7, i8⟩ := h0
  rcases h1 with ⟨rfl, a1, rfl⟩ | ⟨ht, rfl⟩
  · have tz := th_0 (b_f c1 (by simp [a1])) (b2 := false) rfl (b3 := false) rfl
    rw [bI_f] at tz
    rw [tz, if_neg (by decide)] at hb
    rw [tz, if_neg (by decide)] at hu2
    rw [q5] at k1
    rw [q6] at k2
    obtain ⟨s1, s2, s3, s4, s5⟩ := sp_rel i8 k1 k2 n (Nat.le_refl n)
    rw [show v 0 = y 3 from q1.trans q2.symm, show v 1 = y 4 from q3.trans q4.symm, q5, q6]
    have hm := cntN_le (fun i => fitB z i (y 3) (y 4) (y 5) (y 6) && hasB z i) n
    rw [cnt_nI] at hb hu2
    have hz' : ∀ c, c ≤ 11 → (if nI (cntN (fun i => fitB z i (y 3) (y 4) (y 5) (y 6) && hasB z i) n) = 0 then z else (spT z y n).2) c = z c := by
      intro c hc; split
      · rfl
      · exact s4 c hc
    subst hu2
    refine ⟨by simp [upd], fun _ => ?_, n, nd, f0, t0, Rl_keep h (fun _ _ => rfl) upd_0 s3 hz'⟩
    dsimp only
    rw [upL_0, hb, plI, s1]
    obtain ⟨p, hp, rfl⟩ := inR_n (m := 100) (by decide) ⟨Int32.le_trans (by decide) a1.1, a1.2⟩
    have hp1 : 1 ≤ p := (nI_leI (a := 1) (by decide) (by omega)).mp a1.1
    generalize hM : cntN (fun i => fitB z i (y 3) (y 4) (y 5) (y 6) && hasB z i) n = m at hm s5 ⊢
    obtain ⟨x1, x2, x3, x4⟩ := pl_ix (m := m) hp1 hp (by omega)
    rw [x1, x2]
    rcases Nat.eq_zero_or_pos m with e | e
    · subst e
      rw [if_pos nI_0, if_neg (fun c => by
        have := (nI_leI (a := 1) (by decide) (by omega)).mp c.1
        omega)]
    · have w1 := x3 e
      rw [if_neg (nI_ne0 e (by omega)), if_pos ⟨nI_le (a := 1) w1 (by omega), nI_le x4 (by omega)⟩, show (1 : Int32) = nI 1 from rfl, pk_sub w1, nI_clamp (by omega), s5 _ (by omega)]
  · have tt := trc_th _ false false ht c1 (fun _ => fB) fB
    rw [bI_f] at tt
    obtain ⟨e1, e2, e3⟩ := tt
    rw [e1, if_pos e2] at hu2
    subst hu2
    exact ⟨by simp [upd], fun c => absurd c e3, n, nd, f0, t0, Rl_y0 h⟩
