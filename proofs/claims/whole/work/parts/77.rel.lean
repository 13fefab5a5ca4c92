/-! small counts joined -/
def cA (z : Nat → Nat → Int32) (y : Nat → Int32) (n k : Nat) : Int32 := cnt (fun i => fitB z i (y 3) (y 4) (-1) (nI k)) n
def cAN (z : Nat → Nat → Int32) (y : Nat → Int32) (n k : Nat) : Nat := cntN (fun i => fitB z i (y 3) (y 4) (-1) (nI k)) n
def smB (z : Nat → Nat → Int32) (y : Nat → Int32) (n k : Nat) : Bool := inB (cA z y n k) 1 (y 7 - 1)
def smS (z : Nat → Nat → Int32) (y : Nat → Int32) (n : Nat) : Nat → Nat
  | 0 => 0
  | k + 1 => smS z y n k + (if smB z y n k = true then cAN z y n k else 0)
theorem cA_N (z : Nat → Nat → Int32) (y : Nat → Int32) (n k : Nat) : cA z y n k = nI (cAN z y n k) := cnt_nI _ _
theorem smS_le {z : Nat → Nat → Int32} {y : Nat → Int32} {n : Nat} (hn : n ≤ 200) : ∀ k, smS z y n k ≤ 200 * k := by
  intro k
  induction k with
  | zero => exact Nat.le_refl _
  | succ k ih =>
    have := cntN_le (fun i => fitB z i (y 3) (y 4) (-1) (nI k)) n
    rw [smS]
    split
    · rw [cAN]; omega
    · omega
theorem cA_cong {z z' : Nat → Nat → Int32} (h : ∀ c, ¬ c = 15 → z' c = z c) (y : Nat → Int32) (n k : Nat) : cA z' y n k = cA z y n k := by
  refine cnt_eq n (fun i _ => fitB_cong (fun c hc => h c (by omega)))
theorem cA_of {n nd f0 t0 : Nat} {v : Nat → Int32} {g : Nat → Nat → Int32} {y : Nat → Int32} {z : Nat → Nat → Int32} (h : Rl n nd f0 t0 v g y z) {g' : Nat → Nat → Int32} (hg : ∀ c, c < 13 → g' c = g c) {k : Nat} (hk : k < 10) : cnt (fun i => askB g' i (v 0) (v 1) (-1) (nI k)) n = cA z y n k := by
  obtain ⟨-, -, ⟨q1, q2, q3, q4, -, -⟩, -, -, -, -, i8⟩ := h
  rw [cA, ← rel_rows i8 okA_m (okA_n (by omega)), q2, q4, q1, q3]
  exact cnt_eq n (fun i _ => askB_cong (fun c hc => hg c (by omega)))
theorem sm_iff {x w : Int32} (h : rng w 1 100) : (1 ≤ x ∧ x < w) ↔ inB x 1 (w - 1) = true := by
  obtain ⟨m, hm, rfl⟩ := inR_n (x := w) (m := 100) (by decide) ⟨Int32.le_iff_toInt_le.mpr (by have := h.1; rw [show (0 : Int32).toInt = 0 by decide]; omega), Int32.le_iff_toInt_le.mpr (by have := h.2; rw [show (nI 100).toInt = 100 by decide]; omega)⟩
  have h1 : 1 ≤ m := by have := h.1; rw [nI_toInt (by omega)] at this; omega
  rw [inB, Bool.and_eq_true, decide_eq_true_iff, decide_eq_true_iff]
  refine and_congr_right (fun _ => ?_)
  rw [Int32.lt_iff_toInt_lt, Int32.le_iff_toInt_le, show (1 : Int32) = nI 1 from rfl, pk_sub h1, nI_toInt (by omega), nI_toInt (by omega)]
  omega
theorem jl_rel {n nd f0 t0 : Nat} {v : Nat → Int32} {g : Nat → Nat → Int32} {y : Nat → Int32} {z : Nat → Nat → Int32} (h : Rl n nd f0 t0 v g y z) : ∀ k, k ≤ 10 →
    ((∀ j, ¬ j = 8 → (jlS v g (v 0) (v 1) n k).1 j = v j) ∧ (jlS v g (v 0) (v 1) n k).1 8 = nI (smS z y n k) ∧ (∀ c, c < 13 → (jlS v g (v 0) (v 1) n k).2 c = g c) ∧ (∀ j, j < k → (jlS v g (v 0) (v 1) n k).2 13 j = cA z y n j ∧ (jlS v g (v 0) (v 1) n k).2 14 j = bI (smB z y n j))) := by
  intro k
  induction k with
  | zero => intro _; exact ⟨fun j hj => by simp [jlS, upd, hj], by simp [jlS, upd, smS, nI_0], fun _ _ => rfl, fun j hj => absurd hj (Nat.not_lt_zero j)⟩
  | succ k ih =>
    intro hk
    obtain ⟨i1, i2, i3, i4⟩ := ih (by omega)
    have hw := h.2.2.2.2.1
    have e := cA_of h i3 (k := k) (by omega)
    have e7 : (jlS v g (v 0) (v 1) n k).1 7 = y 7 := by rw [i1 7 (by decide)]; exact hw.1
    have hsm : (1 ≤ cA z y n k ∧ cA z y n k < y 7) ↔ smB z y n k = true := sm_iff (by rw [← hw.1]; exact hw.2)
    rw [jlS, smS]
    simp only [e, e7]
    by_cases c : smB z y n k = true
    · have c2 := hsm.mpr c
      rw [if_pos c2, if_pos c]
      refine ⟨fun j hj => by simp [upd, hj, i1 j hj], by simp [upd, i2, cA_N, nI_add], fun c hc => ?_, fun j hj => ?_⟩
      · simp [upg, show ¬ c = 14 by omega, show ¬ c = 13 by omega, i3 c hc]
      · by_cases q : j = k
        · subst q; simp [upg, upd, c, bI]
        · have := i4 j (by omega)
          simpa [upg, upd, q] using this
    · have c2 : ¬ (1 ≤ cA z y n k ∧ cA z y n k < y 7) := fun q => c (hsm.mp q)
      rw [if_neg c2, if_neg c]
      refine ⟨fun j hj => by simp [upd, hj, i1 j hj], by simp [upd, i2], fun c hc => ?_, fun j hj => ?_⟩
      · simp [upg, show ¬ c = 14 by omega, show ¬ c = 13 by omega, i3 c hc]
      · by_cases q : j = k
        · subst q; simp [upg, upd, c, bI]
        · have := i4 j (by omega)
          simpa [upg, upd, q] using this
theorem jk_rel {z : Nat → Nat → Int32} {y : Nat → Int32} {n : Nat} (hn : n ≤ 200) : ∀ k, k ≤ 10 →
    ((jkM z y n k).1 = cnt (fun i => decide (¬ z 6 i = 0) && inB (z 0 i) (y 3) (y 4)) n + nI (smS z y n k) ∧ ((jkM z y n k).2.1 = true ↔ 0 < smS z y n k) ∧ (∀ c, ¬ c = 15 → (jkM z y n k).2.2 c = z c) ∧ (∀ j, j < k → (jkM z y n k).2.2 15 j = bI (smB z y n j))) := by
  intro k
  induction k with
  | zero => intro _; exact ⟨by simp [jkM, smS, nI_0], by simp [jkM, smS], fun _ _ => rfl, fun j hj => absurd hj (Nat.not_lt_zero j)⟩
  | succ k ih =>
    intro hk
    obtain ⟨i1, i2, i3, i4⟩ := ih (by omega)
    have e : cnt (fun i => fitB (jkM z y n k).2.2 i (y 3) (y 4) (-1) (nI k)) n = cA z y n k := cA_cong i3 y n k
    rw [jkM, smS]
    simp only [e]
    have es : inB (cA z y n k) 1 (y 7 - 1) = smB z y n k := rfl
    rw [es]
    refine ⟨?_, ?_, fun c hc => by simp [upg, hc, i3 c hc], fun j hj => ?_⟩
    · rw [i1]
      split
      · rw [cA_N, Int32.add_assoc, nI_add]
      · rw [Int32.add_zero]; rfl
    · rw [Bool.or_eq_true, i2]
      cases c : smB z y n k with
      | false => simp
      | true =>
        have hp : 0 < cAN z y n k := by
          rw [smB, inB, Bool.and_eq_true, decide_eq_true_iff, cA_N] at c
          have hl := cntN_le (fun i => fitB z i (y 3) (y 4) (-1) (nI k)) n
          exact (nI_leI (a := 1) (by decide) (by rw [cAN]; omega)).mp c.1
        simp
        omega
    · by_cases q : j = k
      · subst q; simp [upg, upd]
      · have := i4 j (by omega)
        simpa [upg, upd, q] using this
/-- both, on the way -/
def jInv (v : Nat → Int32) (g : Nat → Nat → Int32) (y : Nat → Int32) (z : Nat → Nat → Int32) (n : Nat) (u : StA) (w : Int32 × (Nat → Nat → Int32)) : Prop :=
  (∀ j, ¬ j = 8 → u.1 j = v j) ∧ u.1 8 = w.1 ∧ (∀ c, c < 13 → u.2 c = g c) ∧ (∀ c, ¬ c = 15 → w.2 c = z c) ∧ (∀ j, j < 10 → u.2 13 j = cA z y n j ∧ u.2 14 j = w.2 15 j)
theorem few_rel {v : Nat → Int32} {g : Nat → Nat → Int32} {y : Nat → Int32} {z : Nat → Nat → Int32} {n : Nat} {u : StA} {w : Int32 × (Nat → Nat → Int32)} (h : jInv v g y z n u w) : ∀ k, k ≤ 10 → fewI u.2 k = feM w.2 y n k := by
  obtain ⟨-, -, -, h4, h5⟩ := h
  intro k
  induction k with
  | zero => intro _; rfl
  | succ k ih =>
    intro hk
    have e1 : ∀ k, cnt (fun i => fitB w.2 i (y 3) (y 4) (-1) (nI k)) n = cA z y n k := fun k => cA_cong h4 y n k
    rw [fewI, feM, ih (by omega), canB, (h5 k (by omega)).1, (h5 k (by omega)).2, e1 k]
    rcases feM_in w.2 y n k with c | ⟨j, hj, c, -⟩
    · simp [c]
    · have hj0 := nI_pos (n := j) (by omega)
      rw [c, e1 j, nI_clamp (by omega), (h5 j (by omega)).1]
      simp [hj0, and_assoc]
theorem jw_rel {v : Nat → Int32} {g : Nat → Nat → Int32} {y : Nat → Int32} {z : Nat → Nat → Int32} {n : Nat} (h7 : v 7 = y 7) : ∀ (d : Nat) (u : StA) (w : Int32 × (Nat → Nat → Int32)), jInv v g y z n u w → jInv v g y z n (jmS d u) (jwM y n d w) := by
  intro d
  induction d with
  | zero => intro u w h; exact h
  | succ d ih =>
    intro u w h
    have hf : fewest u.2 = feX w.2 y n := by rw [fewest, feX, n10_eq]; exact few_rel h 10 (Nat.le_refl _)
    have e8 := h.2.1
    have e7 : u.1 7 = y 7 := by rw [h.1 7 (by decide)]; exact h7
    rw [jmS, jwM, hf, e8, e7]
    by_cases c1 : w.1 < y 7
    · rw [if_pos c1, if_pos c1]
      by_cases c2 : feX w.2 y n < 0
      · rw [if_pos c2, if_pos c2]; exact h
      · rw [if_neg c2, if_neg c2]
        refine ih _ _ ?_
        obtain ⟨x1, x2, -⟩ := feX_at w.2 y n c2
        obtain ⟨h1, -, h3, h4, h5⟩ := h
        have e1 : cnt (fun i => fitB w.2 i (y 3) (y 4) (-1) (feX w.2 y n)) n = cA z y n (feX w.2 y n).toNatClampNeg := by
          rw [x1, nI_clamp (by omega)]; exact cA_cong h4 y n _
        refine ⟨fun j hj => by simp [upd, hj, h1 j hj], ?_, fun c hc => by simp [upg, show ¬ c = 14 by omega, h3 c hc], fun c hc => by simp [upg, hc, h4 c hc], fun j hj => ?_⟩
        · dsimp only
          rw [e1, ← (h5 _ x2).1]; simp [upd]
        · by_cases q : j = (feX w.2 y n).toNatClampNeg
          · subst q
            refine ⟨by simp [upg, (h5 _ x2).1], by simp [upg, upd]⟩
          · have := h5 j hj
            simpa [upg, upd, q] using this
    · rw [if_neg c1, if_neg c1]; exact h
theorem jw_stay {y : Nat → Int32} {n : Nat} : ∀ (d : Nat) (w : Int32 × (Nat → Nat → Int32)), unj w.2 ≤ d → jwM y n (d + 1) w = jwM y n d w := by
  intro d
  induction d with
  | zero =>
    intro w h
    rw [jwM, jwM]
    split
    · split
      · rfl
      · rename_i c2
        obtain ⟨x1, x2, x3⟩ := feX_at w.2 y n c2
        have := unj_lt w.2 x2 x3
        omega
    · rfl
  | succ d ih =>
    intro w h
    rw [jwM, jwM.eq_def y n (d + 1) w]
    dsimp only
    split
    · split
      · rfl
      · rename_i c2
        obtain ⟨x1, x2, x3⟩ := feX_at w.2 y n c2
        have := unj_lt w.2 x2 x3
        exact ih _ (by dsimp only; omega)
    · rfl
theorem join_rel {n nd f0 t0 : Nat} {v : Nat → Int32} {g : Nat → Nat → Int32} {y : Nat → Int32} {z : Nat → Nat → Int32} (h : Rl n nd f0 t0 v g y z) : jInv v g y z n (joinS v g (v 0) (v 1) n) (joM z y n) := by
  have hn : n ≤ 200 := h.1.1
  have h0 := h
  obtain ⟨-, -, ⟨q1, q2, q3, q4, -, -⟩, -, ⟨q7, -⟩, -, -, i8⟩ := h0
  obtain ⟨a1, a2, a3, a4⟩ := jl_rel h 10 (Nat.le_refl _)
  obtain ⟨b1, b2, b3, b4⟩ := jk_rel (z := z) (y := y) hn 10 (Nat.le_refl _)
  have hs := smS_le (z := z) (y := y) hn 10
  rw [joinS, joM, n10_eq]
  have hhid : cnt (fun i => hidB (jlS v g (v 0) (v 1) n 10).2 i && spanB (jlS v g (v 0) (v 1) n 10).2 i (v 0) (v 1)) n = cnt (fun i => decide (¬ z 6 i = 0) && inB (z 0 i) (y 3) (y 4)) n := by
    refine cnt_eq n (fun i hi => ?_)
    have R := i8 i hi
    have e1 : hidB (jlS v g (v 0) (v 1) n 10).2 i = hidB g i := by rw [hidB, hidB, a3 8 (by omega)]
    have e2 : spanB (jlS v g (v 0) (v 1) n 10).2 i (v 0) (v 1) = spanB g i (v 0) (v 1) := by rw [spanB, spanB, a3 3 (by omega)]
    rw [e1, e2, rel_hid R, spanB, inB, R.1, q1, q3, q2, q4]
  rw [a2]
  by_cases c : 0 < smS z y n 10
  · rw [if_pos (show (0 : Int32) < nI (smS z y n 10) from nI_lt (a := 0) c (by omega)), if_pos (b2.mpr c)]
    have inv : jInv v g y z n (upd (jlS v g (v 0) (v 1) n 10).1 8 (nI (smS z y n 10) + cnt (fun i => hidB (jlS v g (v 0) (v 1) n 10).2 i && spanB (jlS v g (v 0) (v 1) n 10).2 i (v 0) (v 1)) n), (jlS v g (v 0) (v 1) n 10).2) ((jkM z y n 10).1, (jkM z y n 10).2.2) := by
      refine ⟨fun j hj => by simp [upd, hj, a1 j hj], ?_, a3, b3, fun j hj => ⟨(a4 j hj).1, (a4 j hj).2.trans (b4 j hj).symm⟩⟩
      dsimp only
      rw [hhid, b1, Int32.add_comm]; simp [upd]
    rw [jw_stay 10 _ (cntN_le _ _)]
    exact jw_rel q7 10 _ _ inv
  · have c0 : smS z y n 10 = 0 := by omega
    have cb : ¬ (jkM z y n 10).2.1 = true := fun q => c (b2.mp q)
    rw [c0, if_neg (by rw [nI_0]; decide), if_neg cb]
    exact ⟨a1, by rw [a2, c0]; rfl, a3, b3, fun j hj => ⟨(a4 j hj).1, (a4 j hj).2.trans (b4 j hj).symm⟩⟩
theorem st_joined {n nd f0 t0 : Nat} {v : Nat → Int32} {g : Nat → Nat → Int32} {y : Nat → Int32} {z : Nat → Nat → Int32} (h : Rl n nd f0 t0 v g y z) : (joinS v g (v 0) (v 1) n).1 8 = (joM z (upd y 0 0) n).1 ∧ Rel (joinS v g (v 0) (v 1) n).1 (joinS v g (v 0) (v 1) n).2 (upd y 0 0) (joM z (upd y 0 0) n).2 := by
  obtain ⟨j1, j2, j3, j4, -⟩ := join_rel (Rl_y0 (x := 0) h)
  exact ⟨j2, n, nd, f0, t0, Rl_keep h (fun k hk => j1 k (by omega)) upd_0 (fun c hc => j3 c (by omega)) (fun c hc => j4 c (by omega))⟩
theorem st_shown {n nd f0 t0 : Nat} {v : Nat → Int32} {g : Nat → Nat → Int32} {y : Nat → Int32} {z : Nat → Nat → Int32} (h : Rl n nd f0 t0 v g y z) {fo : Nat → Int64} {ar r b : Int32} {u : StA × (Nat → Int64)} {u2 : StA}
    (h1 : (r = 0 ∧ (inU ar 10) ∧ u = (((joinS v g (v 0) (v 1) n).1, (joinS v g (v 0) (v 1) n).2), vp_updL fo 0 ((if (joinS v g (v 0) (v 1) n).2 14 ar.toNatClampNeg = 0 then (joinS v g (v 0) (v 1) n).2 13 ar.toNatClampNeg else -1)).toInt64)) ∨ (trc r (¬ inU ar 10) (False) (False) ∧ u = ((v, g), fo)))
    (h2 : b = (if 0 < thI (bI (!(inB ar 0 9))) 0 0 then 0 else (if (joM z (upd y 0 (thI (bI (!(inB ar 0 9))) 0 0)) n).2 15 ar.toNatClampNeg = 0 then cnt (fun i => fitB (joM z (upd y 0 (thI (bI (!(inB ar 0 9))) 0 0)) n).2 i (y 3) (y 4) (-1) ar) n else -1)) ∧ u2 = (upd y 0 (thI (bI (!(inB ar 0 9))) 0 0), if 0 < thI (bI (!(inB ar 0 9))) 0 0 then z else (joM z (upd y 0 (thI (bI (!(inB ar 0 9))) 0 0)) n).2)) :
    u2.1 0 = r ∧ (r = 0 → u.2 0 = b.toInt64) ∧ Rel u.1.1 u.1.2 u2.1 u2.2 := by
  have c1 := nB (inU_B (x := ar) (y := 10) (k := 9) (by decide))
  obtain ⟨hb, hu2⟩ := h2
  rcases h1 with ⟨rfl, a1, rfl⟩ | ⟨ht, rfl⟩
  · have tz := th_0 (b_f c1 (by simp [a1])) (b2 := false) rfl (b3 := false) rfl
    rw [bI_f] at tz
    rw [tz, if_neg (by decide)] at hb hu2
    obtain ⟨j1, j2, j3, j4, j5⟩ := join_rel (Rl_y0 (x := 0) h)
    subst hu2
    refine ⟨by simp [upd], fun _ => ?_, n, nd, f0, t0, Rl_keep h (fun k hk => j1 k (by omega)) upd_0 (fun c hc => j3 c (by omega)) (fun c hc => j4 c (by omega))⟩
    dsimp only
    obtain ⟨j, hj, rfl⟩ := inU_n (m := 10) (by decide) a1
    have e : cnt (fun i => fitB (joM z (upd y 0 0) n).2 i (y 3) (y 4) (-1) (nI j)) n = cA z (upd y 0 0) n j := cA_cong j4 (upd y 0 0) n j
    rw [upL_0, hb, e, nI_clamp (by omega), (j5 j hj).1, (j5 j hj).2]
  · have tt := trc_th _ false false ht c1 (fun _ => fB) fB
    rw [bI_f] at tt
    obtain ⟨e1, e2, e3⟩ := tt
    rw [e1, if_pos e2] at hu2
    subst hu2
    exact ⟨by simp [upd], fun c => absurd c e3, n, nd, f0, t0, Rl_y0 h⟩
