/-! compare, rank, work -/
theorem cmp_rel {p q : Nat} (hp : p < 2 ^ 31) (hq : q < 2 ^ 31) : icmp (nI p) (nI q) = if 0 < lg_cmp (lN p) (lN q) then 1 else if lg_cmp (lN p) (lN q) < 0 then -1 else 0 := by
  rw [icmp]
  rcases Nat.lt_trichotomy p q with h | h | h
  · have h1 : nI p < nI q := nI_lt h hq
    have h2 : lN p < lN q := (lN_lt hp hq).mpr h
    have h3 : ¬ lN q < lN p := fun c => by have := (lN_lt hq hp).mp c; omega
    have h4 : ¬ lN p = lN q := fun c => by have := (lN_eq hp hq).mp c; omega
    have e : lg_cmp (lN p) (lN q) = -1 := by simp [lg_cmp, h3, h4]
    rw [if_pos h1, e]; rfl
  · subst h
    have h3 : ¬ lN p < lN p := fun c => by have := (lN_lt hp hp).mp c; omega
    have h1 : ¬ nI p < nI p := nI_nlt (Nat.le_refl _) hp
    have e : lg_cmp (lN p) (lN p) = 0 := by simp [lg_cmp]
    rw [if_neg h1, if_pos rfl, e]; rfl
  · have h1 : ¬ nI p < nI q := nI_nlt (Nat.le_of_lt h) hp
    have h2 : ¬ nI p = nI q := fun c => by have := (nI_eq hp hq).mp c; omega
    have h3 : lN q < lN p := (lN_lt hq hp).mpr h
    have e : lg_cmp (lN p) (lN q) = 1 := by simp [lg_cmp, h3]
    rw [if_neg h1, if_neg h2, e]; rfl
theorem cmp_cnt (P1 P2 P3 P4 : Nat → Bool) {n : Nat} (hn : n ≤ 200) : icmp (cnt P1 n * cnt P2 n) (cnt P3 n * cnt P4 n) = if 0 < lg_cmp ((cnt P1 n).toInt64 * (cnt P2 n).toInt64) ((cnt P3 n).toInt64 * (cnt P4 n).toInt64) then 1 else if lg_cmp ((cnt P1 n).toInt64 * (cnt P2 n).toInt64) ((cnt P3 n).toInt64 * (cnt P4 n).toInt64) < 0 then -1 else 0 := by
  have h1 := cntN_le P1 n
  have h2 := cntN_le P2 n
  have h3 := cntN_le P3 n
  have h4 := cntN_le P4 n
  rw [cnt_nI P1, cnt_nI P2, cnt_nI P3, cnt_nI P4, nI_l (by omega), nI_l (by omega), nI_l (by omega), nI_l (by omega), pk_mul, pk_mul, lN_mul, lN_mul]
  have m1 : cntN P1 n * cntN P2 n ≤ 200 * 200 := Nat.mul_le_mul (by omega) (by omega)
  have m2 : cntN P3 n * cntN P4 n ≤ 200 * 200 := Nat.mul_le_mul (by omega) (by omega)
  exact cmp_rel (by omega) (by omega)
theorem rel_rank {g z : Nat → Nat → Int32} {v y : Nat → Int32} {n : Nat} (h : ∀ i, i < n → relR g z i) (h0 : v 0 = y 3) (h1 : v 1 = y 4) (h2 : v 2 = y 5) (hk : okA (v 2)) {ar : Int32} (ha : okA ar) {m : Nat} (hm : m ≤ 10) : rkI g v n ar m = rkM z y n ar m := by
  rw [rkI, rkM]
  refine cnt_eq m (fun o ho => ?_)
  rw [rel_rows h hk ha, rel_rows h hk (okA_n (k := o) (by omega)), h0, h1, h2]
theorem rel_workB {g z : Nat → Nat → Int32} {i : Nat} (h : relR g z i) {st f t : Int32} : workB g i st f t = (fitB z i f t (-1) (-1) && decide (z 4 i = st)) := by
  rw [workB, rel_ask h okA_m okA_m, h.2.2.2.2.1, Bool.and_comm]
theorem rel_work {g z : Nat → Nat → Int32} {v y : Nat → Int32} {n : Nat} (h : ∀ i, i < n → relR g z i) (h0 : v 0 = y 3) (h1 : v 1 = y 4) {st w : Int32} :
    (if w = 0 then cnt (fun i => workB g i st (v 0) (v 1)) n else isum (fun i => if workB g i st (v 0) (v 1) = true then secs (g 9 i) + secs (g 10 i) else 0) n) = isum (wkM z y st w) n := by
  by_cases c : w = 0
  · rw [if_pos c]
    refine (isum_cnt n (fun i hi => ?_)).symm
    rw [wkM, rel_workB (h i hi), h0, h1, if_pos c]
    cases fitB z i (y 3) (y 4) (-1) (-1) <;> by_cases q : z 4 i = st <;> simp [q, bI]
  · rw [if_neg c]
    refine isum_eq n (fun i hi => ?_)
    have r9 := rel_secs (show rng (g 9 i) (-1) 9999 from (h i hi).2.2.2.2.2.2.2.2.2.2.2.1)
    have r10 := rel_secs (show rng (g 10 i) (-1) 9999 from (h i hi).2.2.2.2.2.2.2.2.2.2.2.2)
    have e9 : g 9 i = z 7 i := (h i hi).2.2.2.2.2.2.2.2.1
    have e10 : g 10 i = z 8 i := (h i hi).2.2.2.2.2.2.2.2.2.1
    rw [wkM, rel_workB (h i hi), h0, h1, if_neg c, r9, r10, kM, e9, e10]
    cases fitB z i (y 3) (y 4) (-1) (-1) <;> by_cases q : z 4 i = st <;> simp [q]
/-! placed: both sort the same sums in -/
theorem insG_hi {x : Int32} : ∀ (q : Nat) (g : Nat → Nat → Int32) (j : Nat), q < j → insG x q g 11 j = g 11 j := by
  intro q
  induction q with
  | zero => intro g j hj; simp [insG, upg, upd, show ¬ j = 0 by omega]
  | succ q ih =>
    intro g j hj
    rw [insG]
    split
    · rw [ih _ j (by omega)]; simp [upg, upd, show ¬ j = q + 1 by omega]
    · simp [upg, upd, show ¬ j = q + 1 by omega]
theorem insM_hi {x : Int32} : ∀ (q : Nat) (g : Nat → Nat → Int32) (j : Nat), q < j → insM x q g 14 j = g 14 j := by
  intro q
  induction q with
  | zero => intro g j hj; simp [insM, upg, upd, show ¬ j = 0 by omega]
  | succ q ih =>
    intro g j hj
    rw [insM]
    split
    · rw [ih _ j (by omega)]; simp [upg, upd, show ¬ j = q + 1 by omega]
    · simp [upg, upd, show ¬ j = q + 1 by omega]
theorem ins_rel {x : Int32} : ∀ (q : Nat) (g z : Nat → Nat → Int32), (∀ j, j < q → g 11 j = z 14 j) → (∀ j, j < q + 1 → insG x q g 11 j = insM x q z 14 j) ∧ (∀ c, c ≠ 11 → insG x q g c = g c) ∧ (∀ c, c ≠ 14 → insM x q z c = z c) := by
  intro q
  induction q with
  | zero =>
    intro g z _
    refine ⟨fun j hj => ?_, fun c hc => ?_, fun c hc => ?_⟩
    · have : j = 0 := by omega
      subst this
      rw [insG, insM, upg_at, upg_at]
    · simp [insG, upg, hc]
    · simp [insM, upg, hc]
  | succ q ih =>
    intro g z h
    have e := h q (by omega)
    rw [insG, insM, e]
    by_cases c : x < z 14 q
    · rw [if_pos c, if_pos c]
      have h2 : ∀ j, j < q → upg g 11 (q + 1) (z 14 q) 11 j = upg z 14 (q + 1) (z 14 q) 14 j := by
        intro j hj
        simp only [upg, upd, if_true]
        rw [if_neg (by omega), if_neg (by omega)]
        exact h j (by omega)
      obtain ⟨i1, i2, i3⟩ := ih _ _ h2
      refine ⟨fun j hj => ?_, fun c hc => ?_, fun c hc => ?_⟩
      · by_cases hj2 : j < q + 1
        · exact i1 j hj2
        · have : j = q + 1 := by omega
          subst this
          rw [insG_hi _ _ _ (Nat.lt_succ_self q), insM_hi _ _ _ (Nat.lt_succ_self q), upg_at, upg_at]
      · rw [i2 c hc]; simp [upg, hc]
      · rw [i3 c hc]; simp [upg, hc]
    · rw [if_neg c, if_neg c]
      refine ⟨fun j hj => ?_, fun c hc => ?_, fun c hc => ?_⟩
      · by_cases hj2 : j = q + 1
        · subst hj2; rw [upg_at, upg_at]
        · simp only [upg, upd, if_true]
          rw [if_neg hj2, if_neg hj2]
          exact h j (by omega)
      · simp [upg, hc]
      · simp [upg, hc]
