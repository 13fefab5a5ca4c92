/-! splits: by definitions and by days -/
theorem cntN_rem {Q : Nat → Bool} {i0 : Nat} (hq : Q i0 = true) : ∀ m, (i0 < m → cntN Q m = cntN (fun i => Q i && decide (¬ i = i0)) m + 1) ∧ (m ≤ i0 → cntN Q m = cntN (fun i => Q i && decide (¬ i = i0)) m) := by
  intro m
  induction m with
  | zero => exact ⟨fun h => absurd h (Nat.not_lt_zero _), fun _ => rfl⟩
  | succ m ih =>
    rw [cntN, cntN]
    refine ⟨fun h => ?_, fun h => ?_⟩
    · by_cases c : m = i0
      · subst c
        rw [ih.2 (Nat.le_refl _), hq]
        simp
      · rw [ih.1 (by omega)]
        simp [c]
        omega
    · rw [ih.2 (by omega)]
      simp [show ¬ m = i0 by omega]
theorem cntN_none {Q : Nat → Bool} : ∀ m, (∀ i, i < m → Q i = false) → cntN Q m = 0 := by
  intro m
  induction m with
  | zero => intro _; rfl
  | succ m ih => intro h; rw [cntN, ih (fun i hi => h i (by omega)), h m (by omega)]; rfl
theorem cntN_bij {P : Nat → Bool} {D : Nat → Nat} {m : Nat} : ∀ (nd : Nat) (Q : Nat → Bool), (∀ j, j < nd → P j = true → D j < m ∧ Q (D j) = true) → (∀ j j', j < nd → j' < nd → P j = true → P j' = true → D j = D j' → j = j') → (∀ i, i < m → Q i = true → ∃ j, j < nd ∧ P j = true ∧ D j = i) → cntN P nd = cntN Q m := by
  intro nd
  induction nd with
  | zero =>
    intro Q _ _ h3
    refine (cntN_none m (fun i hi => ?_)).symm
    cases q : Q i with
    | false => rfl
    | true => obtain ⟨j, hj, -⟩ := h3 i hi q; exact absurd hj (Nat.not_lt_zero j)
  | succ nd ih =>
    intro Q h1 h2 h3
    rw [cntN]
    cases c : P nd with
    | false =>
      rw [ih Q (fun j hj => h1 j (by omega)) (fun j j' hj hj' => h2 j j' (by omega) (by omega)) (fun i hi q => by
        obtain ⟨j, hj, e1, e2⟩ := h3 i hi q
        have : j ≠ nd := fun e => by rw [e, c] at e1; cases e1
        exact ⟨j, by omega, e1, e2⟩)]
      simp
    | true =>
      obtain ⟨d1, d2⟩ := h1 nd (by omega) c
      rw [(cntN_rem d2 m).1 d1]
      rw [ih (fun i => Q i && decide (¬ i = D nd)) (fun j hj p => by
        obtain ⟨e1, e2⟩ := h1 j (by omega) p
        refine ⟨e1, ?_⟩
        have : ¬ D j = D nd := fun e => by have := h2 j nd (by omega) (by omega) p c e; omega
        simp [e2, this]) (fun j j' hj hj' => h2 j j' (by omega) (by omega)) (fun i hi q => by
        rw [Bool.and_eq_true, decide_eq_true_iff] at q
        obtain ⟨j, hj, e1, e2⟩ := h3 i hi q.1
        have : j ≠ nd := fun e => by rw [e] at e2; exact q.2 e2.symm
        exact ⟨j, by omega, e1, e2⟩)]
      simp
theorem last_ex {p : Nat → Prop} : ∀ nd, (∃ j, j < nd ∧ p j) → ∃ j, j < nd ∧ p j ∧ ∀ i, i < nd → j < i → ¬ p i := by
  intro nd
  induction nd with
  | zero => rintro ⟨j, hj, -⟩; exact absurd hj (Nat.not_lt_zero j)
  | succ nd ih =>
    rintro ⟨j, hj, hp⟩
    by_cases c : p nd
    · exact ⟨nd, by omega, c, fun i hi hj => by omega⟩
    · have hj2 : j ≠ nd := fun e => c (e ▸ hp)
      obtain ⟨k, hk, e1, e2⟩ := ih ⟨j, by omega, hp⟩
      refine ⟨k, by omega, e1, fun i hi hk2 => ?_⟩
      by_cases q : i = nd
      · rw [q]; exact c
      · exact e2 i (by omega) hk2
theorem day_n {g z : Nat → Nat → Int32} {i : Nat} (h : relD g z i) : ∃ d, d ≤ 9999 ∧ g 1 i = nI d := by
  obtain ⟨-, -, ⟨r1, r2⟩, -⟩ := h
  have h0 : (0 : Int32).toInt = 0 := by decide
  have h9 : (nI 9999).toInt = 9999 := by decide
  exact inR_n (m := 9999) (by decide) ⟨Int32.le_iff_toInt_le.mpr (by omega), Int32.le_iff_toInt_le.mpr (by omega)⟩
theorem mk_same {g z : Nat → Nat → Int32} {x : Nat} (hx : 1 ≤ x) (hx2 : x ≤ 9999) : ∀ nd, (∀ i, i < nd → relD g z i) → (∀ i, i < nd → ¬ g 1 i = nI x) → mkF g (nI x) nd = mkF g (nI (x - 1)) nd := by
  intro nd
  induction nd with
  | zero => intro _ _; rfl
  | succ nd ih =>
    intro hd hn
    rw [mkF, mkF, ih (fun i hi => hd i (by omega)) (fun i hi => hn i (by omega))]
    obtain ⟨d, hd1, hd2⟩ := day_n (hd nd (by omega))
    have h2 := hn nd (by omega)
    rw [hd2] at h2 ⊢
    have h3 : ¬ d = x := fun e => h2 (by rw [e])
    have e : (nI d ≤ nI x) ↔ (nI d ≤ nI (x - 1)) := by
      rw [nI_leI (by omega) (by omega), nI_leI (by omega) (by omega)]; omega
    simp only [e]
theorem st_splits {n nd f0 t0 : Nat} {v : Nat → Int32} {g : Nat → Nat → Int32} {y : Nat → Int32} {z : Nat → Nat → Int32} (h : Rl n nd f0 t0 v g y z) : cnt (fun i => chgB g nd (v 0) (v 1) i) nd = spM z nd f0 (t0 - f0) := by
  obtain ⟨-, ⟨hnd, -, -⟩, ⟨q1, q2, q3, q4, q5, q6⟩, -, -, -, i7, -⟩ := h
  have hm := fun d => (rel_mkOn hnd i7 d).1
  rw [spM, cnt_nI, cnt_nI, q1, q3]
  congr 1
  refine cntN_bij (D := fun j => (g 1 j).toNatClampNeg - (f0 + 1)) nd _ ?_ ?_ ?_
  · intro j hj p
    obtain ⟨d, hd1, hd2⟩ := day_n (i7 j hj)
    simp only [chgB, Bool.and_eq_true, decide_eq_true_iff, hd2] at p
    obtain ⟨⟨⟨p1, p2⟩, -⟩, p4⟩ := p
    have p1' := (nI_ltI (by omega) (by omega)).mp p1
    have p2' := (nI_leI (by omega) (by omega)).mp p2
    rw [hd2, nI_clamp (by omega)]
    refine ⟨by omega, ?_⟩
    rw [decide_eq_true_iff, show f0 + 1 + (d - (f0 + 1)) = d by omega, ← hm, ← hm]
    exact p4
  · intro j j' hj hj' p p' e
    obtain ⟨d, hd1, hd2⟩ := day_n (i7 j hj)
    obtain ⟨d', hd1', hd2'⟩ := day_n (i7 j' hj')
    simp only [chgB, lastB, Bool.and_eq_true, decide_eq_true_iff] at p p'
    obtain ⟨⟨⟨p1, -⟩, p3⟩, -⟩ := p
    obtain ⟨⟨⟨p1', -⟩, p3'⟩, -⟩ := p'
    rw [hd2] at p1
    rw [hd2'] at p1'
    have p1 := (nI_ltI (by omega) (by omega)).mp p1
    have p1' := (nI_ltI (by omega) (by omega)).mp p1'
    rw [hd2, hd2', nI_clamp (by omega), nI_clamp (by omega)] at e
    have e2 : d = d' := by omega
    subst e2
    rcases Nat.lt_trichotomy j j' with c | c | c
    · exact absurd (hd2'.trans hd2.symm) (p3 j' hj' c)
    · exact c
    · exact absurd (hd2.trans hd2'.symm) (p3' j hj c)
  · intro i hi q
    rw [decide_eq_true_iff, ← hm, ← hm] at q
    have hex : ∃ j, j < nd ∧ g 1 j = nI (f0 + 1 + i) := by
      refine Classical.byContradiction (fun c => q ?_)
      have := mk_same (x := f0 + 1 + i) (by omega) (by omega) nd i7 (fun j hj e => c ⟨j, hj, e⟩)
      rw [mkOn, mkOn, this, show (1 : Int32) = nI 1 from rfl, pk_sub (by omega)]
    obtain ⟨j, hj, e1, e2⟩ := last_ex nd hex
    refine ⟨j, hj, ?_, ?_⟩
    · simp only [chgB, lastB, Bool.and_eq_true, decide_eq_true_iff, e1]
      exact ⟨⟨⟨(nI_ltI (by omega) (by omega)).mpr (by omega), (nI_leI (by omega) (by omega)).mpr (by omega)⟩, e2⟩, q⟩
    · skip
      rw [e1, nI_clamp (by omega)]; omega
