/-! class against reference: what ties their states -/
/-- a number from a to b -/
def rng (x : Int32) (a b : Int) : Prop := a ≤ x.toInt ∧ x.toInt ≤ b
theorem rng_m1 {x : Int32} {b : Int} (h : rng x (-1) b) : x < 0 ↔ x = -1 := by
  have e : (-1 : Int32).toInt = -1 := by decide
  have z : (0 : Int32).toInt = 0 := by decide
  constructor
  · intro q
    have := Int32.lt_iff_toInt_lt.mp q
    refine Int32.toInt_inj.mp ?_
    rw [e]
    have := h.1
    omega
  · intro q; rw [q]; decide
theorem rng_m1' {x : Int32} {b : Int} (h : rng x (-1) b) : 0 ≤ x ↔ ¬ x = -1 := by
  rw [← rng_m1 h]
  exact ⟨fun q => Int32.not_lt.mpr q, fun q => Int32.not_lt.mp q⟩
/-- rows: the class's columns g, the reference's z -/
def relR (g z : Nat → Nat → Int32) (i : Nat) : Prop :=
  g 3 i = z 0 i ∧ g 4 i = z 1 i ∧ g 5 i = z 2 i ∧ g 6 i = z 3 i ∧ g 7 i = z 4 i ∧ (∃ m : Nat, m < 4 ∧ g 8 i = nI m) ∧ z 5 i = bI (decide (g 8 i - g 8 i / 2 * 2 = 1)) ∧ z 6 i = bI (decide (1 < g 8 i)) ∧ g 9 i = z 7 i ∧ g 10 i = z 8 i ∧ rng (g 3 i) 0 9999 ∧ rng (g 9 i) (-1) 9999 ∧ rng (g 10 i) (-1) 9999
def relD (g z : Nat → Nat → Int32) (i : Nat) : Prop := g 1 i = z 9 i ∧ g 2 i = z 10 i ∧ rng (g 1 i) 0 9999 ∧ rng (g 2 i) 0 20000
theorem m_hid : ∀ m, m < 4 → decide (¬ (nI m &&& 2) = 0) = decide (1 < nI m) := by decide +kernel
theorem m_wr : ∀ m, m < 4 → decide (¬ (nI m &&& 1) = 0) = decide (nI m - nI m / 2 * 2 = 1) := by decide +kernel
theorem rel_hid {g z : Nat → Nat → Int32} {i : Nat} (h : relR g z i) : hidB g i = decide (¬ z 6 i = 0) := by
  obtain ⟨-, -, -, -, -, ⟨m, hm, e⟩, -, h6, -⟩ := h
  rw [hidB, h6, e, m_hid m hm]
  cases decide (1 < nI m) <;> rfl
theorem rel_wrong {g z : Nat → Nat → Int32} {i : Nat} (h : relR g z i) : decide (¬ (g 8 i &&& 1) = 0) = decide (¬ z 5 i = 0) := by
  obtain ⟨-, -, -, -, -, ⟨m, hm, e⟩, h5, -⟩ := h
  rw [h5, e, m_wr m hm]
  cases decide (nI m - nI m / 2 * 2 = 1) <;> rfl
/-- what is asked -/
def okA (x : Int32) : Prop := x < 0 ↔ x = -1
theorem rel_ask {g z : Nat → Nat → Int32} {i : Nat} (h : relR g z i) {f t kd ar : Int32} (hk : okA kd) (ha : okA ar) : askB g i f t kd ar = fitB z i f t kd ar := by
  have e := rel_hid h
  obtain ⟨h0, -, h2, h3, -⟩ := h
  rw [askB, fitB, e, spanB, inB, h0, h2, h3]
  have e1 : decide (kd = -1) = decide (kd < 0) := decide_eq_decide.mpr hk.symm
  have e2 : decide (ar = -1) = decide (ar < 0) := decide_eq_decide.mpr ha.symm
  rw [e1, e2]
  by_cases q : z 6 i = 0 <;> simp [q]
theorem cnt_eq {P Q : Nat → Bool} : ∀ n, (∀ i, i < n → P i = Q i) → cnt P n = cnt Q n := by
  intro n
  induction n with
  | zero => intro _; rfl
  | succ n ih => intro h; rw [cnt, cnt, ih (fun i hi => h i (by omega)), h n (by omega)]
theorem isum_eq {f f' : Nat → Int32} : ∀ n, (∀ i, i < n → f i = f' i) → isum f n = isum f' n := by
  intro n
  induction n with
  | zero => intro _; rfl
  | succ n ih => intro h; rw [isum, isum, ih (fun i hi => h i (by omega)), h n (by omega)]
theorem rel_both {g z : Nat → Nat → Int32} {i : Nat} (h : relR g z i) : bothB g i = hasB z i := by
  obtain ⟨-, -, -, -, -, -, -, -, h7, h8, -, r9, r10⟩ := h
  rw [bothB, hasB, ← h7, ← h8, decide_eq_decide.mpr (rng_m1' r9), decide_eq_decide.mpr (rng_m1' r10)]
/-- the mark of a day: the last of the greatest days, both ways -/
theorem rel_mark {g z : Nat → Nat → Int32} {d : Int32} : ∀ nd, nd ≤ 6 → (∀ i, i < nd → relD g z i) →
    (fdI z d nd < 0 ∧ mkF g d nd = (-1, 0)) ∨ (∃ j, j < nd ∧ fdI z d nd = nI j ∧ mkF g d nd = (z 10 j, z 9 j)) := by
  intro nd
  induction nd with
  | zero => intro _ _; exact Or.inl ⟨by show (-1 : Int32) < 0; decide, rfl⟩
  | succ nd ih =>
    intro hnd h
    obtain ⟨e1, e2, r1, r2⟩ := h nd (by omega)
    have hz : (0 : Int32) ≤ z 9 nd := by
      rw [← e1]; refine Int32.le_iff_toInt_le.mpr ?_
      have := r1.1; have q : (0 : Int32).toInt = 0 := by decide
      omega
    rw [fdI, mkF, e1, e2]
    rcases ih (by omega) (fun i hi => h i (by omega)) with ⟨h1, h2⟩ | ⟨j, h1, h2, h3⟩
    · rw [h2]
      by_cases c : z 9 nd ≤ d
      · rw [if_pos ⟨c, Or.inl h1⟩, if_pos ⟨c, hz⟩]
        exact Or.inr ⟨nd, by omega, rfl, rfl⟩
      · rw [if_neg (fun q => c q.1), if_neg (fun q => c q.1)]
        exact Or.inl ⟨h1, rfl⟩
    · rw [h3, h2]
      have hj : j < 2 ^ 31 := by omega
      rw [nI_clamp hj]
      by_cases c : z 9 nd ≤ d ∧ z 9 j ≤ z 9 nd
      · rw [if_pos ⟨c.1, Or.inr c.2⟩, if_pos c]
        exact Or.inr ⟨nd, by omega, rfl, rfl⟩
      · rw [if_neg (fun q => c ⟨q.1, q.2.resolve_left (nI_pos hj)⟩), if_neg c]
        exact Or.inr ⟨j, by omega, rfl, rfl⟩
theorem rel_mkOn {g z : Nat → Nat → Int32} {nd : Nat} (hnd : nd ≤ 6) (h : ∀ i, i < nd → relD g z i) (d : Int32) : mkOn g nd d = mkM z nd d ∧ okA (mkM z nd d) := by
  rw [mkOn, mkM]
  rcases rel_mark (d := d) nd hnd h with ⟨h1, h2⟩ | ⟨j, h1, h2, h3⟩
  · rw [h2, if_pos h1]; exact ⟨rfl, ⟨fun _ => rfl, fun _ => by decide⟩⟩
  · have hj : j < 2 ^ 31 := by omega
    rw [h3, h2, if_neg (nI_pos hj), nI_clamp hj]
    refine ⟨rfl, ?_⟩
    obtain ⟨-, e2, -, r2⟩ := h j h1
    rw [← e2]
    exact rng_m1 (b := 20000) ⟨by have := r2.1; omega, r2.2⟩
theorem rel_wout {g z : Nat → Nat → Int32} {nd i : Nat} (hnd : nd ≤ 6) (hd : ∀ i, i < nd → relD g z i) (h : relR g z i) : woutB g i (mkOn g nd (g 3 i)) = woM z nd i := by
  obtain ⟨e1, e2⟩ := rel_mkOn hnd hd (g 3 i)
  have e0 : g 3 i = z 0 i := h.1
  rw [woutB, woM, rel_both h, e1]
  rw [e0] at e2 ⊢
  rw [decide_eq_decide.mpr e2.symm, Bool.or_comm]
theorem rel_win {g z : Nat → Nat → Int32} {nd i : Nat} (hnd : nd ≤ 6) (hd : ∀ i, i < nd → relD g z i) (h : relR g z i) : winB g i (mkOn g nd (g 3 i)) = wiM z nd i := by
  have e := rel_wout hnd hd h
  obtain ⟨e1, -⟩ := rel_mkOn hnd hd (g 3 i)
  obtain ⟨h0, -, -, -, -, -, -, -, h7, h8, -⟩ := h
  rw [winB, wiM, e, e1, h7, h8, h0]
theorem rel_secs {x : Int32} (h : rng x (-1) 9999) : secs x = if 0 < x then x else 0 := by
  rw [secs]
  by_cases q : x = -1
  · rw [if_pos q, q]; decide
  · rw [if_neg q]
    by_cases c : 0 < x
    · rw [if_pos c]
    · rw [if_neg c]
      refine Int32.le_antisymm (Int32.not_lt.mp c) ((rng_m1' h).mpr q)
theorem rel_amt {g z : Nat → Nat → Int32} {nd i : Nat} (hnd : nd ≤ 6) (hd : ∀ i, i < nd → relD g z i) (h : relR g z i) {w : Nat} (hw : w < 5) : amt g i (nI w) (mkOn g nd (g 3 i)) = cM z nd (nI w) i := by
  have e1 := rel_win hnd hd h
  have e2 := rel_wout hnd hd h
  have e3 := rel_wrong h
  have e4 := rel_secs (show rng (g 9 i) (-1) 9999 from h.2.2.2.2.2.2.2.2.2.2.2.1)
  have e5 : g 9 i = z 7 i := h.2.2.2.2.2.2.2.2.1
  rw [amt, cM, isM, e1, e2, e3, e4, e5]
  rcases (show w = 0 ∨ w = 1 ∨ w = 2 ∨ w = 3 ∨ w = 4 by omega) with rfl | rfl | rfl | rfl | rfl
  · rfl
  · simp [show nI 1 = 1 from rfl]
  · simp [show nI 2 = 2 from rfl]
  · simp [show nI 3 = 3 from rfl]
  · simp [show nI 4 = 4 from rfl]
theorem rel_count {g z : Nat → Nat → Int32} {n nd : Nat} (hnd : nd ≤ 6) (hd : ∀ i, i < nd → relD g z i) (h : ∀ i, i < n → relR g z i) {w : Nat} (hw : w < 5) {f t kd ar : Int32} (hk : okA kd) (ha : okA ar) :
    totI g n nd (nI w) f t kd ar = isum (fun i => if fitB z i f t kd ar = true then cM z nd (nI w) i else 0) n := by
  rw [totI]
  refine isum_eq n (fun i hi => ?_)
  rw [rel_ask (h i hi) hk ha, rel_amt hnd hd (h i hi) hw]
theorem rel_hour {g z : Nat → Nat → Int32} {n : Nat} (h : ∀ i, i < n → relR g z i) {ho f t kd ar : Int32} (hk : okA kd) (ha : okA ar) :
    cnt (fun i => askB g i f t kd ar && decide (g 4 i = ho)) n = cnt (fun i => fitB z i f t kd ar && decide (z 1 i = ho)) n := by
  refine cnt_eq n (fun i hi => ?_)
  rw [rel_ask (h i hi) hk ha, (h i hi).2.1]
theorem rel_rows {g z : Nat → Nat → Int32} {n : Nat} (h : ∀ i, i < n → relR g z i) {f t kd ar : Int32} (hk : okA kd) (ha : okA ar) : cnt (fun i => askB g i f t kd ar) n = cnt (fun i => fitB z i f t kd ar) n :=
  cnt_eq n (fun i hi => rel_ask (h i hi) hk ha)
theorem okA_n {k : Nat} (hk : k < 2 ^ 31) : okA (nI k) := ⟨fun h => absurd h (nI_pos hk), fun h => by rw [h]; decide⟩
theorem okA_m : okA (-1) := ⟨fun _ => rfl, fun _ => by decide⟩
