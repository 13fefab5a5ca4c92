/-! shares, and their lowest terms -/
theorem isum_cnt {f : Nat → Int32} {P : Nat → Bool} : ∀ n, (∀ i, i < n → f i = bI (P i)) → isum f n = cnt P n := by
  intro n
  induction n with
  | zero => intro _; rfl
  | succ n ih => intro h; rw [isum, cnt, ih (fun i hi => h i (by omega)), h n (by omega)]
theorem i_sub4 (a x b y : Int32) : (a + x) - (b + y) = (a - b) + (x - y) := by
  simp only [Int32.sub_eq_add_neg, Int32.neg_add]
  ac_rfl
theorem isum_sub {f h : Nat → Int32} : ∀ n, isum f n - isum h n = isum (fun i => f i - h i) n := by
  intro n
  induction n with
  | zero => show (0 : Int32) - 0 = 0; decide
  | succ n ih => rw [isum, isum, isum, i_sub4, ih]
theorem rel_within {g z : Nat → Nat → Int32} {n nd : Nat} (hnd : nd ≤ 6) (hd : ∀ i, i < nd → relD g z i) (h : ∀ i, i < n → relR g z i) {f t kd ar : Int32} (hk : okA kd) (ha : okA ar) :
    totI g n nd 2 f t kd ar = cnt (fun i => shM z nd f t kd ar 0 i) n := by
  rw [show (2 : Int32) = nI 2 from rfl, rel_count hnd hd h (w := 2) (by decide) hk ha]
  refine isum_cnt n (fun i _ => ?_)
  rw [shM, if_pos rfl, cM, isM]
  cases fitB z i f t kd ar <;> simp [show nI 2 = 2 from rfl, bI]
theorem rel_told {g z : Nat → Nat → Int32} {n nd : Nat} (hnd : nd ≤ 6) (hd : ∀ i, i < nd → relD g z i) (h : ∀ i, i < n → relR g z i) {f t kd ar : Int32} (hk : okA kd) (ha : okA ar) :
    totI g n nd 0 f t kd ar - totI g n nd 3 f t kd ar = cnt (fun i => shM z nd f t kd ar 1 i) n := by
  rw [show (0 : Int32) = nI 0 from rfl, show (3 : Int32) = nI 3 from rfl, rel_count hnd hd h (w := 0) (by decide) hk ha, rel_count hnd hd h (w := 3) (by decide) hk ha, isum_sub]
  refine isum_cnt n (fun i _ => ?_)
  rw [shM, if_neg (show ¬ (1 : Int32) = 0 by decide)]
  simp only [cM, isM]
  cases fitB z i f t kd ar <;> cases woM z nd i <;> simp [show nI 3 = 3 from rfl, show nI 0 = 0 from rfl, bI]
/-- Euclid's steps over numbers -/
def euN (a b : Nat) : Nat → Nat × Nat
  | 0 => (a, b)
  | k + 1 => if (euN a b k).2 = 0 then euN a b k else ((euN a b k).2, (euN a b k).1 % (euN a b k).2)
theorem euN_lt {a b : Nat} (ha : a < 2 ^ 31) (hb : b < 2 ^ 31) : ∀ k, (euN a b k).1 < 2 ^ 31 ∧ (euN a b k).2 < 2 ^ 31 := by
  intro k
  induction k with
  | zero => exact ⟨ha, hb⟩
  | succ k ih =>
    rw [euN]
    split
    · exact ih
    · rename_i h
      exact ⟨ih.2, Nat.lt_of_lt_of_le (Nat.mod_lt _ (Nat.pos_of_ne_zero h)) (Nat.le_of_lt ih.2)⟩
theorem eu_N {a b : Nat} (ha : a < 2 ^ 31) (hb : b < 2 ^ 31) : ∀ k, eu (nI a) (nI b) k = (nI (euN a b k).1, nI (euN a b k).2) := by
  intro k
  induction k with
  | zero => rfl
  | succ k ih =>
    obtain ⟨h1, h2⟩ := euN_lt ha hb k
    rw [eu, euN, ih]
    by_cases c : (euN a b k).2 = 0
    · rw [if_pos c, if_pos (by rw [c]; rfl)]
    · have c2 : ¬ nI (euN a b k).2 = 0 := nI_ne0 (Nat.pos_of_ne_zero c) h2
      rw [if_neg c, if_neg c2]
      dsimp only
      rw [pk_rem h1 (Nat.pos_of_ne_zero c) h2]
theorem euN_gcd (a b : Nat) : ∀ k, Nat.gcd (euN a b k).1 (euN a b k).2 = Nat.gcd a b := by
  intro k
  induction k with
  | zero => rfl
  | succ k ih =>
    rw [euN]
    split
    · exact ih
    · rw [← ih, Nat.gcd_comm (euN a b k).1, Nat.gcd_rec (euN a b k).2 (euN a b k).1, Nat.gcd_comm]
theorem euN_half (a b : Nat) (k : Nat) : (euN a b (k + 2)).2 ≤ (euN a b k).2 / 2 := by
  by_cases c : (euN a b k).2 = 0
  · have e1 : euN a b (k + 1) = euN a b k := by rw [euN, if_pos c]
    have e2 : euN a b (k + 2) = euN a b (k + 1) := by rw [euN, if_pos (by rw [e1]; exact c)]
    rw [e2, e1, c]; exact Nat.zero_le _
  · have e1 : euN a b (k + 1) = ((euN a b k).2, (euN a b k).1 % (euN a b k).2) := by rw [euN, if_neg c]
    have hm := Nat.mod_lt (euN a b k).1 (Nat.pos_of_ne_zero c)
    by_cases c2 : (euN a b k).1 % (euN a b k).2 = 0
    · have e2 : euN a b (k + 2) = euN a b (k + 1) := by rw [euN, if_pos (by rw [e1]; exact c2)]
      rw [e2, e1, c2]; exact Nat.zero_le _
    · have e2 : (euN a b (k + 2)).2 = (euN a b k).2 % ((euN a b k).1 % (euN a b k).2) := by
        rw [euN, if_neg (by rw [e1]; exact c2), e1]
      rw [e2]
      generalize (euN a b k).2 = q at hm c2 ⊢
      generalize (euN a b k).1 % q = r at hm c2 ⊢
      have h1 := Nat.mod_lt q (Nat.pos_of_ne_zero c2)
      have h2 := Nat.div_add_mod q r
      have h3 : 1 ≤ q / r := (Nat.le_div_iff_mul_le (Nat.pos_of_ne_zero c2)).mpr (by omega)
      have h4 : r * 1 ≤ r * (q / r) := Nat.mul_le_mul_left r h3
      omega
theorem euN_pow (a b : Nat) : ∀ m, (euN a b (2 * m)).2 ≤ b / 2 ^ m := by
  intro m
  induction m with
  | zero => simp [euN]
  | succ m ih =>
    have h := euN_half a b (2 * m)
    rw [show 2 * (m + 1) = 2 * m + 2 by omega, Nat.pow_succ, ← Nat.div_div_eq_div_mul]
    exact Nat.le_trans h (Nat.div_le_div_right ih)
theorem gcdI_N {a b : Nat} (ha : a < 2 ^ 31) (hb : b < 2 ^ 31) : gcdI (nI a) (nI b) = nI (Nat.gcd a b) := by
  have h := euN_pow a b 32
  rw [Nat.div_eq_of_lt (Nat.lt_trans hb (by decide))] at h
  have h0 : (euN a b 64).2 = 0 := Nat.le_zero.mp h
  have hg := euN_gcd a b 64
  rw [h0, Nat.gcd_zero_right] at hg
  rw [gcdI, n64_eq, eu_N ha hb]
  dsimp only
  rw [hg]
theorem lowT_N {x : Int32} {a b : Nat} (ha : a < 2 ^ 31) (hb : b < 2 ^ 31) (h0 : 0 < b) : lowT x (nI a) (nI b) = x / nI (Nat.gcd a b) := by
  have hp : 0 < Nat.gcd a b := Nat.gcd_pos_of_pos_right _ h0
  have hl : Nat.gcd a b < 2 ^ 31 := Nat.lt_of_le_of_lt (Nat.gcd_le_right _ h0) hb
  rw [lowT, gcdI_N ha hb, if_pos (show (0 : Int32) < nI (Nat.gcd a b) from nI_lt (a := 0) hp hl)]
