/-! trends: orders by recursion, and by the table -/
def nsum (f : Nat → Nat) : Nat → Nat
  | 0 => 0
  | n + 1 => nsum f n + f n
theorem nsum_s {f : Nat → Nat} {n : Nat} : nsum f (n + 1) = nsum f n + f n := rfl
theorem nsum_eq {f f' : Nat → Nat} : ∀ n, (∀ i, i < n → f i = f' i) → nsum f n = nsum f' n := by
  intro n
  induction n with
  | zero => intro _; rfl
  | succ n ih => intro h; rw [nsum, nsum, ih (fun i hi => h i (by omega)), h n (by omega)]
theorem nsum_z {f : Nat → Nat} : ∀ n, (∀ i, i < n → f i = 0) → nsum f n = 0 := by
  intro n
  induction n with
  | zero => intro _; rfl
  | succ n ih => intro h; rw [nsum, ih (fun i hi => h i (by omega)), h n (by omega)]
theorem nsum_add {f f' : Nat → Nat} : ∀ n, nsum (fun i => f i + f' i) n = nsum f n + nsum f' n := by
  intro n
  induction n with
  | zero => rfl
  | succ n ih => rw [nsum, nsum, nsum, ih]; omega
theorem nsum_mul {f : Nat → Nat} (c : Nat) : ∀ n, nsum (fun i => c * f i) n = c * nsum f n := by
  intro n
  induction n with
  | zero => rfl
  | succ n ih => rw [nsum, nsum, ih, Nat.mul_add]
theorem nsum_swap {f : Nat → Nat → Nat} {m : Nat} : ∀ n, nsum (fun i => nsum (fun j => f i j) m) n = nsum (fun j => nsum (fun i => f i j) n) m := by
  intro n
  induction n with
  | zero => exact (nsum_z m (fun _ _ => rfl)).symm
  | succ n ih =>
    rw [nsum, ih, ← nsum_add]
    exact nsum_eq m (fun i _ => rfl)
theorem nsum_at {f f' : Nat → Nat} {k d : Nat} : ∀ n, (∀ i, i < n → ¬ i = k → f' i = f i) → f' k = f k + d → (k < n → nsum f' n = nsum f n + d) ∧ (n ≤ k → nsum f' n = nsum f n) := by
  intro n
  induction n with
  | zero => intro _ _; exact ⟨fun h => absurd h (Nat.not_lt_zero k), fun _ => rfl⟩
  | succ n ih =>
    intro h hk
    obtain ⟨i1, i2⟩ := ih (fun i hi => h i (by omega)) hk
    rw [nsum, nsum]
    refine ⟨fun hl => ?_, fun hl => ?_⟩
    · by_cases c : n = k
      · rw [i2 (by omega), c, hk]; omega
      · rw [i1 (by omega), h n (by omega) c]; omega
    · rw [i2 (by omega), h n (by omega) (by omega)]
theorem nsum_get {f : Nat → Nat} {k : Nat} : ∀ n, k < n → f k ≤ nsum f n := by
  intro n
  induction n with
  | zero => intro h; exact absurd h (Nat.not_lt_zero k)
  | succ n ih =>
    intro h
    rw [nsum]
    by_cases c : k = n
    · subst c; omega
    · have := ih (by omega); omega
theorem nsum_le {f f' : Nat → Nat} : ∀ n, (∀ i, i < n → f i ≤ f' i) → nsum f n ≤ nsum f' n := by
  intro n
  induction n with
  | zero => intro _; exact Nat.le_refl _
  | succ n ih =>
    intro h
    have h1 := ih (fun i hi => h i (by omega))
    have h2 := h n (by omega)
    rw [nsum, nsum]; omega
theorem nsum_from {f : Nat → Nat} {s0 : Nat} : ∀ d, nsum (fun s => if s0 ≤ s then f s else 0) (s0 + d) = nsum (fun i => f (s0 + i)) d := by
  intro d
  induction d with
  | zero =>
    refine nsum_z _ (fun i hi => if_neg (by omega))
  | succ d ih =>
    rw [Nat.add_succ, nsum, nsum, ih, if_pos (by omega)]
theorem isum_nI {f : Nat → Int32} {f' : Nat → Nat} : ∀ n, (∀ i, i < n → f i = nI (f' i)) → isum f n = nI (nsum f' n) := by
  intro n
  induction n with
  | zero => intro _; rfl
  | succ n ih => intro h; rw [isum, nsum, ih (fun i hi => h i (by omega)), h n (by omega), nI_add]
/-- what the table still has to give -/
def Phi (np : Nat) (B t : Nat → Nat → Nat) (st : Nat) : Nat := nsum (fun m => if st ≤ m then nsum (fun s => t m s * B m s) 31 else 0) (2 ^ np)
theorem Phi_step {np st : Nat} {B t : Nat → Nat → Nat} (h : st < 2 ^ np) : Phi np B t st = Phi np B t (st + 1) + nsum (fun s => t st s * B st s) 31 := by
  refine (nsum_at (k := st) (2 ^ np) (fun i hi hne => ?_) ?_).1 h
  · by_cases c : st ≤ i
    · rw [if_pos c, if_pos (by omega)]
    · rw [if_neg c, if_neg (by omega)]
  · rw [if_pos (Nat.le_refl _), if_neg (by omega), Nat.zero_add]
theorem Phi_end {np : Nat} {B t : Nat → Nat → Nat} : Phi np B t (2 ^ np) = 0 := nsum_z _ (fun i hi => if_neg (by omega))
theorem Phi_upd {np st m' s' x : Nat} {B t : Nat → Nat → Nat} (hm : m' < 2 ^ np) (hs : s' < 31) (h : st ≤ m') : Phi np B (fun m q => if m = m' ∧ q = s' then t m q + x else t m q) st = Phi np B t st + x * B m' s' := by
  refine (nsum_at (k := m') (2 ^ np) (fun i hi hne => ?_) ?_).1 hm
  · by_cases c : st ≤ i
    · rw [if_pos c, if_pos c]
      exact nsum_eq 31 (fun q _ => by dsimp only; rw [if_neg (fun e => hne e.1)])
    · rw [if_neg c, if_neg c]
  · rw [if_pos h, if_pos h]
    refine (nsum_at (k := s') 31 (fun i hi hne => ?_) ?_).1 hs
    · dsimp only; rw [if_neg (fun e => hne e.2)]
    · dsimp only; rw [if_pos ⟨rfl, rfl⟩, Nat.add_mul]
def cor (np : Nat) (g : Nat → Nat → Int32) (t : Nat → Nat → Nat) : Prop := ∀ m, m < 2 ^ np → ∀ s, s < 31 → g 13 (31 * m + s) = nI (t m s)
def okS (m s : Nat) : Prop := 15 ≤ s + triN (pcN m) ∧ s ≤ 15 + triN (pcN m)
def vld (np : Nat) (t : Nat → Nat → Nat) : Prop := ∀ m, m < 2 ^ np → ∀ s, s < 31 → 0 < t m s → okS m s
def nxs (s : Nat) (mo : Int32) : Nat := ((s : Int) + mo.toInt).toNat
theorem tix2 {st k s : Nat} {mo : Int32} (hst : st < 64) (hk : k < 6) (hs : s < 31) (hb : btN st k = 0) (h1 : -(pcN st : Int) ≤ mo.toInt) (h2 : mo.toInt ≤ pcN st) (hv : okS st s) :
    nxs s mo < 31 ∧ tix st k s mo = 31 * (st ||| 2 ^ k) + nxs s mo ∧ nI (nxs s mo) = nI s + mo ∧ okS (st ||| 2 ^ k) (nxs s mo) := by
  obtain ⟨v1, v2⟩ := hv
  obtain ⟨p1, p2, p3⟩ := o_pc st hst k hk hb
  obtain ⟨t1, t2⟩ := o_tri (pcN st) p3
  have hs' : 0 ≤ (s : Int) + mo.toInt ∧ (s : Int) + mo.toInt < 31 := by omega
  have hN : nxs s mo < 31 := by rw [nxs]; omega
  have hN2 : (nxs s mo : Int) = s + mo.toInt := by rw [nxs]; omega
  have e : 31 * nI (st ||| 2 ^ k) + nI s + mo = nI (31 * (st ||| 2 ^ k) + nxs s mo) := by
    rw [show (31 : Int32) = nI 31 from rfl, pk_mul, nI_add]
    refine Int32.toInt_inj.mp ?_
    rw [i_add (a := 5000) (b := 5000) (by rw [nI_toInt (by omega)]; omega) (by rw [nI_toInt (by omega)]; omega) (by omega) (by omega) (by decide), nI_toInt (by omega), nI_toInt (by omega)]
    omega
  refine ⟨hN, ?_, ?_, ?_, ?_⟩
  · rw [tix, e, nI_clamp (by omega)]
  · refine Int32.toInt_inj.mp ?_
    rw [i_add (a := 5000) (b := 5000) (by rw [nI_toInt (by omega)]; omega) (by rw [nI_toInt (by omega)]; omega) (by omega) (by omega) (by decide), nI_toInt (by omega), nI_toInt (by omega)]
    omega
  · rw [p1, ← t1]; omega
  · rw [p1, ← t1]; omega
theorem o_up : ∀ np, np < 7 → ∀ st, st < 2 ^ np → ∀ k, k < np → btN st k = 0 → st ||| 2 ^ k < 2 ^ np ∧ st < st ||| 2 ^ k := by decide +kernel
theorem o_64 {np st : Nat} (hnp : np ≤ 6) (h : st < 2 ^ np) : st < 64 := Nat.lt_of_lt_of_le h (show 2 ^ np ≤ 2 ^ 6 from Nat.pow_le_pow_right (by decide) hnp)
theorem stS_c {g : Nat → Nat → Int32} {st k : Nat} {mo : Int32} {c : Nat} (hc : ¬ c = 13) : ∀ s, stS g st k mo s c = g c := by
  intro s
  induction s with
  | zero => rfl
  | succ s ih =>
    rw [stS]
    split
    · simp [upg, hc, ih]
    · exact ih
theorem stK_c {g : Nat → Nat → Int32} {st : Nat} {c : Nat} (hc : ¬ c = 13) : ∀ k, stK g st k c = g c := by
  intro k
  induction k with
  | zero => rfl
  | succ k ih => rw [stK, stS_c hc, ih]
theorem stT_c {g : Nat → Nat → Int32} {np : Nat} {c : Nat} (hc : ¬ c = 13) : ∀ st, stT g np st c = g c := by
  intro st
  induction st with
  | zero => rfl
  | succ st ih => rw [stT, stK_c hc, ih]
def gI (g : Nat → Nat → Int32) (st k : Nat) : Int32 := isum (gnM g (nI st) k) 6
theorem gI_cong {g g' : Nat → Nat → Int32} (h : g' 12 = g 12) (st k : Nat) : gI g' st k = gI g st k := by
  rw [gI, gI]
  refine isum_eq 6 (fun j _ => ?_)
  rw [gnM, gnM, h]
theorem tb_S {np st k : Nat} {mo : Int32} (hnp : np ≤ 6) (hst : st < 2 ^ np) (hk : k < np) (h1 : -(pcN st : Int) ≤ mo.toInt) (h2 : mo.toInt ≤ pcN st) (hb : btN st k = 0) {g : Nat → Nat → Int32} {t : Nat → Nat → Nat} (hc : cor np g t) (hv : vld np t) (hl : ∀ s, s < 31 → t st s < 2 ^ 31) : ∀ s, s ≤ 31 →
    ∃ t', cor np (stS g st k mo s) t' ∧ vld np t' ∧ (∀ q, q < 31 → t' st q = t st q) ∧ ∀ B, Phi np B t' (st + 1) = Phi np B t (st + 1) + nsum (fun s => t st s * B (st ||| 2 ^ k) (nxs s mo)) s := by
  intro s
  induction s with
  | zero => intro _; exact ⟨t, hc, hv, fun _ _ => rfl, fun B => rfl⟩
  | succ s ih =>
    intro hs
    obtain ⟨t', c1, c2, c3, c4⟩ := ih (by omega)
    have e := c1 st hst s (by omega)
    rw [c3 s (by omega)] at e
    have hls := hl s (by omega)
    rcases Nat.eq_zero_or_pos (t st s) with q | q
    · refine ⟨t', ?_, c2, c3, fun B => ?_⟩
      · rw [stS, if_neg]
        · exact c1
        · rw [e, q]; exact fun x => absurd x.2 (by decide)
      · rw [c4 B, nsum, q, Nat.zero_mul]; rfl
    · obtain ⟨x1, x2, x3, x4⟩ := tix2 (o_64 hnp hst) (by omega) (by omega) hb h1 h2 (c2 st hst s (by omega) (by rw [c3 s (by omega)]; exact q))
      obtain ⟨u1, u2⟩ := o_up np (by omega) st hst k hk hb
      refine ⟨fun m r => if m = st ||| 2 ^ k ∧ r = nxs s mo then t' m r + t st s else t' m r, ?_, ?_, ?_, ?_⟩
      · rw [stS, if_pos ⟨hb, by rw [e]; exact nI_lt (a := 0) q hls⟩, e, x2]
        intro m hm r hr
        dsimp only
        by_cases w : m = st ||| 2 ^ k ∧ r = nxs s mo
        · obtain ⟨rfl, rfl⟩ := w
          rw [if_pos ⟨rfl, rfl⟩, upg_at, c1 _ hm _ hr, nI_add]
        · rw [if_neg w, ← c1 m hm r hr]
          have : ¬ 31 * m + r = 31 * (st ||| 2 ^ k) + nxs s mo := fun z => w ⟨by omega, by omega⟩
          simp [upg, upd, this]
      · intro m hm r hr hp
        dsimp only at hp
        by_cases w : m = st ||| 2 ^ k ∧ r = nxs s mo
        · obtain ⟨rfl, rfl⟩ := w; exact x4
        · rw [if_neg w] at hp; exact c2 m hm r hr hp
      · intro r hr
        dsimp only
        rw [if_neg (fun z => by omega)]; exact c3 r hr
      · intro B
        rw [Phi_upd u1 x1 (by omega), c4 B, nsum]; omega
theorem tb_K {np st : Nat} (hnp : np ≤ 6) (hst : st < 2 ^ np) {g : Nat → Nat → Int32} {t : Nat → Nat → Nat} (hc : cor np g t) (hv : vld np t) (hl : ∀ s, s < 31 → t st s < 2 ^ 31) : ∀ k, k ≤ np →
    ∃ t', cor np (stK g st k) t' ∧ vld np t' ∧ (∀ q, q < 31 → t' st q = t st q) ∧ ∀ B, Phi np B t' (st + 1) = Phi np B t (st + 1) + nsum (fun k => if btN st k = 0 then nsum (fun s => t st s * B (st ||| 2 ^ k) (nxs s (gI g st k))) 31 else 0) k := by
  intro k
  induction k with
  | zero => intro _; exact ⟨t, hc, hv, fun _ _ => rfl, fun B => rfl⟩
  | succ k ih =>
    intro hk
    obtain ⟨t', c1, c2, c3, c4⟩ := ih (by omega)
    have eg : isum (gnM (stK g st k) (nI st) k) 6 = gI g st k := gI_cong (stK_c (by decide) k) st k
    have hm := gn_m g (o_64 hnp hst) k
    rw [stK, eg]
    by_cases hb : btN st k = 0
    · obtain ⟨t'', d1, d2, d3, d4⟩ := tb_S (mo := gI g st k) hnp hst (by omega) hm.1 hm.2 hb c1 c2 (fun s hs => by rw [c3 s hs]; exact hl s hs) 31 (Nat.le_refl _)
      refine ⟨t'', d1, d2, fun q hq => (d3 q hq).trans (c3 q hq), fun B => ?_⟩
      rw [d4 B, c4 B, nsum_s (n := k), if_pos hb, Nat.add_assoc]
      congr 2
      exact nsum_eq 31 (fun s hs => by rw [c3 s hs])
    · refine ⟨t', ?_, c2, c3, fun B => ?_⟩
      · rw [stS_bit hb]; exact c1
      · rw [c4 B, nsum_s (n := k), if_neg hb]; rfl
def recB (np : Nat) (g : Nat → Nat → Int32) (B : Nat → Nat → Nat) : Prop := ∀ st, st + 1 < 2 ^ np → ∀ s, s < 31 → okS st s → B st s = nsum (fun k => if btN st k = 0 then B (st ||| 2 ^ k) (nxs s (gI g st k)) else 0) np
theorem o_fac : ∀ np, np < 7 → ∀ st, st < 2 ^ np → st + 1 < 2 ^ np → facN (np - pcN st) = nsum (fun k => if btN st k = 0 then facN (np - pcN (st ||| 2 ^ k)) else 0) np := by decide +kernel
theorem rec_fac {np : Nat} (hnp : np ≤ 6) (g : Nat → Nat → Int32) : recB np g (fun m _ => facN (np - pcN m)) := fun st hst _ _ _ => o_fac np (by omega) st (by omega) hst
theorem facN_p : ∀ k, 0 < facN k := by
  intro k
  induction k with
  | zero => decide
  | succ k ih => rw [facN]; exact Nat.mul_pos ih (by omega)
theorem tb_T {np : Nat} (hnp : np ≤ 6) {g : Nat → Nat → Int32} {t : Nat → Nat → Nat} (hc : cor np g t) (hv : vld np t) (hl : Phi np (fun m _ => facN (np - pcN m)) t 0 < 2 ^ 31) : ∀ st, st + 1 ≤ 2 ^ np →
    ∃ t', cor np (stT g np st) t' ∧ vld np t' ∧ ∀ B, recB np g B → Phi np B t' st = Phi np B t 0 := by
  intro st
  induction st with
  | zero => intro _; exact ⟨t, hc, hv, fun B _ => rfl⟩
  | succ st ih =>
    intro hs
    obtain ⟨t', c1, c2, c3⟩ := ih (by omega)
    have hst : st < 2 ^ np := by omega
    have hrow : ∀ s, s < 31 → t' st s < 2 ^ 31 := by
      intro s h31
      have e := c3 _ (rec_fac hnp g)
      have e2 := Phi_step (np := np) (st := st) (B := fun m _ => facN (np - pcN m)) (t := t') hst
      have e3 := nsum_get (f := fun s => t' st s * facN (np - pcN st)) 31 h31
      have e4 : t' st s * 1 ≤ t' st s * facN (np - pcN st) := Nat.mul_le_mul_left _ (facN_p _)
      omega
    obtain ⟨t'', d1, d2, d3, d4⟩ := tb_K hnp hst c1 c2 hrow np (Nat.le_refl _)
    refine ⟨t'', d1, d2, fun B hB => ?_⟩
    rw [d4 B, ← c3 B hB, Phi_step hst]
    congr 1
    have e1 : nsum (fun s => t' st s * B st s) 31 = nsum (fun s => nsum (fun k => t' st s * (if btN st k = 0 then B (st ||| 2 ^ k) (nxs s (gI g st k)) else 0)) np) 31 := by
      refine nsum_eq 31 (fun s h31 => ?_)
      rw [nsum_mul]
      rcases Nat.eq_zero_or_pos (t' st s) with q | q
      · rw [q, Nat.zero_mul, Nat.zero_mul]
      · rw [hB st hs s h31 (c2 st hst s h31 q)]
    rw [e1, nsum_swap]
    refine nsum_eq np (fun k hk => ?_)
    rw [gI_cong (stT_c (by decide) st)]
    split
    · rfl
    · exact (nsum_z 31 (fun s _ => Nat.mul_zero _)).symm
theorem o_full : ∀ np, np < 7 → ∀ k, k < np → ¬ btN (2 ^ np - 1) k = 0 := by decide +kernel
theorem stK_full {np : Nat} (hnp : np ≤ 6) {g : Nat → Nat → Int32} : ∀ k, k ≤ np → stK g (2 ^ np - 1) k = g := by
  intro k
  induction k with
  | zero => intro _; rfl
  | succ k ih => intro hk; rw [stK, stS_bit (o_full np (by omega) k (by omega)), ih (by omega)]
theorem tb_fin {np : Nat} (hnp : np ≤ 6) {g : Nat → Nat → Int32} {t : Nat → Nat → Nat} (hc : cor np g t) (hv : vld np t) (hl : Phi np (fun m _ => facN (np - pcN m)) t 0 < 2 ^ 31) :
    ∃ t', cor np (stT g np (2 ^ np)) t' ∧ ∀ B, recB np g B → nsum (fun s => t' (2 ^ np - 1) s * B (2 ^ np - 1) s) 31 = Phi np B t 0 := by
  have hp : 0 < 2 ^ np := Nat.pow_pos (by decide)
  obtain ⟨t', c1, -, c3⟩ := tb_T hnp hc hv hl (2 ^ np - 1) (by omega)
  refine ⟨t', ?_, fun B hB => ?_⟩
  · have e : stT g np (2 ^ np) = stT g np (2 ^ np - 1) := by
      obtain ⟨F, hF⟩ : ∃ F, 2 ^ np = F + 1 := ⟨2 ^ np - 1, by omega⟩
      have hF2 : F = 2 ^ np - 1 := by omega
      rw [← hF2, hF, stT, hF2, stK_full hnp np (Nat.le_refl _)]
    rw [e]; exact c1
  · rw [← c3 B hB, Phi_step (by omega), show 2 ^ np - 1 + 1 = 2 ^ np by omega, Phi_end, Nat.zero_add]
theorem tb_start (g : Nat → Nat → Int32) {np : Nat} (hnp : np ≤ 6) : cor np (tb0 g) (fun m s => if m = 0 ∧ s = 15 then 0 + 1 else 0) ∧ vld np (fun m s => if m = 0 ∧ s = 15 then 0 + 1 else 0) ∧ ∀ B, Phi np B (fun m s => if m = 0 ∧ s = 15 then 0 + 1 else 0) 0 = B 0 15 := by
  refine ⟨?_, ?_, ?_⟩
  · intro m hm s hs
    have h64 := o_64 hnp hm
    dsimp only
    by_cases c : m = 0 ∧ s = 15
    · rw [if_pos c, c.1, c.2, tb0, upg_at]; rfl
    · have c2 : ¬ 31 * m + s = 15 := by omega
      rw [if_neg c]
      have e : tb0 g 13 (31 * m + s) = clG g n1984 13 (31 * m + s) := by simp [tb0, upg, upd, c2]
      rw [e, clG_at g _ _ (by rw [n1984_eq]; omega)]; rfl
  · intro m hm s hs h
    dsimp only at h
    by_cases c : m = 0 ∧ s = 15
    · rw [c.1, c.2]; exact ⟨by decide, by decide⟩
    · rw [if_neg c] at h; exact absurd h (by decide)
  · intro B
    have hp : 0 < 2 ^ np := Nat.pow_pos (by decide)
    have := Phi_upd (np := np) (st := 0) (m' := 0) (s' := 15) (x := 1) (B := B) (t := fun _ _ => 0) hp (by decide) (Nat.le_refl _)
    rw [this]
    have z : Phi np B (fun _ _ => 0) 0 = 0 := by
      refine nsum_z _ (fun i _ => ?_)
      split
      · exact nsum_z 31 (fun s _ => Nat.zero_mul _)
      · rfl
    rw [z]; omega
