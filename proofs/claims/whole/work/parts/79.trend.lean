/-! trends, both -/
def ordN (Z : Nat → Nat → Int32) (np : Nat) (gl : Int32) : Nat → Nat → Int32 → Nat
  | 0, _, sm => if gl ≤ sm then 1 else 0
  | o + 1, st, sm => nsum (fun i => if btN st i = 0 then ordN Z np gl o (st ||| 2 ^ i) (sm + gI Z st i) else 0) np
theorem o_hi : ∀ np, np < 7 → ∀ st, st < 2 ^ np → ∀ i, i < 6 → np ≤ i → btN st i = 0 := by decide +kernel
theorem isum_ext {f : Nat → Int32} {n : Nat} : ∀ d, (∀ i, n ≤ i → i < n + d → f i = 0) → isum f (n + d) = isum f n := by
  intro d
  induction d with
  | zero => intro _; rfl
  | succ d ih => intro h; rw [Nat.add_succ, isum_s, ih (fun i h1 h2 => h i h1 (by omega)), h (n + d) (by omega) (by omega), Int32.add_zero]
theorem tak_N {st i : Nat} (hst : st < 64) (hi : i < 6) : takB (nI i) (nI st) = decide (¬ btN st i = 0) := by
  have hb : btN st i < 2 := Nat.mod_lt _ (by decide)
  rw [takB, o_bit st hst i hi]
  refine decide_eq_decide.mpr ?_
  rw [show (0 : Int32) = nI 0 from rfl, nI_eq (by omega) (by decide)]
theorem gain_rel {G Z : Nat → Nat → Int32} {np : Nat} (hnp : np ≤ 6) (hG : ∀ k, k < np → G 12 k = Z 12 k) {st j : Nat} (hst : st < 2 ^ np) (hj : j < np) : gainI G np j (nI st) = gI Z st j := by
  have h64 := o_64 hnp hst
  rw [gI, gainI, show isum (gnM Z (nI st) j) 6 = isum (gnM Z (nI st) j) (np + (6 - np)) by rw [show np + (6 - np) = 6 by omega], isum_ext (6 - np) (fun i h1 h2 => by
    rw [gnM, o_bit st h64 i (by omega), o_hi np (by omega) st hst i (by omega) h1, if_neg (show ¬ nI 0 = 1 by decide)])]
  refine isum_eq np (fun i hi => ?_)
  have hb : btN st i < 2 := Nat.mod_lt _ (by decide)
  rw [tak_N h64 (by omega), gnM, o_bit st h64 i (by omega), hG i hi, hG j hj, icmp]
  rcases (show btN st i = 0 ∨ btN st i = 1 by omega) with q | q
  · rw [q, if_neg (by decide), if_neg (show ¬ nI 0 = 1 by decide)]
  · rw [q, if_pos (by decide), if_pos (show nI 1 = 1 from rfl)]
    by_cases c1 : Z 12 j < Z 12 i
    · have c2 : ¬ Z 12 i < Z 12 j := fun c => by
        have h1 := Int32.lt_iff_toInt_lt.mp c
        have h2 := Int32.lt_iff_toInt_lt.mp c1
        omega
      rw [if_pos c1, if_neg c2, if_pos c1]
    · rw [if_neg c1]
      by_cases c2 : Z 12 j = Z 12 i
      · have c3 : ¬ Z 12 i < Z 12 j := fun c => by
          have h1 := Int32.lt_iff_toInt_lt.mp c
          rw [c2] at h1
          omega
        rw [if_pos c2, if_neg c3, if_neg c1]
      · have c3 : Z 12 i < Z 12 j := by
          refine Int32.lt_iff_toInt_lt.mpr ?_
          have h1 : ¬ (Z 12 j).toInt < (Z 12 i).toInt := fun q => c1 (Int32.lt_iff_toInt_lt.mpr q)
          have h2 : ¬ (Z 12 j).toInt = (Z 12 i).toInt := fun q => c2 (Int32.toInt_inj.mp q)
          omega
        rw [if_neg c2, if_pos c3]
theorem o_msk : ∀ j, j < 7 → msk j = nI (2 ^ j - 1) := by decide +kernel
theorem o_lo : ∀ np, np < 7 → ∀ j, j < np → 2 ^ j - 1 < 2 ^ np := by decide +kernel
theorem sum_rel {G Z : Nat → Nat → Int32} {np : Nat} (hnp : np ≤ 6) (hG : ∀ k, k < np → G 12 k = Z 12 k) : sumI G np = sgM Z np := by
  rw [sumI, sgM]
  refine isum_eq np (fun j hj => ?_)
  rw [o_msk j (by omega), o_m1 j (by omega), gain_rel hnp hG (o_lo np (by omega) j hj) hj, gI]
theorem ord_rel {G Z : Nat → Nat → Int32} {np : Nat} (hnp : np ≤ 6) (hG : ∀ k, k < np → G 12 k = Z 12 k) {gl : Int32} : ∀ (o st : Nat) (sm : Int32), st < 2 ^ np → ordI G np o (nI st) sm gl = nI (ordN Z np gl o st sm) := by
  intro o
  induction o with
  | zero =>
    intro st sm _
    rw [ordI, ordN]
    split <;> rfl
  | succ o ih =>
    intro st sm hst
    have h64 := o_64 hnp hst
    rw [ordI, ordN]
    refine isum_nI np (fun i hi => ?_)
    rw [tak_N h64 (by omega)]
    by_cases c : btN st i = 0
    · rw [if_neg (by simp [c]), if_pos c, o_or st h64 i (by omega), gain_rel hnp hG hst hi, ih _ _ (o_up np (by omega) st hst i hi c).1]
    · rw [if_pos (by simp [c]), if_neg c]; rfl
theorem o_pcl : ∀ np, np < 7 → ∀ st, st < 2 ^ np → st + 1 < 2 ^ np → pcN st < np := by decide +kernel
theorem o_pcf : ∀ np, np < 7 → pcN (2 ^ np - 1) = np := by decide +kernel
theorem i_sac (a b c : Int32) : a + b - c = a - c + b := by
  simp only [Int32.sub_eq_add_neg]
  ac_rfl
theorem rec_ord {Z : Nat → Nat → Int32} {np : Nat} (hnp : np ≤ 6) {gl : Int32} : recB np Z (fun m s => ordN Z np gl (np - pcN m) m (nI s - 15)) := by
  intro st hst s hs hv
  have h64 := o_64 hnp (show st < 2 ^ np by omega)
  have hp := o_pcl np (by omega) st (by omega) hst
  obtain ⟨o, ho⟩ : ∃ o, np - pcN st = o + 1 := ⟨np - pcN st - 1, by omega⟩
  dsimp only
  rw [ho, ordN]
  refine nsum_eq np (fun k hk => ?_)
  by_cases c : btN st k = 0
  · have hm := gn_m Z h64 k
    obtain ⟨-, -, x3, -⟩ := tix2 (mo := gI Z st k) h64 (by omega) hs c hm.1 hm.2 hv
    rw [if_pos c, if_pos c, (o_pc st h64 k (by omega) c).1, x3, show np - (pcN st + 1) = o by omega, i_sac]
  · rw [if_neg c, if_neg c]
theorem ord_tab {Z : Nat → Nat → Int32} {np : Nat} (hnp : np ≤ 6) {gl : Int32} {s0 : Nat} (hs0 : s0 ≤ 30) (hgl : gl + 15 = nI s0) : otM Z np s0 = nI (ordN Z np gl np 0 0) ∧ ordN Z np gl np 0 0 < 2 ^ 31 := by
  obtain ⟨a1, a2, a3⟩ := tb_start Z hnp
  have pc0 : pcN 0 = 0 := by decide
  have hf : Phi np (fun m _ => facN (np - pcN m)) (fun m s => if m = 0 ∧ s = 15 then 0 + 1 else 0) 0 = facN np := by
    rw [a3, pc0, Nat.sub_zero]
  have hfb := (facN_b np (by omega)).2
  obtain ⟨t', c1, c2⟩ := tb_fin hnp a1 a2 (by rw [hf]; exact hfb)
  have hg0 : recB np (tb0 Z) = recB np Z := by
    funext B
    have e : ∀ st k, gI (tb0 Z) st k = gI Z st k := fun st k => gI_cong (by
      have h1 : ∀ q, clG Z q 12 = Z 12 := by
        intro q
        induction q with
        | zero => rfl
        | succ q ih => rw [clG]; simp [upg, ih]
      rw [tb0]; simp [upg, h1]) st k
    simp only [recB, e]
  rw [hg0] at c2
  have d1 := c2 _ (rec_ord (gl := gl) hnp)
  have d2 := c2 _ (rec_fac hnp Z)
  rw [hf] at d2
  rw [a3] at d1
  rw [pc0, Nat.sub_zero, show nI 15 - 15 = 0 by decide, o_pcf np (by omega), Nat.sub_self] at d1
  rw [o_pcf np (by omega), Nat.sub_self] at d2
  have egl : gl = nI s0 - 15 := by rw [← hgl, Int32.add_sub_cancel]
  have e1 : nsum (fun s => t' (2 ^ np - 1) s * ordN Z np gl 0 (2 ^ np - 1) (nI s - 15)) 31 = nsum (fun s => if s0 ≤ s then t' (2 ^ np - 1) s else 0) 31 := by
    refine nsum_eq 31 (fun s hs => ?_)
    rw [ordN]
    have e : gl ≤ nI s - 15 ↔ s0 ≤ s := by
      rw [egl, Int32.le_iff_toInt_le, show (15 : Int32) = nI 15 from rfl, pk_sub_toInt (by omega) (by decide), pk_sub_toInt (by omega) (by decide)]
      omega
    by_cases c : s0 ≤ s
    · rw [if_pos c, if_pos (e.mpr c), Nat.mul_one]
    · rw [if_neg c, if_neg (fun q => c (e.mp q)), Nat.mul_zero]
  rw [e1] at d1
  have e2 : nsum (fun s => if s0 ≤ s then t' (2 ^ np - 1) s else 0) 31 = nsum (fun i => t' (2 ^ np - 1) (s0 + i)) (31 - s0) := by
    have := nsum_from (f := fun s => t' (2 ^ np - 1) s) (s0 := s0) (31 - s0)
    rw [show s0 + (31 - s0) = 31 by omega] at this
    exact this
  have hp : 0 < 2 ^ np := Nat.pow_pos (by decide)
  refine ⟨?_, ?_⟩
  · rw [otM, ← d1, e2]
    refine isum_nI _ (fun i hi => ?_)
    rw [Nat.add_assoc]
    exact c1 (2 ^ np - 1) (by omega) (s0 + i) (by omega)
  · rw [← d1]
    refine Nat.lt_of_le_of_lt ?_ hfb
    rw [← d2]
    refine nsum_le 31 (fun s _ => ?_)
    rw [show facN 0 = 1 from rfl, Nat.mul_one]
    split
    · exact Nat.le_refl _
    · exact Nat.zero_le _
theorem o_fi : ∀ k, k < 7 → facI k = nI (facN k) := by decide +kernel
theorem cm_N {a q : Nat} (ha : a < 2 ^ 31) (hq0 : 0 < q) (hq : q < 2 ^ 31) : cmI (nI a) q = nI (Nat.gcd a q) := by
  rw [cmI, pk_rem ha hq0 hq]
  have hm := Nat.mod_lt a hq0
  rw [nI_clamp (by omega)]
  have e : Nat.gcd q (a % q) = Nat.gcd a q := by
    rw [Nat.gcd_comm q, ← Nat.gcd_rec, Nat.gcd_comm]
  by_cases c : a % q = 0
  · rw [c, if_neg (by rw [nI_0]; decide)]
    rw [c, Nat.gcd_zero_right] at e
    rw [← e]
  · rw [if_pos (show (0 : Int32) < nI (a % q) from nI_lt (a := 0) (Nat.pos_of_ne_zero c) (by omega)), e]
theorem tr_rel {G Z : Nat → Nat → Int32} {np : Nat} (hnp : np ≤ 6) (hG : ∀ k, k < np → G 12 k = Z 12 k) (w : Int32) : trA G np w = trM Z np w := by
  have e1 := sum_rel hnp hG
  obtain ⟨s1, s2⟩ := sg_ok Z hnp
  obtain ⟨o1, o2⟩ := ord_tab (Z := Z) (gl := sgM Z np) hnp s2 s1
  obtain ⟨f1, f2⟩ := facN_b np (by omega)
  have e2 : ordI G np np 0 0 (sgM Z np) = nI (ordN Z np (sgM Z np) np 0 0) := ord_rel hnp hG np 0 0 (Nat.pow_pos (by decide))
  rw [trA, trM, e1, e2, o1, o_fi np (by omega), facM_n, lowT_N o2 f2 f1, cm_N o2 f1 f2]
theorem tc_rel {n nd f0 t0 : Nat} {v : Nat → Int32} {g : Nat → Nat → Int32} {y : Nat → Int32} {z : Nat → Nat → Int32} (h : Rl n nd f0 t0 v g y z) {fr dy : Int32} : ∀ k,
    (∀ c, ¬ c = 12 → trG v g fr dy n k c = g c) ∧ (∀ c, ¬ c = 12 → tcG z y fr dy n k c = z c) ∧ (∀ j, j < k → trG v g fr dy n k 12 j = tcG z y fr dy n k 12 j) := by
  obtain ⟨-, -, -, ⟨q5, q6, k1, k2⟩, -, -, -, i8⟩ := h
  intro k
  induction k with
  | zero => exact ⟨fun _ _ => rfl, fun _ _ => rfl, fun j hj => absurd hj (Nat.not_lt_zero j)⟩
  | succ k ih =>
    obtain ⟨a1, a2, a3⟩ := ih
    refine ⟨fun c hc => by rw [trG]; simp [upg, hc, a1 c hc], fun c hc => by rw [tcG]; simp [upg, hc, a2 c hc], fun j hj => ?_⟩
    rw [trG, tcG]
    by_cases c : j = k
    · subst c
      rw [upg_at, upg_at]
      refine cnt_eq n (fun i hi => ?_)
      rw [askB_cong (fun c hc => a1 c (by omega)), fitB_cong (fun c hc => a2 c (by omega)), rel_ask (i8 i hi) k1 k2, q5, q6, Int32.mul_comm]
    · have := a3 j (by omega)
      simpa [upg, upd, c] using this
theorem rgT_B {fr dy pr : Int32} : (¬ inR pr 2 6 ∨ ¬ inR dy 1 1000 ∨ ¬ inR fr 0 (10000 - dy * pr)) ↔ rgT fr dy pr = true := by
  rw [rgT]
  by_cases c1 : inR pr 2 6
  · by_cases c2 : inR dy 1 1000
    · obtain ⟨p, hp, rfl⟩ := inR_n (m := 6) (by decide) ⟨Int32.le_trans (by decide) c1.1, c1.2⟩
      obtain ⟨d, hd, rfl⟩ := inR_n (m := 1000) (by decide) ⟨Int32.le_trans (by decide) c2.1, c2.2⟩
      have hp1 : 2 ≤ p := (nI_leI (a := 2) (by decide) (by omega)).mp c1.1
      have hd1 : 1 ≤ d := (nI_leI (a := 1) (by decide) (by omega)).mp c2.1
      have hm : d * p ≤ 1000 * 6 := Nat.mul_le_mul hd hp
      have hm2 : 1 * 2 ≤ d * p := Nat.mul_le_mul hd1 hp1
      have b1 := inR_B.mp c1
      have b2 := inR_B.mp c2
      rw [b1, b2, pk_mul]
      simp only [c1, c2, not_true, false_or, Bool.not_true, Bool.false_or]
      by_cases c3 : fr < 0
      · have : ¬ inR fr 0 (10000 - nI (d * p)) := fun q => Int32.not_lt.mpr q.1 c3
        simp [this, c3]
      · obtain ⟨f, hf, rfl⟩ := nI_of c3
        have e : (10000 : Int32) - nI (d * p) = nI (10000 - d * p) := pk_sub (a := 10000) (by omega)
        rw [e, inR, inB]
        have e1 : nI f ≤ nI (10000 - d * p) ↔ f ≤ 10000 - d * p := nI_leI hf (by omega)
        have e2 : nI f ≤ 9999 ↔ f ≤ 9999 := nI_leI (b := 9999) hf (by decide)
        have e0 : 0 ≤ nI f := nI_pos' hf
        rw [e1]
        simp only [decide_eq_false c3, Bool.false_or, Bool.or_eq_true, decide_eq_true_iff, Bool.not_eq_true', Bool.and_eq_false_iff, decide_eq_false_iff_not, e2, e0, true_and, not_true, false_or]
        by_cases c4 : f ≤ 9999
        · have e3 : 10000 < nI f + nI (d * p) ↔ 10000 < f + d * p := by
            rw [nI_add]; exact nI_ltI (a := 10000) (by decide) (by omega)
          rw [e3]; omega
        · simp only [c4, not_false_iff, true_or, iff_true]; omega
    · have b2 : inB dy 1 1000 = false := b_f inR_B c2
      simp [c2, b2]
  · have b1 : inB pr 2 6 = false := b_f inR_B c1
    simp [c1, b1]
theorem clG_c (g : Nat → Nat → Int32) {c : Nat} (hc : ¬ c = 13) : ∀ q, clG g q c = g c := by
  intro q
  induction q with
  | zero => rfl
  | succ q ih => rw [clG]; simp [upg, hc, ih]
theorem tb0_c (g : Nat → Nat → Int32) {c : Nat} (hc : ¬ c = 13) : tb0 g c = g c := by
  rw [tb0]; simp [upg, hc, clG_c g hc]
theorem st_trend {n nd f0 t0 : Nat} {v : Nat → Int32} {g : Nat → Nat → Int32} {y : Nat → Int32} {z : Nat → Nat → Int32} (h : Rl n nd f0 t0 v g y z) {fo : Nat → Int64} {fr dy pr w r b : Int32} {u : StA × (Nat → Int64)} {u2 : StA}
    (h1 : (r = 0 ∧ (inU w 3 ∧ inR pr 2 6 ∧ inR dy 1 1000 ∧ inR fr 0 (10000 - dy * pr)) ∧ u = ((upd v 6 pr, trG v g fr dy n pr.toNatClampNeg), vp_updL fo 0 (trA (trG v g fr dy n pr.toNatClampNeg) pr.toNatClampNeg w).toInt64)) ∨ (trc r (¬ inU w 3) (¬ inR pr 2 6 ∨ ¬ inR dy 1 1000 ∨ ¬ inR fr 0 (10000 - dy * pr)) (False) ∧ u = ((v, g), fo)))
    (h2 : b = (if 0 < thI (bI (!(inB w 0 2))) (bI (rgT fr dy pr)) 0 then 0 else trM (tcG z y fr dy n pr.toNatClampNeg) pr.toNatClampNeg w) ∧ u2 = (upd y 0 (thI (bI (!(inB w 0 2))) (bI (rgT fr dy pr)) 0), if 0 < thI (bI (!(inB w 0 2))) (bI (rgT fr dy pr)) 0 then z else stT (tb0 (tcG z y fr dy n pr.toNatClampNeg)) pr.toNatClampNeg (2 ^ pr.toNatClampNeg))) :
    u2.1 0 = r ∧ (r = 0 → u.2 0 = b.toInt64) ∧ Rel u.1.1 u.1.2 u2.1 u2.2 := by
  have c1 := nB (inU_B (x := w) (y := 3) (k := 2) (by decide))
  have c2 := rgT_B (fr := fr) (dy := dy) (pr := pr)
  obtain ⟨hb, hu2⟩ := h2
  rcases h1 with ⟨rfl, ⟨a1, a2, a3, a4⟩, rfl⟩ | ⟨ht, rfl⟩
  · have tz := th_0 (b_f c1 (by simp [a1])) (b_f c2 (by simp [a2, a3, a4])) (b3 := false) rfl
    rw [bI_f] at tz
    rw [tz, if_neg (by decide)] at hb hu2
    subst hu2
    obtain ⟨p, hp, rfl⟩ := inR_n (m := 6) (by decide) ⟨Int32.le_trans (by decide) a2.1, a2.2⟩
    rw [nI_clamp (by omega)] at hb ⊢
    obtain ⟨s1, s2, s3⟩ := tc_rel h (fr := fr) (dy := dy) p
    refine ⟨by simp [upd], fun _ => ?_, n, nd, f0, t0, Rl_keep h (fun k hk => by simp [upd, show ¬ k = 6 by omega]) upd_0 (fun c hc => s1 c (by omega)) (fun c hc => ?_)⟩
    · dsimp only
      rw [upL_0, hb, tr_rel hp s3]
    · dsimp only
      rw [stT_c (by omega), tb0_c _ (by omega), s2 c (by omega)]
  · have tt := trc_th _ _ false ht c1 (fun _ => c2) fB
    rw [bI_f] at tt
    obtain ⟨e1, e2, e3⟩ := tt
    rw [e1, if_pos e2] at hu2
    subst hu2
    exact ⟨by simp [upd], fun c => absurd c e3, n, nd, f0, t0, Rl_y0 h⟩
theorem Rel_start : Rel v00 g00 vM0 gM0 := by
  refine ⟨0, 0, 0, 9999, ⟨by decide, rfl, rfl⟩, ⟨by decide, rfl, rfl⟩, ⟨rfl, rfl, rfl, rfl, by decide, by decide⟩, ⟨rfl, rfl, okA_m, okA_m⟩, ⟨rfl, ⟨by decide, by decide⟩⟩, fun i _ => ⟨rfl, ⟨by show (0 : Int) ≤ (0 : Int32).toInt; decide, by show (0 : Int32).toInt ≤ 1000000; decide⟩⟩, fun i hi => absurd hi (Nat.not_lt_zero i), fun i hi => absurd hi (Nat.not_lt_zero i)⟩
