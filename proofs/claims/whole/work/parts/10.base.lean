/-! Own rows: reading an array at a counted place; booleans as ints; counting. -/
section OWNB
variable {p : Program} {l : Launch} {e : Env} {R : Room} {s : State} {m : MethodId} {args : Array Value} {below : List Frame} {meth : Method} {c : Code} {H : Heap} {locs : List Loc} {cells slots : Nat} {Q : State → Prop}
variable {cc : ByteArray} {pc : Nat} {ls : Array Slot} {rest : List Value} {D : va_G} {cl : List vw_C} {ws : va_W} {tys : List (ClassId × FieldType)} {a : Nat} {A : Nat → Prop} {H0 : Heap}
theorem wi_ald (hexec : p.tables.exec = Jvm.exec) (hb : c.code = cc) (hK : va_K D cl tys s) (hP : va_P D cl ws H) (q0 t0 : Nat) {cA : ClassId} {n : Nat} {f : Nat → Int32} (ha : ws[q0]? = some (a, .inl (cA, n, .inl f))) (ht : tys[t0]? = some (cA, .int)) {k : Nat} (hk : k < n) (hn : n < 2 ^ 31) (hdg : decode cc pc = .ok (.iaload, 1))
    (kk : W p l e R s m args below meth c H locs cells slots Q (F0 m (pc + 1) ls (.int (f k) :: rest))) : W p l e R s m args below meth c H locs cells slots Q (F0 m pc ls (.int (nI k) :: .ref a :: rest)) := by
  refine va_iald hexec hb hK hP q0 t0 ha ht (vp_in_nI hk hn) hdg ?_
  rw [nI_clamp (Nat.lt_trans hk hn)]
  exact kk
theorem wz_ald (hexec : p.tables.exec = Jvm.exec) (hb : c.code = cc) (hK : va_K D cl tys s) (hP : va_P D cl ws H) (q0 t0 : Nat) {cA : ClassId} {n : Nat} {f : Nat → Int32} (ha : ws[q0]? = some (a, .inl (cA, n, .inl f))) (ht : tys[t0]? = some (cA, .boolean)) {k : Nat} (hk : k < n) (hn : n < 2 ^ 31) (hdg : decode cc pc = .ok (.baload, 1))
    (kk : W p l e R s m args below meth c H locs cells slots Q (F0 m (pc + 1) ls (.int (f k) :: rest))) : W p l e R s m args below meth c H locs cells slots Q (F0 m pc ls (.int (nI k) :: .ref a :: rest)) := by
  refine va_zald hexec hb hK hP q0 t0 ha ht (vp_in_nI hk hn) hdg ?_
  rw [nI_clamp (Nat.lt_trans hk hn)]
  exact kk
theorem wi_ast (hexec : p.tables.exec = Jvm.exec) (hb : c.code = cc) (hK : va_K D cl tys s) (hP : va_P D cl ws H) (hD : va_D A ws) (hS : va_S A H0 H locs) (q0 t0 : Nat) {cA : ClassId} {n : Nat} {f : Nat → Int32} (ha : ws[q0]? = some (a, .inl (cA, n, .inl f))) (ht : tys[t0]? = some (cA, .int)) {k : Nat} {x : Int32} (hk : k < n) (hn : n < 2 ^ 31) (hdg : decode cc pc = .ok (.iastore, 1))
    (kk : ∀ (H1 : Heap) (locs1 : List Loc), va_P D cl (ws.set q0 (a, .inl (cA, n, .inl (upd f k x)))) H1 → va_D A (ws.set q0 (a, .inl (cA, n, .inl (upd f k x)))) → va_S A H0 H1 locs1 → W p l e R s m args below meth c H1 locs1 cells slots Q (F0 m (pc + 1) ls rest)) : W p l e R s m args below meth c H locs cells slots Q (F0 m pc ls (.int x :: .int (nI k) :: .ref a :: rest)) := by
  refine va_iast hexec hb hK hP hD hS q0 t0 ha ht (vp_in_nI hk hn) hdg ?_
  rw [nI_clamp (Nat.lt_trans hk hn)]
  exact kk
theorem wz_ast (hexec : p.tables.exec = Jvm.exec) (hb : c.code = cc) (hK : va_K D cl tys s) (hP : va_P D cl ws H) (hD : va_D A ws) (hS : va_S A H0 H locs) (q0 t0 : Nat) {cA : ClassId} {n : Nat} {f : Nat → Int32} (ha : ws[q0]? = some (a, .inl (cA, n, .inl f))) (ht : tys[t0]? = some (cA, .boolean)) {k : Nat} {x : Int32} (hx1 : vp_nar .boolean x = x) (hk : k < n) (hn : n < 2 ^ 31) (hdg : decode cc pc = .ok (.bastore, 1))
    (kk : ∀ (H1 : Heap) (locs1 : List Loc), va_P D cl (ws.set q0 (a, .inl (cA, n, .inl (upd f k x)))) H1 → va_D A (ws.set q0 (a, .inl (cA, n, .inl (upd f k x)))) → va_S A H0 H1 locs1 → W p l e R s m args below meth c H1 locs1 cells slots Q (F0 m (pc + 1) ls rest)) : W p l e R s m args below meth c H locs cells slots Q (F0 m pc ls (.int x :: .int (nI k) :: .ref a :: rest)) := by
  refine va_zast hexec hb hK hP hD hS q0 t0 ha ht (vp_in_nI hk hn) hdg ?_
  rw [nI_clamp (Nat.lt_trans hk hn), hx1]
  exact kk
end OWNB
def bI (b : Bool) : Int32 := if b = true then 1 else 0
theorem bI_0 {b : Bool} : bI b = 0 ↔ b = false := by cases b <;> simp [bI]
theorem bI_n0 {b : Bool} : ¬ bI b = 0 ↔ b = true := by cases b <;> simp [bI]
theorem bI_t : bI true = 1 := rfl
theorem bI_f : bI false = 0 := rfl
/-- how many of the first n -/
def cnt (P : Nat → Bool) : Nat → Int32
  | 0 => 0
  | n + 1 => cnt P n + bI (P n)
theorem cnt_s {P : Nat → Bool} {n : Nat} : cnt P (n + 1) = cnt P n + bI (P n) := rfl
/-- a sum over the first n -/
def isum (f : Nat → Int32) : Nat → Int32
  | 0 => 0
  | n + 1 => isum f n + f n
theorem isum_s {f : Nat → Int32} {n : Nat} : isum f (n + 1) = isum f n + f n := rfl
/-! what the class reckons, over its columns g and numbers v -/
/- g: 0 people; 1 days, 2 marks of definitions; 3 day, 4 hour, 5 kind, 6 area, 7 station, 8 marks, 9 turn-out, 10 travel of rows; 11 sorted; 12 counts of a trend; 13 rows of areas; 14 joined.  v: 0 from, 1 to, 2 kind, 3 area asked; 4 definitions, 5 rows, 6 periods, 7 least, 8 together -/
def hidB (g : Nat → Nat → Int32) (k : Nat) : Bool := decide (¬ (g 8 k &&& 2) = 0)
def spanB (g : Nat → Nat → Int32) (k : Nat) (f t : Int32) : Bool := decide (f ≤ g 3 k) && decide (g 3 k ≤ t)
def askB (g : Nat → Nat → Int32) (k : Nat) (f t kd ar : Int32) : Bool := !(hidB g k) && spanB g k f t && (decide (kd = -1) || decide (g 5 k = kd)) && (decide (ar = -1) || decide (g 6 k = ar))
def workB (g : Nat → Nat → Int32) (k : Nat) (st f t : Int32) : Bool := decide (g 7 k = st) && askB g k f t (-1) (-1)
def bothB (g : Nat → Nat → Int32) (k : Nat) : Bool := decide (¬ g 9 k = -1) && decide (¬ g 10 k = -1)
def woutB (g : Nat → Nat → Int32) (k : Nat) (mk : Int32) : Bool := decide (mk = -1) || !(bothB g k)
def winB (g : Nat → Nat → Int32) (k : Nat) (mk : Int32) : Bool := !(woutB g k mk) && decide (g 9 k + g 10 k ≤ mk)
def secs (x : Int32) : Int32 := if x = -1 then 0 else x
def amt (g : Nat → Nat → Int32) (k : Nat) (what mk : Int32) : Int32 :=
  if what = 0 then 1 else if what = 1 then bI (decide (¬ (g 8 k &&& 1) = 0)) else if what = 2 then bI (winB g k mk) else if what = 3 then bI (woutB g k mk) else if what = 4 then secs (g 9 k) else 0
/-- the mark that holds on a day, and since when: out of the first n definitions -/
def mkF (g : Nat → Nat → Int32) (day : Int32) : Nat → Int32 × Int32
  | 0 => (-1, 0)
  | n + 1 => if g 1 n ≤ day ∧ (mkF g day n).2 ≤ g 1 n then (g 2 n, g 1 n) else mkF g day n
def mkOn (g : Nat → Nat → Int32) (n : Nat) (day : Int32) : Int32 := (mkF g day n).1
/-! the one world of the class: cells a 0 .. a 19, numbers v, columns g -/
abbrev StA : Type := (Nat → Int32) × (Nat → Nat → Int32)
abbrev wA (cI cZ : ClassId) (a : Nat → Nat) (v : Nat → Int32) (g : Nat → Nat → Int32) : va_W :=
  [(a 0, .inr (4, [.ref (a 2), .ref (a 5), .ref (a 15), .ref (a 17), .ref (a 1), .int (v 0), .int (v 1), .int (v 2), .int (v 3)])),
   (a 1, .inl (cI, 10, .inl (g 0))),
   (a 2, .inr (0, [.ref (a 3), .ref (a 4), .int (v 4)])), (a 3, .inl (cI, 6, .inl (g 1))), (a 4, .inl (cI, 6, .inl (g 2))),
   (a 5, .inr (1, [.ref (a 6), .ref (a 7), .ref (a 8), .ref (a 9), .ref (a 10), .ref (a 11), .ref (a 12), .ref (a 13), .ref (a 14), .int (v 5)])),
   (a 6, .inl (cI, 200, .inl (g 3))), (a 7, .inl (cI, 200, .inl (g 4))), (a 8, .inl (cI, 200, .inl (g 5))), (a 9, .inl (cI, 200, .inl (g 6))), (a 10, .inl (cI, 200, .inl (g 7))), (a 11, .inl (cI, 200, .inl (g 8))), (a 12, .inl (cI, 200, .inl (g 9))), (a 13, .inl (cI, 200, .inl (g 10))), (a 14, .inl (cI, 200, .inl (g 11))),
   (a 15, .inr (3, [.ref (a 16), .int (v 6)])), (a 16, .inl (cI, 6, .inl (g 12))),
   (a 17, .inr (2, [.ref (a 18), .ref (a 19), .int (v 7), .int (v 8)])), (a 18, .inl (cI, 10, .inl (g 13))), (a 19, .inl (cZ, 10, .inl (g 14)))]
abbrev tyA (cI cZ cJ : ClassId) : List (ClassId × FieldType) := [(cI, .int), (cZ, .boolean), (cJ, .long)]
/-- a column written -/
def upg (g : Nat → Nat → Int32) (j k : Nat) (x : Int32) : Nat → Nat → Int32 := fun i => if i = j then upd (g j) k x else g i
abbrev atA (dC : Nat → ClassId) (dI : Nat → Nat → Nat) (cI cZ cJ : ClassId) (a : Nat → Nat) (A : Nat → Prop) (u : StA) (t : State) : Prop :=
  va_P (dC, dI) clA (wA cI cZ a u.1 u.2) t.heap ∧ va_K (dC, dI) clA (tyA cI cZ cJ) t ∧ va_D A (wA cI cZ a u.1 u.2)
/-- a caller's words hold a callee's -/
theorem gd_V {c0 c1 : Cond} {own : String} {idx : Nat} {C : String} {y : MethodName} (h1 : Cond.methodLink own idx y ∈ allW) (h2 : Cond.instanceMethod y ∈ allW) (h3 : Cond.selects C y y ∈ allW) (h4 : Cond.initialized C ∈ allW) (h5 : c1 ∈ allW) : GoodIn (c0 :: allW) (wsV own idx C y (c1 :: allW)) := by
  intro w hw
  have hm : w ∈ allW := by
    simp only [wsV, List.mem_append, List.mem_cons, List.not_mem_nil, or_false] at hw
    rcases hw with (rfl | rfl | rfl | rfl) | rfl | h
    · exact h1
    · exact h2
    · exact h3
    · exact h4
    · exact h5
    · exact h
  exact ⟨List.mem_cons_of_mem _ hm, good_of_word (List.mem_filter.mp hm).2⟩
theorem gd_S {c0 c1 : Cond} {own : String} {idx : Nat} {y : MethodName} (h1 : Cond.methodLink own idx y ∈ allW) (h2 : Cond.static y ∈ allW) (h4 : Cond.initialized own ∈ allW) (h5 : c1 ∈ allW) : GoodIn (c0 :: allW) (wsS own idx y (c1 :: allW)) := by
  intro w hw
  have hm : w ∈ allW := by
    simp only [wsS, List.mem_append, List.mem_cons, List.not_mem_nil, or_false] at hw
    rcases hw with (rfl | rfl | rfl) | rfl | h
    · exact h1
    · exact h2
    · exact h4
    · exact h5
    · exact h
  exact ⟨List.mem_cons_of_mem _ hm, good_of_word (List.mem_filter.mp hm).2⟩
theorem gd_I {c0 c1 : Cond} (h5 : c1 ∈ allW) : GoodIn (c0 :: allW) (c1 :: allW) := by
  intro w hw
  have hm : w ∈ allW := by
    rcases List.mem_cons.mp hw with rfl | h
    · exact h5
    · exact h
  exact ⟨List.mem_cons_of_mem _ hm, good_of_word (List.mem_filter.mp hm).2⟩
